/-! what stays true of the parser's machine -/
/-- a rule's code (latest ahead) begins with an operand -/
def cOk (c : List Int32) : Prop := ∀ x, c.getLast? = some x → opnd x = true
theorem cOk_cons {x y : Int32} {c : List Int32} (h : cOk (y :: c)) : cOk (x :: y :: c) := by
  intro z hz
  rw [List.getLast?_cons_cons] at hz
  exact h z hz
theorem cOk_edn (q : Nat) : ∀ (l : List Nat) (c : List Int32), cOk c → (c = [] → ∀ x, x ∈ l → x = 0) → 1 ≤ q → cOk (edn q l c).2 ∧ ((edn q l c).2 = [] → ∀ x, x ∈ (edn q l c).1 → x = 0)
  | [], c, h, h0, _ => ⟨h, h0⟩
  | x :: t, c, h, h0, hq => by
    rw [edn]
    split
    · rename_i hr
      have hc : c ≠ [] := by
        intro e
        have := h0 e x List.mem_cons_self
        subst this
        rw [rk_0] at hr; omega
      obtain ⟨y, d, rfl⟩ : ∃ y d, c = y :: d := by
        cases c with
        | nil => exact absurd rfl hc
        | cons y d => exact ⟨y, d, rfl⟩
      exact cOk_edn q t _ (cOk_cons h) (fun e => absurd e (List.cons_ne_nil _ _)) hq
    · exact ⟨h, h0⟩
def pInv (k : Nat) (s : pS) : Prop := s.1 ≤ 6 ∧ s.2.1 ≤ 6 ∧ stk s.2.1 6 s.2.2.2.2.1 ∧ s.2.2.2.2.2.length ≤ 20 ∧ lenC s.2.2.2.2.2 + s.2.2.2.2.1.length ≤ k ∧ (s.1 ≠ 0 → s.2.2.2.2.2 ≠ []) ∧ (s.1 ≠ 5 → s.1 ≠ 6 → s.2.2.2.2.1 = [] ∧ s.2.1 = 0) ∧ (∀ r, r ∈ s.2.2.2.2.2 → cOk r.2.2) ∧ (∀ r rs, s.2.2.2.2.2 = r :: rs → r.2.2 = [] → ∀ x, x ∈ s.2.2.2.2.1 → x = 0) ∧ (s.1 = 6 → ∀ r rs, s.2.2.2.2.2 = r :: rs → r.2.2 ≠ [])
theorem xor_m1 (x : Int32) : (x ^^^ -1).toInt = -x.toInt - 1 := by
  have h : (x ^^^ -1).toBitVec = ~~~ x.toBitVec := by
    show x.toBitVec ^^^ (-1 : Int32).toBitVec = _
    rw [show (-1 : Int32).toBitVec = BitVec.allOnes 32 from by decide, BitVec.xor_allOnes]
  show (x ^^^ -1).toBitVec.toInt = - x.toBitVec.toInt - 1
  rw [h, BitVec.toInt_not]
  have h1 := x.toBitVec.isLt
  rw [BitVec.toInt_eq_toNat_bmod]
  have : (2 ^ 32 : Nat) = 4294967296 := by decide
  simp only [Int.bmod]
  omega
theorem opnd_nI {n : Nat} (h : n < 2 ^ 31) : opnd (nI n) = true := by
  refine decide_eq_true (Or.inl ?_)
  rw [Int32.lt_iff_toInt_lt, xor_m1, nI_toInt h]
  show -(n : Int) - 1 < 0
  omega
theorem xor_xor (x : Int32) : (x ^^^ -1) ^^^ -1 = x := by
  apply Int32.toInt_inj.mp
  rw [xor_m1, xor_m1]; omega
theorem opnd_var {n : Nat} (h : n < 1000) : opnd ((nI 16 + nI n) ^^^ -1) = true := by
  refine decide_eq_true (Or.inr ?_)
  rw [xor_xor, nI_add]
  exact nI_le (by omega) (by omega)
theorem folc0 {o so : Nat} {rel : Bool} (h9 : fol 0 o rel so ≠ 9) (h7 : fol 0 o rel so ≠ 7) : (so = 4 ∧ fol 0 o rel so = 1) ∨ (so = 5 ∧ fol 0 o rel so = 3) := by
  have e : fol 0 o rel so = (if so = 4 then 1 else if so = 5 then 3 else if so = 0 then 7 else 9) := rfl
  rw [e] at h9 h7 ⊢
  by_cases a : so = 4
  · exact Or.inl ⟨a, if_pos a⟩
  · by_cases b : so = 5
    · exact Or.inr ⟨b, by rw [if_neg a, if_pos b]⟩
    · by_cases c : so = 0
      · exact absurd (by rw [if_neg a, if_neg b, if_pos c]) h7
      · exact absurd (by rw [if_neg a, if_neg b, if_neg c]) h9
theorem folc1 {o so : Nat} {rel : Bool} (h9 : fol 1 o rel so ≠ 9) : so = 2 ∧ fol 1 o rel so = 2 := by
  have e : fol 1 o rel so = (if so = 2 then 2 else 9) := rfl
  rw [e] at h9 ⊢
  by_cases a : so = 2
  · exact ⟨a, if_pos a⟩
  · exact absurd (if_neg a) h9
theorem folc2 {o so : Nat} {rel : Bool} (h9 : fol 2 o rel so ≠ 9) : (so = 6 ∧ fol 2 o rel so = 5) ∨ (so = 12 ∧ fol 2 o rel so = 0) := by
  have e : fol 2 o rel so = (if so = 6 then 5 else if so = 12 then 0 else 9) := rfl
  rw [e] at h9 ⊢
  by_cases a : so = 6
  · exact Or.inl ⟨a, if_pos a⟩
  · by_cases b : so = 12
    · exact Or.inr ⟨b, by rw [if_neg a, if_pos b]⟩
    · exact absurd (by rw [if_neg a, if_neg b]) h9
theorem folc3 {o so : Nat} {rel : Bool} (h9 : fol 3 o rel so ≠ 9) : so = 2 ∧ fol 3 o rel so = 4 := by
  have e : fol 3 o rel so = (if so = 2 then 4 else 9) := rfl
  rw [e] at h9 ⊢
  by_cases a : so = 2
  · exact ⟨a, if_pos a⟩
  · exact absurd (if_neg a) h9
theorem folc4 {o so : Nat} {rel : Bool} (h9 : fol 4 o rel so ≠ 9) : so = 6 ∧ fol 4 o rel so = 5 := by
  have e : fol 4 o rel so = (if so = 6 then 5 else 9) := rfl
  rw [e] at h9 ⊢
  by_cases a : so = 6
  · exact ⟨a, if_pos a⟩
  · exact absurd (if_neg a) h9
theorem folc5 {o so : Nat} {rel : Bool} (h9 : fol 5 o rel so ≠ 9) : ((so = 2 ∨ so = 3) ∧ fol 5 o rel so = 6) ∨ (so = 10 ∧ fol 5 o rel so = 5) := by
  have e : fol 5 o rel so = (if so = 2 ∨ so = 3 then 6 else if so = 10 then 5 else 9) := rfl
  rw [e] at h9 ⊢
  by_cases a : so = 2 ∨ so = 3
  · exact Or.inl ⟨a, if_pos a⟩
  · by_cases b : so = 10
    · exact Or.inr ⟨b, by rw [if_neg a, if_pos b]⟩
    · exact absurd (by rw [if_neg a, if_neg b]) h9
theorem folc6 {o so : Nat} {rel : Bool} (h9 : fol 6 o rel so ≠ 9) : (so = 9 ∧ fol 6 o rel so = 5) ∨ (0 < o ∧ so = 11 ∧ fol 6 o rel so = 6) ∨ (o = 0 ∧ rel = false ∧ so = 8 ∧ fol 6 o rel so = 5) ∨ (o = 0 ∧ rel = true ∧ so = 7 ∧ fol 6 o rel so = 5) ∨ (o = 0 ∧ rel = true ∧ so = 12 ∧ fol 6 o rel so = 0) := by
  have e : fol 6 o rel so = (if so = 9 then 5 else if 0 < o then (if so = 11 then 6 else 9) else if rel = false then (if so = 8 then 5 else 9) else if so = 7 then 5 else if so = 12 then 0 else 9) := rfl
  rw [e] at h9 ⊢
  by_cases a : so = 9
  · exact Or.inl ⟨a, if_pos a⟩
  · rw [if_neg a] at h9 ⊢
    by_cases b : 0 < o
    · rw [if_pos b] at h9 ⊢
      by_cases c : so = 11
      · exact Or.inr (Or.inl ⟨b, c, if_pos c⟩)
      · exact absurd (if_neg c) h9
    · rw [if_neg b] at h9 ⊢
      by_cases c : rel = false
      · rw [if_pos c] at h9 ⊢
        by_cases d : so = 8
        · exact Or.inr (Or.inr (Or.inl ⟨by omega, c, d, if_pos d⟩))
        · exact absurd (if_neg d) h9
      · rw [if_neg c] at h9 ⊢
        have c : rel = true := by cases rel with | true => rfl | false => exact absurd rfl c
        by_cases d : so = 7
        · exact Or.inr (Or.inr (Or.inr (Or.inl ⟨by omega, c, d, if_pos d⟩)))
        · by_cases f : so = 12
          · exact Or.inr (Or.inr (Or.inr (Or.inr ⟨by omega, c, f, by rw [if_neg d, if_pos f]⟩)))
          · exact absurd (by rw [if_neg d, if_neg f]) h9
theorem rk_op {so : Nat} {v : Nat} (h : so = 9 → 7 ≤ v) (h9 : v ≤ 9) : so = 9 → 4 ≤ rk v := by
  intro e
  have : ∀ v, v < 10 → 7 ≤ v → 4 ≤ rk v := by decide +kernel
  exact this v (by omega) (h e)
/-- where a rule goes on: rows with the head's number or code changed -/
theorem hd_len {r : pR} {rs : List pR} {m : Int32} : lenC ((r.1, m, r.2.2) :: rs) = lenC (r :: rs) := rfl
def tokQ (so : Nat) (v : Int32) : Prop := so ≤ 12 ∧ (so = 7 ∨ so = 8 ∨ so = 9 → v = nI (cN v) ∧ 1 ≤ cN v ∧ cN v ≤ 9 ∧ (so = 9 → 7 ≤ cN v)) ∧ (so = 2 → v = nI (cN v) ∧ cN v ≤ 9999) ∧ (so = 3 → v = nI (cN v) ∧ cN v ≤ 6)
theorem tokP.q {T : Int32 × Int32 × Nat × Nat} (h : tokP T) : tokQ (cN T.1) T.2.1 := h.2
theorem pInv_step {k e o so a : Nat} {rel : Bool} {fw v : Int32} {ops : List Nat} {rs : List pR} (hi : pInv k (e, o, rel, fw, ops, rs)) (hT : tokQ so v) (h9 : fol e o rel so ≠ 9) (h7 : fol e o rel so ≠ 7) (hov : overS (e, o, rel, fw, ops, rs) so = false) : pInv (k + 1) (setE (takeS (e, o, rel, fw, ops, rs) so v a) (fol e o rel so)) := by
  obtain ⟨i1, i2, i3, i4, i5, i6, i7, i8, i9, i10⟩ := hi
  obtain ⟨t2, t3, t4, t5⟩ := hT
  have hov2 := of_decide_eq_false hov
  dsimp only at i1 i2 i3 i4 i5 i6 i7 i8 i9 i10 hov2
  rcases (show e = 0 ∨ e = 1 ∨ e = 2 ∨ e = 3 ∨ e = 4 ∨ e = 5 ∨ e = 6 by omega) with rfl | rfl | rfl | rfl | rfl | rfl | rfl
  · obtain ⟨o1, o2⟩ := i7 (by decide) (by decide)
    subst o1; subst o2
    have hl : rs.length < 20 := by
      rcases Nat.lt_or_ge rs.length 20 with g | g
      · exact g
      · exact absurd (Or.inl ⟨rfl, g⟩) hov2
    have hth : fol 0 0 rel so = 1 ∨ fol 0 0 rel so = 3 := (folc0 h9 h7).elim (fun h => Or.inl h.2) (fun h => Or.inr h.2)
    generalize fol 0 0 rel so = th at hth
    refine ⟨by show th ≤ 6; omega, by show 0 ≤ 6; omega, rfl, by show rs.length + 1 ≤ 20; omega, ?_, fun _ => List.cons_ne_nil _ _, fun _ _ => ⟨rfl, rfl⟩, ?_, fun _ _ _ _ x hx => absurd hx List.not_mem_nil, fun h => absurd (show th = 6 from h) (by omega)⟩
    · show lenC ((decide (so = 5), 0, []) :: rs) + 0 ≤ k + 1
      rw [lenC_cons]; simp at i5 ⊢; omega
    · intro r hr
      rcases List.mem_cons.mp hr with rfl | hr
      · intro x hx; simp at hx
      · exact i8 r hr
  · obtain ⟨r, rs, rfl⟩ : ∃ r rs', rs = r :: rs' := by
      cases rs with
      | nil => exact absurd rfl (i6 (by decide))
      | cons r rs' => exact ⟨r, rs', rfl⟩
    obtain ⟨o1, o2⟩ := i7 (by decide) (by decide)
    subst o1; subst o2
    rw [(folc1 h9).2]
    refine ⟨by show 2 ≤ 6; omega, by show 0 ≤ 6; omega, rfl, i4, by show lenC ((r.1, v, r.2.2) :: rs) + 0 ≤ k + 1; rw [hd_len]; simp at i5; omega, fun _ => List.cons_ne_nil _ _, fun _ _ => ⟨rfl, rfl⟩, ?_, fun _ _ _ _ x hx => absurd hx List.not_mem_nil, fun h => absurd (show 2 = 6 from h) (by decide)⟩
    intro q hq
    rcases List.mem_cons.mp hq with rfl | hq
    · exact i8 r List.mem_cons_self
    · exact i8 q (List.mem_cons_of_mem _ hq)
  · obtain ⟨o1, o2⟩ := i7 (by decide) (by decide)
    subst o1; subst o2
    have hth : fol 2 0 rel so = 5 ∨ fol 2 0 rel so = 0 := (folc2 h9).elim (fun h => Or.inl h.2) (fun h => Or.inr h.2)
    generalize fol 2 0 rel so = th at hth
    exact ⟨by show th ≤ 6; omega, i2, rfl, i4, by show lenC rs + 0 ≤ k + 1; simp at i5; omega, fun _ => i6 (by decide), fun _ _ => ⟨rfl, rfl⟩, i8, fun _ _ _ _ x hx => absurd hx List.not_mem_nil, fun h => absurd (show th = 6 from h) (by omega)⟩
  · obtain ⟨r, rs, rfl⟩ : ∃ r rs', rs = r :: rs' := by
      cases rs with
      | nil => exact absurd rfl (i6 (by decide))
      | cons r rs' => exact ⟨r, rs', rfl⟩
    obtain ⟨o1, o2⟩ := i7 (by decide) (by decide)
    subst o1; subst o2
    rw [(folc3 h9).2]
    refine ⟨by show 4 ≤ 6; omega, by show 0 ≤ 6; omega, rfl, i4, by show lenC ((r.1, v, r.2.2) :: rs) + 0 ≤ k + 1; rw [hd_len]; simp at i5; omega, fun _ => List.cons_ne_nil _ _, fun _ _ => ⟨rfl, rfl⟩, ?_, fun _ _ _ _ x hx => absurd hx List.not_mem_nil, fun h => absurd (show 4 = 6 from h) (by decide)⟩
    intro q hq
    rcases List.mem_cons.mp hq with rfl | hq
    · exact i8 r List.mem_cons_self
    · exact i8 q (List.mem_cons_of_mem _ hq)
  · obtain ⟨o1, o2⟩ := i7 (by decide) (by decide)
    subst o1; subst o2
    rw [(folc4 h9).2]
    exact ⟨by show 5 ≤ 6; omega, i2, rfl, i4, by show lenC rs + 0 ≤ k + 1; simp at i5; omega, fun _ => i6 (by decide), fun _ _ => ⟨rfl, rfl⟩, i8, fun _ _ _ _ x hx => absurd hx List.not_mem_nil, fun h => absurd (show 5 = 6 from h) (by decide)⟩
  · obtain ⟨r, rs, rfl⟩ : ∃ r rs', rs = r :: rs' := by
      cases rs with
      | nil => exact absurd rfl (i6 (by decide))
      | cons r rs' => exact ⟨r, rs', rfl⟩
    rcases folc5 h9 with ⟨hs, hth⟩ | ⟨rfl, hth⟩
    · rw [hth]
      have hn10 : so ≠ 10 := by omega
      have ht : takeS (5, o, rel, fw, ops, r :: rs) so v a = (5, o, rel, fw, ops, (r.1, r.2.1, (if so = 3 then ((nI 16 + v) ^^^ -1) else v) :: r.2.2) :: rs) := by
        show (if so = 10 then _ else _) = _
        rw [if_neg hn10]; rfl
      have hop : opnd (if so = 3 then ((nI 16 + v) ^^^ -1) else v) = true := by
        rcases hs with hs | hs
        · obtain ⟨e1, e2⟩ := t4 hs
          rw [if_neg (by omega), e1]
          exact opnd_nI (by omega)
        · obtain ⟨e1, e2⟩ := t5 hs
          rw [if_pos hs, e1]
          exact opnd_var (by omega)
      rw [ht]
      generalize (if so = 3 then ((nI 16 + v) ^^^ -1) else v) = y at hop
      refine ⟨by show 6 ≤ 6; omega, i2, i3, i4, ?_, fun _ => List.cons_ne_nil _ _, fun _ h => absurd rfl h, ?_, fun q qs hq hc => ?_, fun _ q qs hq => ?_⟩
      · show lenC ((r.1, r.2.1, y :: r.2.2) :: rs) + ops.length ≤ k + 1
        rw [lenC_cons] at i5 ⊢; simp; omega
      · intro q hq
        rcases List.mem_cons.mp hq with rfl | hq
        · show cOk (y :: r.2.2)
          cases hc : r.2.2 with
          | nil => intro x hx; simp at hx; subst hx; exact hop
          | cons z c => exact cOk_cons (hc ▸ i8 r List.mem_cons_self)
        · exact i8 q (List.mem_cons_of_mem _ hq)
      · have hq : (r.1, r.2.1, y :: r.2.2) :: rs = q :: qs := hq
        cases hq; exact absurd hc (List.cons_ne_nil _ _)
      · have hq : (r.1, r.2.1, y :: r.2.2) :: rs = q :: qs := hq
        cases hq; exact List.cons_ne_nil _ _
    · rw [hth]
      have ho : o < 6 := by
        rcases Nat.lt_or_ge o 6 with g | g
        · exact g
        · exact absurd (Or.inr ⟨rfl, g⟩) hov2
      refine ⟨by show 5 ≤ 6; omega, by show o + 1 ≤ 6; omega, Or.inl ⟨rfl, o, rfl, i3⟩, i4, ?_, fun _ => List.cons_ne_nil _ _, fun h => absurd rfl h, i8, ?_, fun h => absurd (show 5 = 6 from h) (by decide)⟩
      · show lenC (r :: rs) + (ops.length + 1) ≤ k + 1
        omega
      · intro q qs hq hc x hx
        rcases List.mem_cons.mp hx with rfl | hx
        · rfl
        · exact i9 q qs hq hc x hx
  · obtain ⟨r, rs, rfl⟩ : ∃ r rs', rs = r :: rs' := by
      cases rs with
      | nil => exact absurd rfl (i6 (by decide))
      | cons r rs' => exact ⟨r, rs', rfl⟩
    have hr0 := i10 rfl r rs rfl
    have hedn : ∀ q, 1 ≤ q → cOk (edn q ops r.2.2).2 ∧ (edn q ops r.2.2).2 ≠ [] := by
      intro q hq
      refine ⟨(cOk_edn q ops r.2.2 (i8 r List.mem_cons_self) (fun e => absurd e hr0) hq).1, fun e => ?_⟩
      have key : ∀ (l : List Nat) (c : List Int32), c ≠ [] → (edn q l c).2 ≠ [] := by
        intro l
        induction l with
        | nil => intro c hc; exact hc
        | cons x t iht =>
          intro c hc
          rw [edn]
          split
          · exact iht _ (List.cons_ne_nil _ _)
          · exact hc
      exact key ops r.2.2 hr0 e
    have hlen : ∀ q, lenC ((r.1, r.2.1, (edn q ops r.2.2).2) :: rs) + (edn q ops r.2.2).1.length ≤ k := by
      intro q
      have := edn_len q ops r.2.2
      rw [lenC_cons] at i5 ⊢
      show (edn q ops r.2.2).2.length + lenC rs + _ ≤ k
      omega
    have hall : ∀ q, 1 ≤ q → ∀ p, p ∈ (r.1, r.2.1, (edn q ops r.2.2).2) :: rs → cOk p.2.2 := by
      intro q hq p hp
      rcases List.mem_cons.mp hp with rfl | hp
      · exact (hedn q hq).1
      · exact i8 p (List.mem_cons_of_mem _ hp)
    have hemp : ∀ q, 1 ≤ q → ∀ p ps (l : List Nat), (r.1, r.2.1, (edn q ops r.2.2).2) :: rs = p :: ps → p.2.2 = [] → ∀ x, x ∈ l → x = 0 := by
      intro q hq p ps l hp hc
      cases hp
      exact absurd hc (hedn q hq).2
    have opcase : so ≠ 11 → so ≠ 12 → fol 6 o rel so = 5 → (0 < o → so = 9) → (so = 7 ∨ so = 8 ∨ so = 9) → pInv (k + 1) (setE (takeS (6, o, rel, fw, ops, r :: rs) so v a) (fol 6 o rel so)) := by
      intro n11 n12 hth ho9 h789
      obtain ⟨v1, v2, v3, v4⟩ := t3 h789
      rw [hth, takeS_op n11 n12]
      have hrk := rk_pos (cN v) (by omega) v2
      refine ⟨by show 5 ≤ 6; omega, i2, Or.inr ⟨v2, v3, by have := (rk_ok (cN v) (by omega)).2; omega, fun h => rk_op v4 v3 (ho9 h), stk_edn hrk _ i3⟩, i4, ?_, fun _ => List.cons_ne_nil _ _, fun h => absurd rfl h, hall _ hrk, fun p ps hp hc => hemp _ hrk p ps _ hp hc, fun h => absurd (show 5 = 6 from h) (by decide)⟩
      have := hlen (rk (cN v))
      show lenC ((r.1, r.2.1, (edn (rk (cN v)) ops r.2.2).2) :: rs) + ((edn (rk (cN v)) ops r.2.2).1.length + 1) ≤ k + 1
      omega
    rcases folc6 h9 with ⟨rfl, hth⟩ | ⟨ho, rfl, hth⟩ | ⟨ho, hrel, rfl, hth⟩ | ⟨ho, hrel, rfl, hth⟩ | ⟨ho, hrel, rfl, hth⟩
    · exact opcase (by decide) (by decide) hth (fun _ => rfl) (Or.inr (Or.inr rfl))
    · rw [hth, takeS_11]
      obtain ⟨t, p, hO, hp1, hp2⟩ := (stk_1 (stk_edn (q := 1) (Nat.le_refl 1) r.2.2 i3)).resolve_left (fun h => by omega)
      have hl := hlen 1
      rw [hO] at hl ⊢
      simp only [List.length_cons] at hl
      refine ⟨by show 6 ≤ 6; omega, by show o - 1 ≤ 6; omega, by show stk (o - 1) 6 t; rw [hp1]; exact hp2, i4, by show lenC ((r.1, r.2.1, (edn 1 ops r.2.2).2) :: rs) + t.length ≤ k + 1; omega, fun _ => List.cons_ne_nil _ _, fun _ h => absurd rfl h, hall 1 (Nat.le_refl 1), fun p ps hp hc => hemp 1 (Nat.le_refl 1) p ps _ hp hc, fun _ p ps hp => ?_⟩
      have hp : (r.1, r.2.1, (edn 1 ops r.2.2).2) :: rs = p :: ps := hp
      cases hp
      exact (hedn 1 (Nat.le_refl 1)).2
    · exact opcase (by decide) (by decide) hth (fun h => by omega) (Or.inr (Or.inl rfl))
    · exact opcase (by decide) (by decide) hth (fun h => by omega) (Or.inl rfl)
    · rw [hth, takeS_12]
      rcases stk_1 (stk_edn (q := 1) (Nat.le_refl 1) r.2.2 i3) with ⟨-, hO⟩ | ⟨t, p, -, hp, -⟩
      · have hl := hlen 1
        rw [hO] at hl ⊢
        exact ⟨by show 0 ≤ 6; omega, i2, ho, i4, by show lenC ((r.1, r.2.1, (edn 1 ops r.2.2).2) :: rs) + 0 ≤ k + 1; simp only [List.length_nil] at hl; omega, fun h => absurd rfl h, fun _ _ => ⟨rfl, ho⟩, hall 1 (Nat.le_refl 1), fun p ps hp hc => hemp 1 (Nat.le_refl 1) p ps _ hp hc, fun h => absurd (show 0 = 6 from h) (by decide)⟩
      · omega
