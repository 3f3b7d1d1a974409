/-! both parsers, token by token -/
theorem tkR.q {s v kd vl : Int32} (h : tkR s v kd vl) : tokQ (cN s) v := by
  unfold tokQ
  rcases h with h | h | h | h | h | h | h | h | h | h | h | h | h
  · rw [h.1, cN_nI (by decide)]; exact ⟨by decide, fun z => by omega, fun z => by omega, fun z => by omega⟩
  · rw [h.1, cN_nI (by decide)]; exact ⟨by decide, fun z => by omega, fun z => by omega, fun z => by omega⟩
  · obtain ⟨x, hx, h1, h2, -⟩ := h
    rw [h1, h2, cN_nI (by decide), cN_nI (by omega)]; exact ⟨by decide, fun z => by omega, fun _ => ⟨rfl, hx⟩, fun z => by omega⟩
  · obtain ⟨x, hx, h1, h2, -⟩ := h
    rw [h1, h2, cN_nI (by decide), cN_nI (by omega)]; exact ⟨by decide, fun z => by omega, fun z => by omega, fun _ => ⟨rfl, by omega⟩⟩
  · rw [h.1, cN_nI (by decide)]; exact ⟨by decide, fun z => by omega, fun z => by omega, fun z => by omega⟩
  · rw [h.1, cN_nI (by decide)]; exact ⟨by decide, fun z => by omega, fun z => by omega, fun z => by omega⟩
  · rw [h.1, cN_nI (by decide)]; exact ⟨by decide, fun z => by omega, fun z => by omega, fun z => by omega⟩
  · obtain ⟨x, hx, hx2, h1, h2, -⟩ := h
    rw [h1, h2, cN_nI (by decide), cN_nI (by omega)]; exact ⟨by decide, fun _ => ⟨rfl, by omega, by omega, fun z => by omega⟩, fun z => by omega, fun z => by omega⟩
  · obtain ⟨x, hx, hx2, h1, h2, -⟩ := h
    rw [h1, h2, cN_nI (by decide), cN_nI (by omega)]; exact ⟨by decide, fun _ => ⟨rfl, by omega, by omega, fun z => by omega⟩, fun z => by omega, fun z => by omega⟩
  · obtain ⟨x, hx, hx2, h1, h2, -⟩ := h
    rw [h1, h2, cN_nI (by decide), cN_nI (by omega)]; exact ⟨by decide, fun _ => ⟨rfl, by omega, by omega, fun z => by omega⟩, fun z => by omega, fun z => by omega⟩
  · rw [h.1, cN_nI (by decide)]; exact ⟨by decide, fun z => by omega, fun z => by omega, fun z => by omega⟩
  · rw [h.1, cN_nI (by decide)]; exact ⟨by decide, fun z => by omega, fun z => by omega, fun z => by omega⟩
  · rw [h.1, cN_nI (by decide)]; exact ⟨by decide, fun z => by omega, fun z => by omega, fun z => by omega⟩
/-- the class stands in state s at token k, on the way to R -/
def Lv (B : Nat → Nat) (n : Nat) (R : Int32 × Int32 × pS) (k : Nat) (s : pS) : Prop := k ≤ 400 ∧ (∀ i, i < k → (tkT B n i).1 ≠ nI 0) ∧ pInv k s ∧ pRun B n (401 - k) k (pP B n k) s = R
theorem fol_0 (e o : Nat) (rel : Bool) : fol e o rel 0 = 7 ∨ fol e o rel 0 = 9 := by
  unfold fol folU
  by_cases h0 : e = 0
  · left; simp [h0]
  · right
    simp only [h0, if_false]
    by_cases h1 : e = 1 <;> by_cases h2 : e = 2 <;> by_cases h3 : e = 3 <;> by_cases h4 : e = 4 <;> by_cases h5 : e = 5 <;> by_cases ho : 0 < o <;> cases rel <;> simp [h1, h2, h3, h4, h5, ho]
theorem Lv.step {B : Nat → Nat} {n k : Nat} {R : Int32 × Int32 × pS} {s : pS} (h : Lv B n R k s) {so : Nat} (hs : cN (tkT B n k).1 = so) :
    (fol s.1 s.2.1 s.2.2.1 so = 9 → R = (nI 1, nI (tkT B n k).2.2.1, s)) ∧ (fol s.1 s.2.1 s.2.2.1 so = 7 → R = (if s.2.2.2.1 = -1 then nI 0 else nI 5, s.2.2.2.1, s)) ∧
    (fol s.1 s.2.1 s.2.2.1 so ≠ 9 → fol s.1 s.2.1 s.2.2.1 so ≠ 7 → (k = 400 ∨ overS s so = true) → R = (nI 2, nI (tkT B n k).2.2.1, s)) ∧
    (fol s.1 s.2.1 s.2.2.1 so ≠ 9 → fol s.1 s.2.1 s.2.2.1 so ≠ 7 → k ≠ 400 → overS s so = false → tokQ so (tkT B n k).2.1 → Lv B n R (k + 1) (setE (takeS s so (tkT B n k).2.1 (tkT B n k).2.2.1) (fol s.1 s.2.1 s.2.2.1 so))) := by
  obtain ⟨h1, h2, h3, h4⟩ := h
  rw [show 401 - k = (400 - k) + 1 by omega, pRun] at h4
  rw [show tokC B n (pP B n k) = tkT B n k from rfl, hs] at h4
  refine ⟨fun a => ?_, fun a => ?_, fun a b c => ?_, fun a b c d q => ?_⟩
  · rw [if_pos a] at h4; exact h4.symm
  · rw [if_neg (by omega), if_pos a] at h4; exact h4.symm
  · rw [if_neg a, if_neg b, if_pos c] at h4; exact h4.symm
  · rw [if_neg a, if_neg b, if_neg (fun z => z.elim c (fun z => by rw [d] at z; cases z))] at h4
    refine ⟨by omega, fun i hi => ?_, ?_, ?_⟩
    · by_cases e : i = k
      · subst e
        intro z
        rw [z, cN_nI (by decide)] at hs
        subst hs
        exact (fol_0 s.1 s.2.1 s.2.2.1).elim b a
      · exact h2 i (by omega)
    · obtain ⟨e, o, rel, fw, ops, rs⟩ := s
      exact pInv_step h3 q a b d
    · rw [show 401 - (k + 1) = 400 - k by omega]; exact h4
/-! the class's code over a stack of any height -/
def cK (v : Nat → Int32) : List Int32 → List Int32 → Prop
  | [], L => L = []
  | x :: c, L => ∃ M, cK v c M ∧ ((opnd x = true ∧ M.length < 32 ∧ L = valP x v :: M) ∨ (opnd x = false ∧ ∃ a b N, M = b :: a :: N ∧ L = applyP (x ^^^ -1) a b :: N))
theorem opnd_op {x : Nat} (h : x < 16) : opnd (nI x ^^^ -1) = false := by
  unfold opnd
  rw [xor_xor]
  refine decide_eq_false (fun z => z.elim (fun z => nI_pos (by omega) z) (fun z => ?_))
  have := (nI_leI (by decide) (by omega)).mp z
  omega
theorem valP_i {x : Nat} (h : x < 2 ^ 31) (v : Nat → Int32) : valP (nI x) v = nI x := by
  unfold valP
  rw [if_pos]
  rw [Int32.lt_iff_toInt_lt, xor_m1, nI_toInt h]
  show -(x : Int) - 1 < 0
  omega
theorem valP_x {x : Nat} (h : x < 7) (v : Nat → Int32) : valP ((nI 16 + nI x) ^^^ -1) v = v x := by
  unfold valP
  rw [xor_xor, nI_add, if_neg (nI_pos (by omega)), pk_sub (by omega), show 16 + x - 16 = x by omega, if_neg (nI_ge h (by decide)), cN_nI (by omega)]
def popP (tm : Bool) (x : Nat) : Bool := decide (x ≠ 0) && (!tm || decide (x = 9))
def oE (ops : List Nat) : Prop := ∀ x, x ∈ ops → x = 0 ∨ x = 7 ∨ x = 8 ∨ x = 9
def fOp (x : Nat) : Int32 := nI x ^^^ -1
theorem rk_E {tm : Bool} {q x : Nat} (hq : (tm = false ∧ 1 ≤ q ∧ q ≤ 4) ∨ (tm = true ∧ q = 5)) (hx : x = 0 ∨ x = 7 ∨ x = 8 ∨ x = 9) : (q ≤ rk x) ↔ popP tm x = true := by
  have r0 : rk 0 = 0 := rk_0
  have r7 : rk 7 = 4 := by decide +kernel
  have r8 : rk 8 = 4 := by decide +kernel
  have r9 : rk 9 = 5 := by decide +kernel
  rcases hq with ⟨rfl, h1, h2⟩ | ⟨rfl, rfl⟩ <;> rcases hx with rfl | rfl | rfl | rfl <;> simp [popP, r0, r7, r8, r9] <;> omega
theorem edn_E {tm : Bool} {q : Nat} (hq : (tm = false ∧ 1 ≤ q ∧ q ≤ 4) ∨ (tm = true ∧ q = 5)) {ops0 : List Nat} : ∀ (ops : List Nat) (c : List Int32), oE ops → (ops.dropWhile (popP tm) ≠ [] ∨ ops0 = [] ∨ ∃ y t, ops0 = y :: t ∧ ¬ q ≤ rk y) → edn q (ops ++ ops0) c = (ops.dropWhile (popP tm) ++ ops0, ((ops.takeWhile (popP tm)).map fOp).reverse ++ c)
  | [], c, _, h => by
    rcases h with h | rfl | ⟨y, t, rfl, h⟩
    · exact absurd rfl h
    · rfl
    · show edn q (y :: t) c = (y :: t, c)
      rw [edn, if_neg h]
  | x :: ops, c, ho, h => by
    have hx := rk_E hq (ho x List.mem_cons_self)
    show edn q (x :: (ops ++ ops0)) c = _
    rw [edn]
    by_cases hp : popP tm x = true
    · rw [if_pos (hx.mpr hp), edn_E hq ops _ (fun y hy => ho y (List.mem_cons_of_mem _ hy)) (by rw [List.dropWhile_cons, if_pos hp] at h; exact h), List.dropWhile_cons, if_pos hp, List.takeWhile_cons, if_pos hp]
      simp [fOp]
    · rw [if_neg (fun z => hp (hx.mp z)), List.dropWhile_cons, if_neg hp, List.takeWhile_cons, if_neg hp]
      simp
/-- operators applied to what lies on top -/
def apL : List Nat → List Int32 → List Int32
  | [], L => L
  | x :: p, b :: a :: M => apL p (applyP (nI x) a b :: M)
  | _ :: _, L => L
theorem apL_len : ∀ (p : List Nat) (L : List Int32), p.length + 1 ≤ L.length → (apL p L).length + p.length = L.length
  | [], L, _ => rfl
  | x :: p, b :: a :: M, h => by
    have := apL_len p (applyP (nI x) a b :: M) (by simp at h ⊢; omega)
    show (apL p (applyP (nI x) a b :: M)).length + (p.length + 1) = M.length + 1 + 1
    simp at this
    omega
  | x :: p, [], h => by simp at h
  | x :: p, [b], h => by simp at h
theorem cK_op {v : Nat → Int32} {c : List Int32} {a b : Int32} {N : List Int32} {x : Nat} (hx : x < 16) (h : cK v c (b :: a :: N)) : cK v (fOp x :: c) (applyP (nI x) a b :: N) :=
  ⟨_, h, Or.inr ⟨opnd_op hx, a, b, N, rfl, by unfold fOp; rw [xor_xor]⟩⟩
theorem cK_pops {v : Nat → Int32} {L0 : List Int32} : ∀ (p : List Nat) (c L : List Int32), (∀ x, x ∈ p → x < 16) → cK v c (L ++ L0) → p.length + 1 ≤ L.length → cK v ((p.map fOp).reverse ++ c) (apL p L ++ L0)
  | [], c, L, _, h, _ => h
  | x :: p, c, b :: a :: M, hp, h, hl => by
    have h2 := cK_op (N := M ++ L0) (hp x List.mem_cons_self) h
    have := cK_pops p (fOp x :: c) (applyP (nI x) a b :: M) (fun y hy => hp y (List.mem_cons_of_mem _ hy)) h2 (by simp at hl ⊢; omega)
    rw [List.map_cons, List.reverse_cons, List.append_assoc]
    exact this
  | x :: p, c, [], _, _, hl => by simp at hl
  | x :: p, c, [b], _, _, hl => by simp at hl
def nz : List Nat → Nat
  | [] => 0
  | x :: t => (if x = 0 then 0 else 1) + nz t
theorem nz_le : ∀ l, nz l ≤ l.length
  | [] => Nat.le_refl 0
  | x :: t => by
    have := nz_le t
    rw [nz, List.length_cons]
    split <;> omega
theorem nz_app : ∀ a b, nz (a ++ b) = nz a + nz b
  | [], b => by simp [nz]
  | x :: a, b => by show (if x = 0 then 0 else 1) + nz (a ++ b) = _; rw [nz_app a b, nz]; omega
theorem nz_all : ∀ {a : List Nat}, (∀ x, x ∈ a → x ≠ 0) → nz a = a.length
  | [], _ => rfl
  | x :: a, h => by
    rw [nz, if_neg (h x List.mem_cons_self), nz_all (fun y hy => h y (List.mem_cons_of_mem _ hy)), List.length_cons]
    omega
theorem take_pop {tm : Bool} : ∀ {ops : List Nat} {x : Nat}, x ∈ ops.takeWhile (popP tm) → popP tm x = true
  | [], x, h => by simp at h
  | y :: ops, x, h => by
    rw [List.takeWhile_cons] at h
    split at h
    · rcases List.mem_cons.mp h with rfl | h
      · assumption
      · exact take_pop h
    · simp at h
theorem take_nz {tm : Bool} {ops : List Nat} : nz (ops.takeWhile (popP tm)) = (ops.takeWhile (popP tm)).length := nz_all (fun x hx => by
  have := take_pop hx
  unfold popP at this
  simp at this
  exact this.1)
theorem pop_len (tm : Bool) (ops : List Nat) : (ops.takeWhile (popP tm)).length + (ops.dropWhile (popP tm)).length = ops.length := by
  have := congrArg List.length (List.takeWhile_append_dropWhile (p := popP tm) (l := ops))
  rw [List.length_append] at this
  exact this
theorem pop_nz (tm : Bool) (ops : List Nat) : (ops.takeWhile (popP tm)).length + nz (ops.dropWhile (popP tm)) = nz ops := by
  have := congrArg nz (List.takeWhile_append_dropWhile (p := popP tm) (l := ops))
  rw [nz_app, take_nz] at this
  exact this
theorem take_mem {p : Nat → Bool} : ∀ {ops : List Nat} {x : Nat}, x ∈ ops.takeWhile p → x ∈ ops
  | [], x, h => by simp at h
  | y :: ops, x, h => by
    rw [List.takeWhile_cons] at h
    split at h
    · rcases List.mem_cons.mp h with rfl | h
      · exact List.mem_cons_self
      · exact List.mem_cons_of_mem _ (take_mem h)
    · simp at h
theorem drop_mem {p : Nat → Bool} : ∀ {ops : List Nat} {x : Nat}, x ∈ ops.dropWhile p → x ∈ ops
  | [], x, h => by simp at h
  | y :: ops, x, h => by
    rw [List.dropWhile_cons] at h
    split at h
    · exact List.mem_cons_of_mem _ (drop_mem h)
    · exact h
/-! the reference's code, a step at its end -/
theorem mEv_snoc {v code cint : Nat → Int32} {K' : List Int32} : ∀ (n i : Nat) (L K : List Int32), mEv v code cint n i L K → mEv v code cint 1 (i + n) K K' → mEv v code cint (n + 1) i L K'
  | 0, i, L, K, h, hs => by
    have h : L = K := h
    subst h
    exact hs
  | n + 1, i, L, K, h, hs => by
    rw [show i + (n + 1) = i + 1 + n by omega] at hs
    rcases h with ⟨x, h1, h2, h3⟩ | ⟨a, b, M, h1, h2⟩
    · exact Or.inl ⟨x, h1, h2, mEv_snoc n (i + 1) _ K h3 hs⟩
    · refine Or.inr ⟨a, b, M, h1, ?_⟩
      rcases h2 with ⟨c, h2⟩ | ⟨c, h2⟩ | ⟨c, h2⟩
      · exact Or.inl ⟨c, mEv_snoc n (i + 1) _ K h2 hs⟩
      · exact Or.inr (Or.inl ⟨c, mEv_snoc n (i + 1) _ K h2 hs⟩)
      · exact Or.inr (Or.inr ⟨c, mEv_snoc n (i + 1) _ K h2 hs⟩)
theorem mEv_ext {v code cint code' cint' : Nat → Int32} : ∀ (n i : Nat) (L K : List Int32), (∀ j, i ≤ j → j < i + n → code' j = code j ∧ cint' j = cint j) → mEv v code cint n i L K → mEv v code' cint' n i L K
  | 0, i, L, K, _, h => h
  | n + 1, i, L, K, he, h => by
    obtain ⟨e1, e2⟩ := he i (Nat.le_refl i) (by omega)
    have he2 : ∀ j, i + 1 ≤ j → j < i + 1 + n → code' j = code j ∧ cint' j = cint j := fun j a b => he j (by omega) (by omega)
    unfold mEv
    rw [e1, e2]
    rcases h with ⟨x, h1, h2, h3⟩ | ⟨a, b, M, h1, h2⟩
    · exact Or.inl ⟨x, h1, h2, mEv_ext n (i + 1) _ K he2 h3⟩
    · refine Or.inr ⟨a, b, M, h1, ?_⟩
      rcases h2 with ⟨c, h2⟩ | ⟨c, h2⟩ | ⟨c, h2⟩
      · exact Or.inl ⟨c, mEv_ext n (i + 1) _ K he2 h2⟩
      · exact Or.inr (Or.inl ⟨c, mEv_ext n (i + 1) _ K he2 h2⟩)
      · exact Or.inr (Or.inr ⟨c, mEv_ext n (i + 1) _ K he2 h2⟩)
/-! what holds, by both -/
def hF (v : Nat → Int32) : List rl → Bool × Bool → Bool × Bool
  | [], p => p
  | (o, so, x, y) :: R, p => hF v R (if o = true then (p.1 || p.2, relP so (x v) (y v)) else (p.1, p.2 && relP so (x v) (y v)))
theorem hF_app (v : Nat → Int32) (r : rl) : ∀ (R : List rl) (p : Bool × Bool), hF v (R ++ [r]) p = hF v [r] (hF v R p)
  | [], _ => rfl
  | (o, so, x, y) :: R, p => by
    show hF v (R ++ [r]) _ = hF v [r] (hF v R _)
    exact hF_app v r R _
theorem hmR_F (v : Nat → Int32) : ∀ (R : List rl) (A a : Bool), (A || hmR v R a) = ((hF v R (A, a)).1 || (hF v R (A, a)).2)
  | [], A, a => rfl
  | (o, so, x, y) :: R, A, a => by
    rw [hmR, hF]
    cases o <;> cases a
    · rw [if_neg (by decide), if_neg (by decide)]
      exact hmR_F v R A _
    · rw [if_neg (by decide), if_neg (by decide)]
      exact hmR_F v R A _
    · rw [if_neg (by decide), if_pos rfl]
      have := hmR_F v R (A || false) (relP so (x v) (y v))
      rw [← this]
      simp
    · rw [if_pos (by decide), if_pos rfl]
      have := hmR_F v R (A || true) (relP so (x v) (y v))
      rw [← this]
      simp
def hv (v : Nat → Int32) (R : List rl) : Bool × Bool := hF v R (false, false)
theorem hm_hv {v : Nat → Int32} {R : List rl} (h : R ≠ []) : hm v R = ((hv v R).1 || (hv v R).2) := by
  unfold hm hv
  rw [decide_eq_false h, Bool.false_or, ← hmR_F, Bool.false_or]
theorem rel_ap {w : Nat} (h3 : 3 ≤ w) (h6 : w ≤ 6) (a b : Int32) : applyP (nI w) a b = bI (relP (w - 3) a b) := by
  rcases (show w = 3 ∨ w = 4 ∨ w = 5 ∨ w = 6 by omega) with rfl | rfl | rfl | rfl
  · rfl
  · rfl
  · show bI (decide (¬ b ≤ a)) = bI (decide (a < b))
    congr 1
    exact decide_eq_decide.mpr Int32.not_le
  · show bI (decide (¬ b < a)) = bI (decide (a ≤ b))
    congr 1
    exact decide_eq_decide.mpr Int32.not_lt
theorem or_ap (a b : Bool) : applyP (nI 1) (bI a) (bI b) = bI (a || b) := by cases a <;> cases b <;> decide
theorem and_ap (a b : Bool) : applyP (nI 2) (bI a) (bI b) = bI (a && b) := by cases a <;> cases b <;> decide
/-- between relations: operators that wait, what lies on the stack, relations so far, whether the next one is behind an 'or' -/
def cdS (ops : List Nat) (L : (Nat → Int32) → List Int32) (R : List rl) (o : Bool) : Prop :=
  (ops = [] ∧ R = [] ∧ o = true ∧ ∀ v, L v = []) ∨ (ops = [1] ∧ R ≠ [] ∧ o = true ∧ ∀ v, L v = [bI ((hv v R).1 || (hv v R).2)]) ∨
  (ops = [2] ∧ R ≠ [] ∧ o = false ∧ ∀ v, (hv v R).1 = false ∧ L v = [bI (hv v R).2]) ∨ (ops = [2, 1] ∧ R ≠ [] ∧ o = false ∧ ∀ v, L v = [bI (hv v R).2, bI (hv v R).1])
theorem cdS.len {ops : List Nat} {L : (Nat → Int32) → List Int32} {R : List rl} {o : Bool} (h : cdS ops L R o) (v : Nat → Int32) : (L v).length = ops.length := by
  rcases h with ⟨rfl, -, -, h⟩ | ⟨rfl, -, -, h⟩ | ⟨rfl, -, -, h⟩ | ⟨rfl, -, -, h⟩
  · rw [h v]; rfl
  · rw [h v]; rfl
  · rw [(h v).2]; rfl
  · rw [h v]; rfl
theorem cdS.rank {ops : List Nat} {L : (Nat → Int32) → List Int32} {R : List rl} {o : Bool} (h : cdS ops L R o) : ops = [] ∨ ∃ y t, ops = y :: t ∧ rk y ≤ 2 := by
  have r1 : rk 1 = 1 := by decide +kernel
  have r2 : rk 2 = 2 := by decide +kernel
  rcases h with ⟨rfl, -⟩ | ⟨rfl, -⟩ | ⟨rfl, -⟩ | ⟨rfl, -⟩
  · exact Or.inl rfl
  · exact Or.inr ⟨1, [], rfl, by omega⟩
  · exact Or.inr ⟨2, [], rfl, by omega⟩
  · exact Or.inr ⟨2, [1], rfl, by omega⟩
/-- behind a relation: its right side's operators E still wait -/
def rlE (E : List Nat) (w : Nat) (ops : List Nat) (c : List Int32) (x y : vV) (L : (Nat → Int32) → List Int32) : Prop :=
  3 ≤ w ∧ w ≤ 6 ∧ (∀ z, z ∈ E → z = 7 ∨ z = 8 ∨ z = 9) ∧ ∃ LE : (Nat → Int32) → List Int32, ∀ v, (LE v).length = E.length + 1 ∧ apL E (LE v) = [y v] ∧ cK v c (LE v ++ x v :: L v)
theorem edn_ap {q : Nat} (hq : q ≤ 4) : ∀ (E : List Nat) (ops : List Nat) (c : List Int32), (∀ z, z ∈ E → z = 7 ∨ z = 8 ∨ z = 9) → edn q (E ++ ops) c = edn q ops ((E.map fOp).reverse ++ c)
  | [], ops, c, _ => rfl
  | x :: E, ops, c, h => by
    have r7 : rk 7 = 4 := by decide +kernel
    have r8 : rk 8 = 4 := by decide +kernel
    have r9 : rk 9 = 5 := by decide +kernel
    show edn q (x :: (E ++ ops)) c = _
    rw [edn, if_pos (by rcases h x List.mem_cons_self with rfl | rfl | rfl <;> omega), edn_ap hq E ops _ (fun z hz => h z (List.mem_cons_of_mem _ hz))]
    simp [fOp]
theorem rlE.pop {E : List Nat} {w : Nat} {ops : List Nat} {c : List Int32} {x y : vV} {L : (Nat → Int32) → List Int32} (h : rlE E w ops c x y L) {q : Nat} (hq : q ≤ 3) : ∃ c2, (∀ d, (edn q (E ++ w :: ops) d).1 = (edn q ops []).1) ∧ (edn q (E ++ w :: ops) c).2 = (edn q ops c2).2 ∧ ∀ v, cK v c2 (bI (relP (w - 3) (x v) (y v)) :: L v) := by
  obtain ⟨h3, h6, hE, LE, h⟩ := h
  have hr : rk w = 3 := by
    have : ∀ w, w < 7 → 3 ≤ w → rk w = 3 := by decide +kernel
    exact this w (by omega) h3
  have e : ∀ d, edn q (E ++ w :: ops) d = edn q ops (fOp w :: ((E.map fOp).reverse ++ d)) := by
    intro d
    rw [edn_ap (by omega) E _ _ hE, edn, if_pos (by omega)]
    rfl
  refine ⟨fOp w :: ((E.map fOp).reverse ++ c), fun d => by rw [e]; exact edn_1 q ops _ _, by rw [e], fun v => ?_⟩
  obtain ⟨l1, l2, l3⟩ := h v
  have := cK_pops E c (LE v) (fun z hz => by rcases hE z hz with rfl | rfl | rfl <;> decide) l3 (by omega)
  rw [l2] at this
  rw [← rel_ap h3 h6]
  exact cK_op (N := L v) (by omega) this
theorem hv_or {v : Nat → Int32} {R : List rl} {so : Nat} {x y : vV} : hv v (R ++ [(true, so, x, y)]) = ((hv v R).1 || (hv v R).2, relP so (x v) (y v)) := by
  unfold hv; rw [hF_app]; rfl
theorem hv_and {v : Nat → Int32} {R : List rl} {so : Nat} {x y : vV} : hv v (R ++ [(false, so, x, y)]) = ((hv v R).1, (hv v R).2 && relP so (x v) (y v)) := by
  unfold hv; rw [hF_app]; rfl
theorem app_ne {R : List rl} {r : rl} : R ++ [r] ≠ [] := by simp
theorem cd_and {E : List Nat} {w : Nat} {ops : List Nat} {c : List Int32} {x y : vV} {L : (Nat → Int32) → List Int32} {R : List rl} {o : Bool} (h : cdS ops L R o) (hE : rlE E w ops c x y L) : ∃ L', (∀ v, cK v (edn 2 (E ++ w :: ops) c).2 (L' v)) ∧ ∀ d, cdS (2 :: (edn 2 (E ++ w :: ops) d).1) L' (R ++ [(o, w - 3, x, y)]) false := by
  have r1 : rk 1 = 1 := by decide +kernel
  have r2 : rk 2 = 2 := by decide +kernel
  obtain ⟨c2, e1, e2, e3⟩ := hE.pop (q := 2) (by decide)
  rw [e2]
  simp only [e1]
  rcases h with ⟨rfl, rfl, rfl, h⟩ | ⟨rfl, h0, rfl, h⟩ | ⟨rfl, h0, rfl, h⟩ | ⟨rfl, h0, rfl, h⟩
  · refine ⟨fun v => bI (relP (w - 3) (x v) (y v)) :: L v, e3, fun _ => Or.inr (Or.inr (Or.inl ⟨rfl, app_ne, rfl, fun v => ?_⟩))⟩
    dsimp only
    rw [hv_or, h v]
    exact ⟨rfl, rfl⟩
  · refine ⟨fun v => bI (relP (w - 3) (x v) (y v)) :: L v, fun v => by rw [edn, if_neg (by omega)]; exact e3 v, fun _ => ?_⟩
    rw [edn, if_neg (by omega)]
    refine Or.inr (Or.inr (Or.inr ⟨rfl, app_ne, rfl, fun v => ?_⟩))
    dsimp only
    rw [hv_or, h v]
  · refine ⟨fun v => [bI ((hv v R).2 && relP (w - 3) (x v) (y v))], fun v => ?_, fun _ => ?_⟩
    · rw [edn, if_pos (by omega)]
      have := e3 v
      rw [(h v).2] at this
      have := cK_op (x := 2) (by decide) this
      rw [and_ap] at this
      exact this
    · rw [edn, if_pos (by omega)]
      refine Or.inr (Or.inr (Or.inl ⟨rfl, app_ne, rfl, fun v => ?_⟩))
      rw [hv_and]
      exact ⟨(h v).1, rfl⟩
  · refine ⟨fun v => [bI ((hv v R).2 && relP (w - 3) (x v) (y v)), bI (hv v R).1], fun v => ?_, fun _ => ?_⟩
    · rw [edn, if_pos (by omega), edn, if_neg (by omega)]
      have := e3 v
      rw [h v] at this
      have := cK_op (x := 2) (by decide) this
      rw [and_ap] at this
      exact this
    · rw [edn, if_pos (by omega), edn, if_neg (by omega)]
      refine Or.inr (Or.inr (Or.inr ⟨rfl, app_ne, rfl, fun v => ?_⟩))
      rw [hv_and]
theorem cd_end {E : List Nat} {w : Nat} {ops : List Nat} {c : List Int32} {x y : vV} {L : (Nat → Int32) → List Int32} {R : List rl} {o : Bool} (h : cdS ops L R o) (hE : rlE E w ops c x y L) : (∀ d, (edn 1 (E ++ w :: ops) d).1 = []) ∧ ∀ v, cK v (edn 1 (E ++ w :: ops) c).2 [bI (hm v (R ++ [(o, w - 3, x, y)]))] := by
  have r1 : rk 1 = 1 := by decide +kernel
  have r2 : rk 2 = 2 := by decide +kernel
  obtain ⟨c2, e1, e2, e3⟩ := hE.pop (q := 1) (by decide)
  rw [e2]
  simp only [e1, hm_hv app_ne]
  rcases h with ⟨rfl, rfl, rfl, h⟩ | ⟨rfl, h0, rfl, h⟩ | ⟨rfl, h0, rfl, h⟩ | ⟨rfl, h0, rfl, h⟩
  · refine ⟨fun _ => rfl, fun v => ?_⟩
    have := e3 v
    rw [h v] at this
    rw [hv_or]
    exact this
  · rw [edn, if_pos (by omega)]
    refine ⟨fun _ => rfl, fun v => ?_⟩
    have := e3 v
    rw [h v] at this
    have := cK_op (x := 1) (by decide) this
    rw [or_ap] at this
    rw [hv_or, edn, if_pos (by omega)]
    exact this
  · rw [edn, if_pos (by omega)]
    refine ⟨fun _ => rfl, fun v => ?_⟩
    have := e3 v
    rw [(h v).2] at this
    have := cK_op (x := 2) (by decide) this
    rw [and_ap] at this
    rw [hv_and, edn, if_pos (by omega), (h v).1, Bool.false_or]
    exact this
  · rw [edn, if_pos (by omega), edn, if_pos (by omega)]
    refine ⟨fun _ => rfl, fun v => ?_⟩
    have := e3 v
    rw [h v] at this
    have := cK_op (x := 2) (by decide) this
    rw [and_ap] at this
    have := cK_op (x := 1) (by decide) this
    rw [or_ap] at this
    rw [hv_and, edn, if_pos (by omega), edn, if_pos (by omega)]
    exact this
theorem cd_or {E : List Nat} {w : Nat} {ops : List Nat} {c : List Int32} {x y : vV} {L : (Nat → Int32) → List Int32} {R : List rl} {o : Bool} (h : cdS ops L R o) (hE : rlE E w ops c x y L) : ∃ L', (∀ v, cK v (edn 1 (E ++ w :: ops) c).2 (L' v)) ∧ ∀ d, cdS (1 :: (edn 1 (E ++ w :: ops) d).1) L' (R ++ [(o, w - 3, x, y)]) true := by
  obtain ⟨e1, e2⟩ := cd_end h hE
  refine ⟨fun v => [bI (hm v (R ++ [(o, w - 3, x, y)]))], e2, fun d => ?_⟩
  rw [e1]
  exact Or.inr (Or.inl ⟨rfl, app_ne, rfl, fun v => by dsimp only; rw [hm_hv app_ne]⟩)
