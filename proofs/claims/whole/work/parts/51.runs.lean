/-! the class's run, in the words of the reference's -/
theorem kpL_at {t : Nat} {F : Nat → Nat → Int32} {r : Nat → Int64} : ∀ {n i : Nat}, i < n → kpL t F n r (300 * i + t) = mSnap (F i)
  | 0, i, h => absurd h (Nat.not_lt_zero i)
  | n + 1, i, h => by
    rw [kpL]
    by_cases e : i = n
    · subst e; exact if_pos rfl
    · rw [pk_uLn (by omega)]; exact kpL_at (by omega)
theorem kpL_o {t : Nat} {F : Nat → Nat → Int32} {r : Nat → Int64} {q : Nat} : ∀ {n : Nat}, (∀ i, i < n → q ≠ 300 * i + t) → kpL t F n r q = r q
  | 0, _ => rfl
  | n + 1, h => by rw [kpL, pk_uLn (h n (Nat.lt_succ_self n))]; exact kpL_o (fun i hi => h i (by omega))
theorem cr_ct (h : hQ) (kp : Bool) (s : rS) (n : Nat) : cr (itN (tkF h kp) n (rsF h s)) = ctR h (cr s) n := by rw [cr_it, cr_rs]; rfl
theorem run_rec (h : hQ) (s : rS) : ∀ n, n ≤ 300 → ∀ t, t < n → (itN (tkF h true) n (rsF h s)).2.1 t = (sdR h (cr s) t).1 ∧ ∀ i, i < hMc h → (itN (tkF h true) n (rsF h s)).2.2.2.2.2.2 (300 * i + t) = mSnap ((ctR h (cr s) (t + 1)).1 i)
  | 0, _, t, ht => absurd ht (Nat.not_lt_zero t)
  | n + 1, hn, t, ht => by
    have e := cr_ct h true s n
    have e2 := cr_ct h true s (n + 1)
    have eF : (itN (tkF h true) (n + 1) (rsF h s)).1 = (ctR h (cr s) (n + 1)).1 := congrArg Prod.fst e2
    rw [itN_s] at eF ⊢
    by_cases et : t = n
    · subst et
      refine ⟨?_, fun i hi => ?_⟩
      · show upd _ t _ t = _
        rw [upd_s]
        unfold sdR f2R
        rw [← e]
        rfl
      · show kpL t _ _ _ _ = _
        rw [kpL_at hi]
        exact congrArg mSnap (congrFun eF i)
    · obtain ⟨r1, r2⟩ := run_rec h s n (by omega) t (by omega)
      refine ⟨?_, fun i hi => ?_⟩
      · show upd _ n _ t = _
        rw [upd_o et]; exact r1
      · show kpL n _ _ _ _ = _
        rw [kpL_o (fun j hj => by omega)]
        exact r2 i hi
/-! settled, and when -/
theorem dn_eq {h : hQ} {fc : Nat} (hh : hOk h fc) {c : rC} (hk : kOk (hMc h) c.1) {x : Nat} (hx : x < 300) : dnM h c x = doneF (hMc h) (ctR h c (x + 1)).1 := by
  unfold dnM doneF
  congr 1
  refine anyN_cong (fun i hi => ?_)
  obtain ⟨n, hn, e⟩ := ((iW_run hh hk (x + 1) (by omega)).2 i hi).1.1
  have e3 : (ctR h c (x + 1)).1 i 3 = nI n - nI 1 := (rg_get e).symm
  unfold mDone
  rw [e3]
  have : ∀ n, n ≤ 6 → decide (nI n - nI 1 < nI 4) = !(nI n - nI 1 == nI 4 || nI n - nI 1 == nI 5) := by decide +kernel
  exact this n hn
theorem un_eq {h : hQ} {fc : Nat} (hh : hOk h fc) {c : rC} (hk : kOk (hMc h) c.1) : ∀ n, n ≤ 300 → (ctR h c n).2.2.2.2 + nI 1 = nI (edN (dnM h c) n)
  | 0, _ => by show (-1 : Int32) + nI 1 = nI 0; decide
  | n + 1, hn => by
    rw [edN, dn_eq hh hk (by omega)]
    have := un_eq hh hk n (by omega)
    rw [ct_s]
    show (if doneF (hMc h) (fIn h n (f3R h c n)) = true then (ctR h c n).2.2.2.2 else nI n) + nI 1 = _
    dsimp only
    split
    · exact this
    · rw [nI_add]
theorem edN_le (D : Nat → Bool) : ∀ n, edN D n ≤ n
  | 0 => Nat.le_refl 0
  | n + 1 => by
    rw [edN]
    split
    · have := edN_le D n; omega
    · exact Nat.le_refl _
/-- when all are settled: 300 for never -/
noncomputable def enR (h : hQ) (c : rC) : Nat := if hMc h = 0 then 300 else edN (dnM h c) 300
theorem enR_le (h : hQ) (c : rC) : enR h c ≤ 300 := by
  unfold enR
  split
  · exact Nat.le_refl _
  · exact edN_le _ 300
theorem enR_cls {h : hQ} {fc : Nat} (hh : hOk h fc) {c : rC} (hk : kOk (hMc h) c.1) : endF (hMc h) (ctR h c 300) = nI (enR h c) := by
  unfold endF enR
  by_cases e : hMc h = 0
  · rw [e, if_pos rfl, if_pos (show nI 0 = (0 : Int32) from rfl)]
  · rw [if_neg (show ¬ nI (hMc h) = (0 : Int32) from fun z => e ((nI_eq (b := 0) (by have := hh.1; omega) (by decide)).mp z)), if_neg e]
    exact un_eq hh hk 300 (Nat.le_refl _)
theorem enR_ref {h : hQ} {c : rC} : (if hMc h = 0 ∨ dnM h c 299 = false then -1 else nI (edN (dnM h c) 299)) = (if enR h c = 300 then -1 else nI (enR h c)) := by
  unfold enR
  by_cases e : hMc h = 0
  · rw [if_pos (Or.inl e), if_pos e, if_pos rfl]
  · rw [if_neg e]
    cases d : dnM h c 299 with
    | false =>
      rw [if_pos (Or.inr rfl), show edN (dnM h c) 300 = 300 from by rw [edN, d]; rfl, if_pos rfl]
    | true =>
      have e3 : edN (dnM h c) 300 = edN (dnM h c) 299 := by rw [edN, d]; rfl
      have := edN_le (dnM h c) 299
      rw [if_neg (fun z => z.elim e (fun z => by cases z)), e3, if_neg (by omega)]
/-! those UP, counted both ways -/
def upM (F : Nat → Nat → Int32) : Nat → Nat
  | 0 => 0
  | n + 1 => if F n 3 = nI 4 then upM F n + 2 ^ n else upM F n
theorem upM_lt (F : Nat → Nat → Int32) : ∀ n, upM F n < 2 ^ n
  | 0 => by show 0 < 1; decide
  | n + 1 => by
    have := upM_lt F n
    rw [upM, Nat.pow_succ]
    split <;> omega
theorem upF_M (F : Nat → Nat → Int32) : ∀ n, n ≤ 8 → upF F n = nI (upM F n)
  | 0, _ => rfl
  | n + 1, h => by
    have h1 := upM_lt F n
    have h2 : 2 ^ n ≤ 2 ^ 7 := Nat.pow_le_pow_right (by decide) (by omega)
    rw [upF, upM, upF_M F n (by omega)]
    split
    · rw [or_sh h1 (by omega) (by omega), Nat.one_mul]
    · rfl
def ppc (m : Nat) : Nat := m % 2 + m / 2 % 2 + m / 4 % 2 + m / 8 % 2 + m / 16 % 2 + m / 32 % 2 + m / 64 % 2 + m / 128 % 2
theorem bc_ppc : ∀ m, m < 256 → bcP (nI m) = nI (ppc m) := by decide +kernel
theorem bs_ppc : ∀ m, m < 256 → bsF (nI m) 8 = nI (ppc m) := by decide +kernel
theorem ppc_le : ∀ n, n ≤ 8 → ∀ m, m < 2 ^ n → ppc m ≤ n := by
  intro n hn m hm
  have h8 : m < 256 := Nat.lt_of_lt_of_le hm (Nat.pow_le_pow_right (by decide) hn)
  have : ∀ n, n ≤ 8 → ∀ m, m < 256 → m < 2 ^ n → ppc m ≤ n := by decide +kernel
  exact this n hn m h8 hm
def upC (F : Nat → Nat → Int32) (n : Nat) : Nat := ppc (upM F n)
theorem upC_le {F : Nat → Nat → Int32} {n : Nat} (h : n ≤ 8) : upC F n ≤ n := ppc_le n h _ (upM_lt F n)
theorem up_256 {F : Nat → Nat → Int32} {n : Nat} (h : n ≤ 8) : upM F n < 256 := Nat.lt_of_lt_of_le (upM_lt F n) (Nat.pow_le_pow_right (by decide) h)
theorem bc_up {F : Nat → Nat → Int32} {n : Nat} (h : n ≤ 8) : bcP (upF F n) = nI (upC F n) := by rw [upF_M F n h]; exact bc_ppc _ (up_256 h)
theorem bs_up {F : Nat → Nat → Int32} {n : Nat} (h : n ≤ 8) : bsF (upF F n) 8 = nI (upC F n) := by rw [upF_M F n h]; exact bs_ppc _ (up_256 h)
/-! how much is sent -/
theorem sdL_n {w t : Int32} {F : Nat → Nat → Int32} : ∀ (L : List Nat) {s : Int32 × (Nat → Int32) × (Nat → Int32)} {a : Nat}, s.1 = nI a → ∃ b, (sdL w t F L s).1 = nI b ∧ b ≤ a + L.length
  | [], s, a, h => ⟨a, h, by simp⟩
  | x :: L, s, a, h => by
    show ∃ b, (sdL w t F L (sdS w t (blkN (F x)) s)).1 = nI b ∧ _
    unfold sdS
    split
    · obtain ⟨b, h1, h2⟩ := sdL_n (w := w) (t := t) (F := F) L h
      exact ⟨b, h1, by simp; omega⟩
    · obtain ⟨b, h1, h2⟩ := sdL_n (w := w) (t := t) (F := F) L (s := (s.1 + nI 1, upd s.2.1 (blkN (F x)) t, upd s.2.2 (blkN (F x)) (s.2.2 (blkN (F x)) + nI 1))) (a := a + 1) (by show s.1 + nI 1 = _; rw [h, nI_add])
      exact ⟨b, h1, by simp; omega⟩
theorem sdR_n {h : hQ} (h8 : hMc h ≤ 8) (c : rC) (t : Nat) : ∃ b, (sdR h c t).1 = nI b ∧ b ≤ 8 := by
  obtain ⟨b, h1, h2⟩ := sdL_n (w := hWd h) (t := nI t) (F := f2R h c t) (lineC (nI t) (hMc h) (f2R h c t)) (s := (nI 0, (ctR h c t).2.2.1, (ctR h c t).2.1)) (a := 0) rfl
  have hl := line_ex (nI t) (hMc h) (f2R h c t)
  have := nodup_len (line_nodup hl.2) (fun i hi => ((hl.1 i).mp hi).1)
  exact ⟨b, h1, by omega⟩
theorem snt_n {h : hQ} (h8 : hMc h ≤ 8) (c : rC) : ∀ t, ∃ z, (ctR h c t).2.2.2.1 = nI z ∧ z ≤ 8 * t
  | 0 => ⟨0, rfl, by omega⟩
  | t + 1 => by
    obtain ⟨z, h1, h2⟩ := snt_n h8 c t
    obtain ⟨b, h3, h4⟩ := sdR_n h8 c t
    refine ⟨z + b, ?_, by omega⟩
    rw [ct_s]
    show (ctR h c t).2.2.2.1 + (sdR h c t).1 = _
    rw [h1, h3, nI_add]
/-! a plan's cost -/
def cstN (mc u e z : Nat) : Nat := ((mc - u) * 301 + e) * 2401 + z
theorem cst_n {h : hQ} {fc : Nat} (hh : hOk h fc) {c : rC} (hk : kOk (hMc h) c.1) {z : Nat} (hz : (ctR h c 300).2.2.2.1 = nI z) : costF (hMc h) (ctR h c 300) = nI (cstN (hMc h) (upC (ctR h c 300).1 (hMc h)) (enR h c) z) := by
  unfold costF cstN
  rw [bc_up hh.1, pk_sub (upC_le hh.1), pk_mul, enR_cls hh hk, nI_add, pk_mul, hz, nI_add]
theorem cst_lt {mc u e z : Nat} (h8 : mc ≤ 8) (he : e ≤ 300) (hz : z ≤ 2400) : cstN mc u e z < 10000000 := by
  unfold cstN
  generalize hp : mc - u = p
  have : p ≤ 8 := by omega
  omega
/-- as the reference weighs it -/
theorem cst_cmp {mc u e z u' e' z' : Nat} (hu : u ≤ mc) (hu' : u' ≤ mc) (he : e ≤ 300) (he' : e' ≤ 300) (hz : z ≤ 2400) (hz' : z' ≤ 2400) : cstN mc u e z < cstN mc u' e' z' ↔ ¬ (u < u' ∨ (u = u' ∧ (e' < e ∨ (e = e' ∧ z' ≤ z)))) := by
  unfold cstN
  obtain ⟨p, rfl⟩ : ∃ p, mc = u + p := ⟨mc - u, by omega⟩
  obtain ⟨q, hq⟩ : ∃ q, u + p = u' + q := ⟨u + p - u', by omega⟩
  rw [show u + p - u = p by omega, show u + p - u' = q by omega]
  omega
