/-! the reference: an expression -/
def TK (G : gS) (B : Nat → Nat) (n : Nat) : Prop := ∀ j, j ≤ 400 → (∀ i, i < j → (tkT B n i).1 ≠ nI 0) → tkR (tkT B n j).1 (tkT B n j).2.1 (G.1 5 j) (G.1 7 j) ∧ G.1 6 j = nI (tkT B n j).2.2.1
theorem nI_dj {a b : Nat} (h : a ≠ b) (ha : a < 2 ^ 31) (hb : b < 2 ^ 31) : ¬ nI a = nI b := fun z => h ((nI_eq ha hb).mp z)
theorem tk5 {s v kd vl : Int32} (h : tkR s v kd vl) : (s = nI 10 ∧ kd = nI 6) ∨ (∃ x, x < 7 ∧ s = nI 3 ∧ v = nI x ∧ kd = nI (25 + x)) ∨ (∃ x, x ≤ 9999 ∧ s = nI 2 ∧ v = nI x ∧ kd = nI 2 ∧ vl = nI x) ∨ (¬ kd = nI 6 ∧ ¬ kd = nI 2 ∧ kd < nI 25 ∧ cN s ≠ 2 ∧ cN s ≠ 3 ∧ cN s ≠ 10) := by
  have o : ∀ a b, s = nI a → kd = nI b → a < 13 → a ≠ 2 → a ≠ 3 → a ≠ 10 → b < 25 → b ≠ 6 → b ≠ 2 → (¬ kd = nI 6 ∧ ¬ kd = nI 2 ∧ kd < nI 25 ∧ cN s ≠ 2 ∧ cN s ≠ 3 ∧ cN s ≠ 10) := by
    intro a b e1 e2 h1 h2 h3 h4 h5 h6 h7
    rw [e1, e2, cN_nI (by omega)]
    exact ⟨nI_dj h6 (by omega) (by decide), nI_dj h7 (by omega) (by decide), nI_lt h5 (by decide), h2, h3, h4⟩
  rcases h with ⟨h1, h2⟩ | ⟨h1, h2 | h2⟩ | ⟨x, h1, h2, h3, h4, h5⟩ | ⟨x, h1, h2, h3, h4⟩ | ⟨h1, h2⟩ | ⟨h1, h2⟩ | ⟨h1, h2⟩ | ⟨x, h1, h2, h3, h4, h5⟩ | ⟨x, h1, h2, h3, h4, h5⟩ | ⟨x, h1, h2, h3, h4, h5⟩ | ⟨h1, h2⟩ | ⟨h1, h2⟩ | ⟨h1, h2⟩
  · exact Or.inr (Or.inr (Or.inr (o 0 0 h1 h2 (by decide) (by decide) (by decide) (by decide) (by decide) (by decide) (by decide))))
  · exact Or.inr (Or.inr (Or.inr (o 1 1 h1 h2 (by decide) (by decide) (by decide) (by decide) (by decide) (by decide) (by decide))))
  · exact Or.inr (Or.inr (Or.inr (o 1 3 h1 h2 (by decide) (by decide) (by decide) (by decide) (by decide) (by decide) (by decide))))
  · exact Or.inr (Or.inr (Or.inl ⟨x, h1, h2, h3, h4, h5⟩))
  · exact Or.inr (Or.inl ⟨x, h1, h2, h3, h4⟩)
  · exact Or.inr (Or.inr (Or.inr (o 4 20 h1 h2 (by decide) (by decide) (by decide) (by decide) (by decide) (by decide) (by decide))))
  · exact Or.inr (Or.inr (Or.inr (o 5 22 h1 h2 (by decide) (by decide) (by decide) (by decide) (by decide) (by decide) (by decide))))
  · exact Or.inr (Or.inr (Or.inr (o 6 21 h1 h2 (by decide) (by decide) (by decide) (by decide) (by decide) (by decide) (by decide))))
  · exact Or.inr (Or.inr (Or.inr (o 7 (22 + x) h3 h5 (by decide) (by decide) (by decide) (by decide) (by omega) (by omega) (by omega))))
  · exact Or.inr (Or.inr (Or.inr (o 8 (8 + x) h3 h5 (by decide) (by decide) (by decide) (by decide) (by omega) (by omega) (by omega))))
  · exact Or.inr (Or.inr (Or.inr (o 9 (1 + x) h3 h5 (by decide) (by decide) (by decide) (by decide) (by omega) (by omega) (by omega))))
  · exact Or.inl ⟨h1, h2⟩
  · exact Or.inr (Or.inr (Or.inr (o 11 7 h1 h2 (by decide) (by decide) (by decide) (by decide) (by decide) (by decide) (by decide))))
  · exact Or.inr (Or.inr (Or.inr (o 12 4 h1 h2 (by decide) (by decide) (by decide) (by decide) (by decide) (by decide) (by decide))))
theorem tk6 {s v kd vl : Int32} (h : tkR s v kd vl) : (s = nI 11 ∧ kd = nI 7) ∨ (∃ x, 7 ≤ x ∧ x ≤ 9 ∧ s = nI 9 ∧ v = nI x ∧ kd = nI (1 + x)) ∨ (¬ kd = nI 7 ∧ ¬ kd = nI 8 ∧ ¬ kd = nI 9 ∧ ¬ kd = nI 10 ∧ cN s ≠ 9 ∧ cN s ≠ 11) := by
  have o : ∀ a b, s = nI a → kd = nI b → a < 13 → a ≠ 9 → a ≠ 11 → b < 40 → (b < 7 ∨ 10 < b) → (¬ kd = nI 7 ∧ ¬ kd = nI 8 ∧ ¬ kd = nI 9 ∧ ¬ kd = nI 10 ∧ cN s ≠ 9 ∧ cN s ≠ 11) := by
    intro a b e1 e2 h1 h2 h3 h4 h5
    rw [e1, e2, cN_nI (by omega)]
    exact ⟨nI_dj (by omega) (by omega) (by decide), nI_dj (by omega) (by omega) (by decide), nI_dj (by omega) (by omega) (by decide), nI_dj (by omega) (by omega) (by decide), h2, h3⟩
  rcases h with ⟨h1, h2⟩ | ⟨h1, h2 | h2⟩ | ⟨x, h1, h2, h3, h4, h5⟩ | ⟨x, h1, h2, h3, h4⟩ | ⟨h1, h2⟩ | ⟨h1, h2⟩ | ⟨h1, h2⟩ | ⟨x, h1, h2, h3, h4, h5⟩ | ⟨x, h1, h2, h3, h4, h5⟩ | ⟨x, h1, h2, h3, h4, h5⟩ | ⟨h1, h2⟩ | ⟨h1, h2⟩ | ⟨h1, h2⟩
  · exact Or.inr (Or.inr (o 0 0 h1 h2 (by decide) (by decide) (by decide) (by decide) (by decide)))
  · exact Or.inr (Or.inr (o 1 1 h1 h2 (by decide) (by decide) (by decide) (by decide) (by decide)))
  · exact Or.inr (Or.inr (o 1 3 h1 h2 (by decide) (by decide) (by decide) (by decide) (by decide)))
  · exact Or.inr (Or.inr (o 2 2 h2 h4 (by decide) (by decide) (by decide) (by decide) (by decide)))
  · exact Or.inr (Or.inr (o 3 (25 + x) h2 h4 (by decide) (by decide) (by decide) (by omega) (by omega)))
  · exact Or.inr (Or.inr (o 4 20 h1 h2 (by decide) (by decide) (by decide) (by decide) (by decide)))
  · exact Or.inr (Or.inr (o 5 22 h1 h2 (by decide) (by decide) (by decide) (by decide) (by decide)))
  · exact Or.inr (Or.inr (o 6 21 h1 h2 (by decide) (by decide) (by decide) (by decide) (by decide)))
  · exact Or.inr (Or.inr (o 7 (22 + x) h3 h5 (by decide) (by decide) (by decide) (by omega) (by omega)))
  · exact Or.inr (Or.inr (o 8 (8 + x) h3 h5 (by decide) (by decide) (by decide) (by omega) (by omega)))
  · exact Or.inr (Or.inl ⟨x, h1, h2, h3, h4, h5⟩)
  · exact Or.inr (Or.inr (o 10 6 h1 h2 (by decide) (by decide) (by decide) (by decide) (by decide)))
  · exact Or.inl ⟨h1, h2⟩
  · exact Or.inr (Or.inr (o 12 4 h1 h2 (by decide) (by decide) (by decide) (by decide) (by decide)))
section
variable {B : Nat → Nat} {n k o : Nat} {R : Int32 × Int32 × pS} {rel : Bool} {fw : Int32} {ops : List Nat} {r : pR} {rs : List pR}
theorem lv_len {e : Nat} (h : Lv B n R k (e, o, rel, fw, ops, rs)) : ops.length ≤ 23 := by
  have h1 := stk_len h.2.2.1.2.2.1 (Nat.le_refl 6)
  have h2 : o ≤ 6 := h.2.2.1.2.1
  have h1 : ops.length ≤ (if o = 0 then 6 - 1 else (6 - 4) + 3 * o + 3) := h1
  split at h1 <;> omega
theorem lv5_open (h : Lv B n R k (5, o, rel, fw, ops, r :: rs)) (hs : (tkT B n k).1 = nI 10) (hq : tokQ (cN (tkT B n k).1) (tkT B n k).2.1) : ((6 ≤ o ∨ k = 400) → R.1 = nI 2 ∧ R.2.1 = nI (tkT B n k).2.2.1) ∧ (o < 6 → k ≠ 400 → Lv B n R (k + 1) (5, o + 1, rel, fw, 0 :: ops, r :: rs)) := by
  have e : cN (tkT B n k).1 = 10 := by rw [hs]; decide
  have st := h.step e
  rw [e] at hq
  refine ⟨fun z => ?_, fun z1 z2 => ?_⟩
  · have := st.2.2.1 (by show 5 ≠ 9; decide) (by show 5 ≠ 7; decide) (z.elim (fun z => Or.inr (decide_eq_true (Or.inr ⟨rfl, z⟩))) Or.inl)
    rw [this]; exact ⟨rfl, rfl⟩
  · exact st.2.2.2 (by show 5 ≠ 9; decide) (by show 5 ≠ 7; decide) z2 (decide_eq_false (by rintro (z | z); exact absurd z.1 (by show ¬ 5 = 0; decide); exact absurd z.2 (by show ¬ 6 ≤ o; omega))) hq
theorem lv5_unit {so : Nat} (h : Lv B n R k (5, o, rel, fw, ops, r :: rs)) (hs : (tkT B n k).1 = nI so) (h23 : so = 2 ∨ so = 3) (hq : tokQ (cN (tkT B n k).1) (tkT B n k).2.1) : (k = 400 → R.1 = nI 2 ∧ R.2.1 = nI (tkT B n k).2.2.1) ∧ (k ≠ 400 → Lv B n R (k + 1) (6, o, rel, fw, ops, (r.1, r.2.1, (if so = 3 then ((nI 16 + (tkT B n k).2.1) ^^^ -1) else (tkT B n k).2.1) :: r.2.2) :: rs)) := by
  have e : cN (tkT B n k).1 = so := by rw [hs]; exact cN_nI (by omega)
  have st := h.step e
  rw [e] at hq
  have ho : overS (5, o, rel, fw, ops, r :: rs) so = false := decide_eq_false (by rintro (z | z); exact absurd z.1 (by show ¬ 5 = 0; decide); omega)
  rcases h23 with rfl | rfl
  · refine ⟨fun z => ?_, fun z => ?_⟩
    · have := st.2.2.1 (by show 6 ≠ 9; decide) (by show 6 ≠ 7; decide) (Or.inl z)
      rw [this]; exact ⟨rfl, rfl⟩
    · exact st.2.2.2 (by show 6 ≠ 9; decide) (by show 6 ≠ 7; decide) z ho hq
  · refine ⟨fun z => ?_, fun z => ?_⟩
    · have := st.2.2.1 (by show 6 ≠ 9; decide) (by show 6 ≠ 7; decide) (Or.inl z)
      rw [this]; exact ⟨rfl, rfl⟩
    · exact st.2.2.2 (by show 6 ≠ 9; decide) (by show 6 ≠ 7; decide) z ho hq
theorem lv5_bad (h : Lv B n R k (5, o, rel, fw, ops, rs)) (h2 : cN (tkT B n k).1 ≠ 2) (h3 : cN (tkT B n k).1 ≠ 3) (h10 : cN (tkT B n k).1 ≠ 10) : R.1 = nI 1 ∧ R.2.1 = nI (tkT B n k).2.2.1 := by
  have st := (h.step rfl).1 (by show (if cN (tkT B n k).1 = 2 ∨ cN (tkT B n k).1 = 3 then 6 else if cN (tkT B n k).1 = 10 then 5 else 9) = 9; rw [if_neg (by omega), if_neg h10])
  rw [st]; exact ⟨rfl, rfl⟩
theorem lv6_close (h : Lv B n R k (6, o, rel, fw, ops, r :: rs)) (ho : 0 < o) (hs : (tkT B n k).1 = nI 11) (hq : tokQ (cN (tkT B n k).1) (tkT B n k).2.1) : (k = 400 → R.1 = nI 2 ∧ R.2.1 = nI (tkT B n k).2.2.1) ∧ (k ≠ 400 → Lv B n R (k + 1) (6, o - 1, rel, fw, (edn 1 ops []).1.tail, (r.1, r.2.1, (edn 1 ops r.2.2).2) :: rs)) := by
  have e : cN (tkT B n k).1 = 11 := by rw [hs]; decide
  have st := h.step e
  rw [e] at hq
  have hf : fol 6 o rel 11 = 6 := by show folU o rel 11 = 6; unfold folU; rw [if_neg (by decide), if_pos ho, if_pos rfl]
  have hov : overS (6, o, rel, fw, ops, r :: rs) 11 = false := decide_eq_false (by rintro (z | z); exact absurd z.1 (by show ¬ 6 = 0; decide); exact absurd z.1 (by decide))
  refine ⟨fun z => ?_, fun z => ?_⟩
  · have := st.2.2.1 (by show fol 6 o rel 11 ≠ 9; rw [hf]; decide) (by show fol 6 o rel 11 ≠ 7; rw [hf]; decide) (Or.inl z)
    rw [this]; exact ⟨rfl, rfl⟩
  · have := st.2.2.2 (by show fol 6 o rel 11 ≠ 9; rw [hf]; decide) (by show fol 6 o rel 11 ≠ 7; rw [hf]; decide) z hov hq
    have e2 : fol (6, o, rel, fw, ops, r :: rs).1 (6, o, rel, fw, ops, r :: rs).2.1 (6, o, rel, fw, ops, r :: rs).2.2.1 11 = 6 := hf
    rw [e2] at this
    exact this
theorem lv6_math {x : Nat} (h : Lv B n R k (6, o, rel, fw, ops, r :: rs)) (hs : (tkT B n k).1 = nI 9) (hx : (tkT B n k).2.1 = nI x) (hx9 : x ≤ 9) (hq : tokQ (cN (tkT B n k).1) (tkT B n k).2.1) : (k = 400 → R.1 = nI 2 ∧ R.2.1 = nI (tkT B n k).2.2.1) ∧ (k ≠ 400 → Lv B n R (k + 1) (5, o, rel, fw, x :: (edn (rk x) ops []).1, (r.1, r.2.1, (edn (rk x) ops r.2.2).2) :: rs)) := by
  have e : cN (tkT B n k).1 = 9 := by rw [hs]; decide
  have st := h.step e
  rw [e] at hq
  have hov : overS (6, o, rel, fw, ops, r :: rs) 9 = false := decide_eq_false (by rintro (z | z); exact absurd z.1 (by show ¬ 6 = 0; decide); exact absurd z.1 (by decide))
  refine ⟨fun z => ?_, fun z => ?_⟩
  · have := st.2.2.1 (by show 5 ≠ 9; decide) (by show 5 ≠ 7; decide) (Or.inl z)
    rw [this]; exact ⟨rfl, rfl⟩
  · have := st.2.2.2 (by show 5 ≠ 9; decide) (by show 5 ≠ 7; decide) z hov hq
    rw [hx] at this
    have e2 : setE (takeS (6, o, rel, fw, ops, r :: rs) 9 (nI x) (tkT B n k).2.2.1) 5 = (5, o, (false || (rel && true)), fw, cN (nI x) :: (edn (rk (cN (nI x))) ops []).1, (r.1, r.2.1, (edn (rk (cN (nI x))) ops r.2.2).2) :: rs) := rfl
    have e3 : fol (6, o, rel, fw, ops, r :: rs).1 (6, o, rel, fw, ops, r :: rs).2.1 (6, o, rel, fw, ops, r :: rs).2.2.1 9 = 5 := rfl
    rw [e3, e2, cN_nI (by omega), Bool.false_or, Bool.and_true] at this
    exact this
theorem lv6_in (h : Lv B n R k (6, o, rel, fw, ops, rs)) (ho : 0 < o) (h9 : cN (tkT B n k).1 ≠ 9) (h11 : cN (tkT B n k).1 ≠ 11) : R.1 = nI 1 ∧ R.2.1 = nI (tkT B n k).2.2.1 := by
  have st := (h.step rfl).1 (by show folU o rel (cN (tkT B n k).1) = 9; unfold folU; rw [if_neg h9, if_pos ho, if_neg h11])
  rw [st]; exact ⟨rfl, rfl⟩
end
/-- the reference has found a fault, and it is the class's -/
def Ft (G : gS) (R : Int32 × Int32 × pS) : Prop := ∃ f, 1 ≤ f ∧ f ≤ 2 ∧ G.1 100 13 = nI f ∧ R.1 = nI f ∧ G.1 100 14 = R.2.1
theorem Ft.pos {G : gS} {R : Int32 × Int32 × pS} (h : Ft G R) : 0 < G.1 100 13 ∧ ¬ G.1 100 13 = 0 := by
  obtain ⟨f, h1, h2, h3, -⟩ := h
  rw [h3]
  rcases (show f = 1 ∨ f = 2 by omega) with rfl | rfl <;> decide
def xS (q : Nat) : Prop := q = 32 ∨ q = 33 ∨ q = 34 ∨ q = 100
def exF (G G1 : gS) (cd kb : Nat) : Prop := Fr xS G G1 ∧ (∀ q, q ≠ 11 → q ≠ 12 → q ≠ 13 → q ≠ 14 → q ≠ 31 → q ≠ 35 → G1.1 100 q = G.1 100 q) ∧ ∀ j, (j < cd ∨ cd + 401 ≤ j + kb) → G1.1 32 j = G.1 32 j ∧ G1.1 33 j = G.1 33 j
theorem exF.w {G G1 G2 : gS} {cd kb : Nat} (h : exF G G1 cd kb) (hF : Fr (fun q => q = 34 ∨ q = 100) G1 G2) (h1 : ∀ q, q ≠ 11 → q ≠ 12 → q ≠ 13 → q ≠ 14 → q ≠ 31 → q ≠ 35 → G2.1 100 q = G1.1 100 q) : exF G G2 cd kb :=
  ⟨Fr.trans h.1 (hF.mono (fun q z => by unfold xS; omega)), fun q a b c d e f => (h1 q a b c d e f).trans (h.2.1 q a b c d e f), fun j hj => by rw [hF.1 32 (by decide), hF.1 33 (by decide)]; exact h.2.2 j hj⟩
theorem exF.e {G G1 : gS} {cd kb cc : Nat} {k v : Int32} (h : exF G G1 cd kb) (h1 : cd ≤ cc) (h2 : cc + kb < cd + 401) : exF G (emF cc k v G1) cd kb := by
  unfold emF
  refine ⟨((h.1.sI (Or.inl rfl)).sI (Or.inr (Or.inl rfl))).sI (Or.inr (Or.inr (Or.inr rfl))), fun q a b c d e f => ?_, fun j hj => ?_⟩
  · rw [sI_s, upd_o e, sI_o (by decide), sI_o (by decide)]; exact h.2.1 q a b c d e f
  · rw [sI_o (by decide), sI_o (by decide), sI_s, upd_o (by omega), sI_o (by decide), sI_s, upd_o (by omega), sI_o (by decide)]; exact h.2.2 j hj
theorem exF.co {G G1 G2 : gS} {cd kb c : Nat} {E : List Nat} {tm : Bool} {LE : (Nat → Int32) → List Int32} (h : exF G G1 cd kb) (hc : coP G1 G2 E tm c cd LE) (h1 : cd ≤ c) (h2 : c + E.length + kb ≤ cd + 401) : exF G G2 cd kb := by
  obtain ⟨c1, c2, c3, c4, c5, c6⟩ := hc
  have := pop_len tm E
  refine ⟨Fr.trans h.1 (c1.mono (fun q z => by unfold xS; omega)), fun q a b c d e f => (c2 q e f).trans (h.2.1 q a b c d e f), fun j hj => ?_⟩
  obtain ⟨e1, e2⟩ := c5 j (by omega)
  rw [e1, e2]
  exact h.2.2 j hj
def exT (G G1 : gS) (cd kb k o cc : Nat) (E : List Nat) (LE : (Nat → Int32) → List Int32) (d : Nat) : Prop := oE E ∧ E.length = nz E + o ∧ (∀ v, mEv v (G1.1 32) (G1.1 33) (cc - cd) cd [] (LE v)) ∧ (∀ v, (LE v).length = nz E + d) ∧ cd ≤ cc ∧ cc + E.length + kb ≤ cd + k ∧ k ≤ 401 ∧ G1.1 100 12 = nI o ∧ G1.1 100 31 = nI cc ∧ G1.1 100 35 = nI E.length ∧ wtR (G1.1 34) E ∧ exF G G1 cd kb
theorem wtR_suf {f : Nat → Int32} : ∀ {p r : List Nat}, wtR f (p ++ r) → wtR f r
  | [], _, h => h
  | _ :: p, _, h => wtR_suf (p := p) (wtR_pop h).1
theorem exT.co {G G1 G2 : gS} {cd kb k o cc : Nat} {E : List Nat} {LE : (Nat → Int32) → List Int32} {tm : Bool} (h : exT G G1 cd kb k o cc E LE 1) (hc : coP G1 G2 E tm cc cd LE) : exT G G2 cd kb k o (cc + (E.takeWhile (popP tm)).length) (E.dropWhile (popP tm)) (fun v => apL (E.takeWhile (popP tm)) (LE v)) 1 := by
  obtain ⟨t1, t2, t3, t4, t5, t6, t7, t8, t9, t10, t11, t12⟩ := h
  have hc' := hc
  obtain ⟨c1, c2, c3, c4, c5, c6⟩ := hc
  have l1 := pop_len tm E
  have l2 := pop_nz tm E
  refine ⟨fun x hx => t1 x (drop_mem hx), by omega, c6, fun v => ?_, by omega, by omega, t7, by rw [c2 12 (by decide) (by decide)]; exact t8, c4, c3, ?_, t12.co hc' t5 (by omega)⟩
  · have := apL_len (E.takeWhile (popP tm)) (LE v) (by rw [t4 v]; omega)
    have := t4 v
    show (apL _ _).length = _
    omega
  · rw [c1.1 34 (by decide)]
    refine wtR_suf (p := E.takeWhile (popP tm)) ?_
    rw [List.takeWhile_append_dropWhile]
    exact t11
/-- t, fault and its place are no part of it -/
theorem exT.t {G G1 G2 : gS} {cd kb k o cc : Nat} {E : List Nat} {LE : (Nat → Int32) → List Int32} {d : Nat} (h : exT G G1 cd kb k o cc E LE d) (k2 : Nat) (hk : k ≤ k2) (hk2 : k2 ≤ 401) (hF : Fr (fun q => q = 100) G1 G2) (h1 : ∀ q, q ≠ 11 → q ≠ 13 → q ≠ 14 → G2.1 100 q = G1.1 100 q) : exT G G2 cd kb k2 o cc E LE d := by
  obtain ⟨t1, t2, t3, t4, t5, t6, t7, t8, t9, t10, t11, t12⟩ := h
  refine ⟨t1, t2, fun v => by rw [hF.1 32 (by decide), hF.1 33 (by decide)]; exact t3 v, t4, t5, by omega, hk2, by rw [h1 12 (by decide) (by decide) (by decide)]; exact t8, by rw [h1 31 (by decide) (by decide) (by decide)]; exact t9, by rw [h1 35 (by decide) (by decide) (by decide)]; exact t10, by rw [hF.1 34 (by decide)]; exact t11, t12.w (hF.mono (fun q z => Or.inr z)) (fun q a b c d e f => h1 q a c d)⟩
theorem exT.tf {G G1 : gS} {cd kb k o cc : Nat} {E : List Nat} {LE : (Nat → Int32) → List Int32} {d : Nat} {x y : Int32} (h : exT G G1 cd kb k o cc E LE d) (k2 : Nat) (hk : k ≤ k2) (hk2 : k2 ≤ 401) : exT G (sI (sI G1 100 13 x) 100 14 y) cd kb k2 o cc E LE d := h.t k2 hk hk2 (Fr.sI (S := fun q => q = 100) (Fr.sI (S := fun q => q = 100) Fr.refl rfl) rfl) (fun q a b c => by rw [sI_s, upd_o c, sI_s, upd_o b])
theorem exT.tn {G G1 : gS} {cd kb k o cc : Nat} {E : List Nat} {LE : (Nat → Int32) → List Int32} {d : Nat} {x : Int32} (h : exT G G1 cd kb k o cc E LE d) (k2 : Nat) (hk : k ≤ k2) (hk2 : k2 ≤ 401) : exT G (sI G1 100 11 x) cd kb k2 o cc E LE d := h.t k2 hk hk2 (Fr.refl.sI rfl) (fun q a b c => by rw [sI_s, upd_o a])
theorem exT.em {G G1 : gS} {cd kb k o cc : Nat} {E : List Nat} {LE : (Nat → Int32) → List Int32} {a b : Int32} {x : (Nat → Int32) → Int32} (h : exT G G1 cd kb k o cc E LE 0) (hE : E.length ≤ 23) (hk : k ≤ 400) (hx : ∀ v, (a = nI 0 ∧ x v = b) ∨ (a = nI 1 ∧ ∃ j, j < 7 ∧ b = nI j ∧ x v = v j)) : exT G (emF cc a b G1) cd kb (k + 1) o (cc + 1) E (fun v => x v :: LE v) 1 := by
  obtain ⟨t1, t2, t3, t4, t5, t6, t7, t8, t9, t10, t11, t12⟩ := h
  refine ⟨t1, t2, fun v => ?_, fun v => by show (LE v).length + 1 = _; have := t4 v; omega, by omega, by omega, by omega, ?_, ?_, ?_, ?_, t12.e t5 (by omega)⟩
  · rw [show cc + 1 - cd = (cc - cd) + 1 by omega]
    have e32 : (emF cc a b G1).1 32 = upd (G1.1 32) cc a := by unfold emF; rw [sI_o (by decide), sI_o (by decide), sI_s]
    have e33 : (emF cc a b G1).1 33 = upd (G1.1 33) cc b := by unfold emF; rw [sI_o (by decide), sI_s, sI_o (by decide)]
    rw [e32, e33]
    refine mEv_snoc _ _ _ (LE v) (mEv_ext _ _ _ _ (fun j z1 z2 => ?_) (t3 v)) ?_
    · rw [upd_o (by omega), upd_o (by omega)]; exact ⟨rfl, rfl⟩
    · rw [show cd + (cc - cd) = cc by omega]
      refine Or.inl ⟨x v, ?_, by have := nz_le E; rw [t4 v]; omega, rfl⟩
      rw [upd_s, upd_s]
      rcases hx v with ⟨z1, z2⟩ | ⟨z1, j, z2, z3, z4⟩
      · exact Or.inl ⟨z1, z2⟩
      · exact Or.inr ⟨z1, j, z2, z3, z4⟩
  · unfold emF; rw [sI_s, upd_o (by decide), sI_o (by decide), sI_o (by decide)]; exact t8
  · unfold emF; rw [sI_s, upd_s]
  · unfold emF; rw [sI_s, upd_o (by decide), sI_o (by decide), sI_o (by decide)]; exact t10
  · unfold emF; rw [sI_o (by decide), sI_o (by decide), sI_o (by decide)]; exact t11
/-- an operator, or a bracket, begins to wait -/
theorem exT.push {G G1 : gS} {cd kb k o cc : Nat} {E : List Nat} {LE : (Nat → Int32) → List Int32} {d d2 o2 x : Nat} {op : Int32} (h : exT G G1 cd kb k o cc E LE d) (hk : k ≤ 400) (hx : x = 0 ∨ x = 7 ∨ x = 8 ∨ x = 9) (ho : op = nI o2) (hz : o2 + (if x = 0 then 0 else 1) = o + 1) (hd : (if x = 0 then 0 else 1) + d2 = d) : exT G (sI (sI (sI G1 100 12 op) 34 E.length (nI (wm x))) 100 35 (nI (E.length + 1))) cd kb (k + 1) o2 cc (x :: E) LE d2 := by
  obtain ⟨t1, t2, t3, t4, t5, t6, t7, t8, t9, t10, t11, t12⟩ := h
  refine ⟨fun y hy => ?_, ?_, fun v => ?_, fun v => ?_, t5, by rw [List.length_cons]; omega, by omega, ?_, ?_, ?_, ?_, ?_⟩
  · rcases List.mem_cons.mp hy with rfl | hy
    · exact hx
    · exact t1 y hy
  · rw [List.length_cons, nz]; omega
  · rw [sI_o (by decide), sI_o (by decide), sI_o (by decide), sI_o (by decide), sI_o (by decide), sI_o (by decide)]; exact t3 v
  · rw [t4 v, nz]; omega
  · rw [sI_s, upd_o (by decide), sI_o (by decide), sI_s, upd_s, ho]
  · rw [sI_s, upd_o (by decide), sI_o (by decide), sI_s, upd_o (by decide)]; exact t9
  · rw [sI_s, upd_s, List.length_cons]
  · rw [sI_o (by decide), sI_s, sI_o (by decide)]; exact wtR_push t11 x
  · refine t12.w (((Fr.refl.sI (Or.inr rfl)).sI (Or.inl rfl)).sI (Or.inr rfl)) (fun q a b c d e f => ?_)
    rw [sI_s, upd_o f, sI_o (by decide), sI_s, upd_o b]
theorem all_nz {E : List Nat} (h : oE E) (hl : E.length = nz E + 0) : ∀ z, z ∈ E → z = 7 ∨ z = 8 ∨ z = 9 := by
  induction E with
  | nil => intro z hz; simp at hz
  | cons x E ih =>
    rw [nz, List.length_cons] at hl
    have := nz_le E
    by_cases e : x = 0
    · rw [if_pos e] at hl; omega
    · rw [if_neg e] at hl
      intro z hz
      rcases List.mem_cons.mp hz with rfl | hz
      · exact (h z List.mem_cons_self).resolve_left e
      · exact ih (fun y hy => h y (List.mem_cons_of_mem _ hy)) (by omega) z hz
theorem tw_all : ∀ {E : List Nat}, (∀ z, z ∈ E → z = 7 ∨ z = 8 ∨ z = 9) → E.takeWhile (popP false) = E ∧ E.dropWhile (popP false) = []
  | [], _ => ⟨rfl, rfl⟩
  | x :: E, h => by
    have hp : popP false x = true := by rcases h x List.mem_cons_self with rfl | rfl | rfl <;> decide
    obtain ⟨h1, h2⟩ := tw_all (E := E) (fun z hz => h z (List.mem_cons_of_mem _ hz))
    rw [List.takeWhile_cons, if_pos hp, List.dropWhile_cons, if_pos hp, h1, h2]
    exact ⟨rfl, rfl⟩
theorem dw_zero : ∀ {E : List Nat} {o : Nat}, oE E → 0 < o → E.length = nz E + o → ∃ E2, E.dropWhile (popP false) = 0 :: E2
  | [], o, _, h1, h2 => by simp [nz] at h2; omega
  | x :: E, o, h, h1, h2 => by
    by_cases e : x = 0
    · subst e; exact ⟨E, by rw [List.dropWhile_cons, if_neg (by decide)]⟩
    · have hp : popP false x = true := by rcases h x List.mem_cons_self with rfl | rfl | rfl | rfl <;> first | exact absurd rfl e | decide
      rw [nz, List.length_cons, if_neg e] at h2
      rw [List.dropWhile_cons, if_pos hp]
      exact dw_zero (fun y hy => h y (List.mem_cons_of_mem _ hy)) h1 (by omega)
def exP (G G' : gS) (B : Nat → Nat) (n : Nat) (R : Int32 × Int32 × pS) (kb cd : Nat) (rel : Bool) (fw : Int32) (ops0 : List Nat) (a : Bool) (m : Int32) (rs : List pR) (L0 : (Nat → Int32) → List Int32) : Prop :=
  exF G G' cd kb ∧ ((∃ t, G'.1 100 11 = nI t ∧ t ≤ 400 ∧ Ft G' R) ∨
    ∃ (k : Nat) (E : List Nat) (c : List Int32) (cc : Nat) (LE : (Nat → Int32) → List Int32) (x : vV), Lv B n R k (6, 0, rel, fw, E ++ ops0, (a, m, c) :: rs) ∧ (∀ z, z ∈ E → z = 7 ∨ z = 8 ∨ z = 9) ∧ (∀ v, (LE v).length = E.length + 1 ∧ apL E (LE v) = [x v] ∧ cK v c (LE v ++ L0 v)) ∧ (∀ v, mEv v (G'.1 32) (G'.1 33) (cc - cd) cd [] [x v]) ∧ cd ≤ cc ∧ cc + kb ≤ cd + k ∧ kb < k ∧ G'.1 100 11 = nI k ∧ G'.1 100 12 = nI 0 ∧ G'.1 100 13 = 0 ∧ G'.1 100 31 = nI cc ∧ (cN (tkT B n k).1 ≠ 9))
theorem isB_t {G : gS} {x : Int32} {t : Nat} (h1 : G.1 100 13 = 0) (h2 : G.1 5 t = x) : isB x t G = true := decide_eq_true ⟨h1, h2⟩
theorem isB_f {G : gS} {x : Int32} {t : Nat} (h2 : ¬ G.1 5 t = x) : isB x t G = false := decide_eq_false (fun z => h2 z.2)
theorem isB_ff {G : gS} {x : Int32} {t : Nat} (h2 : ¬ G.1 100 13 = 0) : isB x t G = false := decide_eq_false (fun z => h2 z.1)
theorem fF_0 {G : gS} {f : Int32} {t : Nat} (h : G.1 100 13 = 0) : fF f t G = sI (sI G 100 13 f) 100 14 (G.1 6 t) := if_neg (by rw [h]; decide)
theorem fF_p {G : gS} {f : Int32} {t : Nat} (h : 0 < G.1 100 13) : fF f t G = G := if_pos h
theorem nF_g {G : gS} {t : Nat} (h : t ≠ 400) : nF t G = sI G 100 11 (nI (t + 1)) := if_neg h
theorem nF_4 {G : gS} {t : Nat} (h : t = 400) (h0 : G.1 100 13 = 0) : nF t G = sI (sI G 100 13 (nI 2)) 100 14 (G.1 6 t) := by unfold nF; rw [if_pos h, fF_0 h0]
theorem em_o {c : Nat} {k v : Int32} {G : gS} {q : Nat} (h : q ≠ 31) : (emF c k v G).1 100 q = G.1 100 q := by unfold emF; rw [sI_s, upd_o h, sI_o (by decide), sI_o (by decide)]
theorem em_6 {c : Nat} {k v : Int32} {G : gS} {t : Nat} : (emF c k v G).1 6 t = G.1 6 t := by unfold emF; rw [sI_o (by decide), sI_o (by decide), sI_o (by decide)]
theorem sI_id {G : gS} {r k : Nat} {v : Int32} (h : G.1 r k = v) : sI G r k v = G := by
  refine Prod.ext (funext fun a => ?_) rfl
  by_cases e : a = r
  · subst e; rw [sI_s, upd_id h]
  · rw [sI_o e]
theorem sI_c4 {G : gS} {e : Nat} {a b x l : Int32} : sI (sI (sI (sI G 100 12 a) 100 11 b) 34 e x) 100 35 l = sI (sI (sI (sI G 100 12 a) 34 e x) 100 35 l) 100 11 b := by
  refine Prod.ext (funext fun r => ?_) rfl
  by_cases e1 : r = 100
  · subst e1
    rw [sI_s, sI_o (by decide), sI_s, sI_s, sI_s, sI_s, sI_o (by decide), sI_s]
    exact upd_c (by decide)
  · rw [sI_o e1, sI_o e1]
    by_cases e2 : r = 34
    · subst e2; rw [sI_s, sI_o (by decide), sI_o (by decide), sI_o (by decide), sI_s, sI_o (by decide)]
    · rw [sI_o e2, sI_o e1, sI_o e1, sI_o e1, sI_o e2, sI_o e1]
set_option maxHeartbeats 4000000 in
set_option maxRecDepth 100000 in
theorem tX9_expression (Y : gY) (hY : Y.2.2.2 = wM) {G : gS} {B : Nat → Nat} {n : Nat} {R : Int32 × Int32 × pS} {kb cd : Nat} {rel : Bool} {fw : Int32} {ops0 : List Nat} {a : Bool} {m : Int32} {c0 : List Int32} {rs : List pR} {L0 : (Nat → Int32) → List Int32} (hTK : TK G B n) (hL : Lv B n R kb (5, 0, rel, fw, ops0, (a, m, c0) :: rs)) (hK : ∀ v, cK v c0 (L0 v)) (hl0 : ∀ v, (L0 v).length ≤ ops0.length) (hr0 : ops0 = [] ∨ ∃ y t, ops0 = y :: t ∧ rk y ≤ 3) (hcd : cd ≤ 1500 + kb) (ht0 : G.1 100 11 = nI kb) (ho0 : G.1 100 12 = nI 0) (hf0 : G.1 100 13 = 0) (hcd0 : G.1 100 31 = nI cd) : ∀ l : Launch, gM Y l yX9_expression cX9_expression 5 none (2, 44) [.ref (Y.2.1 (100))] G (qv (fun G' => exP G G' B n R kb cd rel fw ops0 a m rs L0)) := by
  intro l
  refine gM_of hY rfl (Nat.le_of_ble_eq_true rfl) [some (.ref (Y.2.1 (100))), none, none, none, none] rfl rfl ?_
  rintro Z rfl C
  have finT : ∀ (t k o cc : Nat) (E : List Nat) (LE : (Nat → Int32) → List Int32) (i3 : Int32) (o2 o4 : Option Value) (G1 : gS), exT G G1 cd kb k o cc E LE 1 → E.length ≤ 24 → G1.1 100 11 = nI t → t ≤ 400 → Ft G1 R → WW Z (qv (fun G' => exP G G' B n R kb cd rel fw ops0 a m rs L0)) 200 [some (.ref (ad Z (100))), some (.int (nI 0)), o2, some (.int (i3)), o4] [] G1 := by
    intro t k o cc E LE i3 o2 o4 G1 hx hE ht ht4 hft
    refine r_aload0 (pc := 200) C dX9_expression_200 ?_
    refine r_bipush (pc := 201) (v := nI 7) C dX9_expression_201 (by decide) ?_
    refine r_callVi (pc := 203) C rfl dX9_expression_203 kX9_269 gF9 jM (tX9_is Z.1 C.w ht (by omega)) rfl rfl (Nat.le_of_ble_eq_true rfl) (by decide) (fun x203 G203 h203 => ?_)
    obtain ⟨rfl, h203b⟩ := h203
    have h203b := h203b.symm
    subst h203b
    rw [isB_ff hft.pos.2]
    refine r_if_eq (pc := 206) 249 C dX9_expression_206 (by decide) (fun c206 => ?_) (fun c206 => ?_)
    rotate_left
    · exact absurd c206 (fun h => h rfl)
    refine r_aload0 (pc := 249) C dX9_expression_249 ?_
    refine r_bipush (pc := 250) (v := nI 8) C dX9_expression_250 (by decide) ?_
    refine r_callVi (pc := 252) C rfl dX9_expression_252 kX9_269 gF9 jM (tX9_is Z.1 C.w ht (by omega)) rfl rfl (Nat.le_of_ble_eq_true rfl) (by decide) (fun x252 G252 h252 => ?_)
    obtain ⟨rfl, h252b⟩ := h252
    have h252b := h252b.symm
    subst h252b
    rw [isB_ff hft.pos.2]
    refine r_if_ne (pc := 255) 276 C dX9_expression_255 (by decide) (fun c255 => ?_) (fun c255 => ?_)
    · exact absurd c255 (fun h => h rfl)
    refine r_aload0 (pc := 258) C dX9_expression_258 ?_
    refine r_bipush (pc := 259) (v := nI 9) C dX9_expression_259 (by decide) ?_
    refine r_callVi (pc := 261) C rfl dX9_expression_261 kX9_269 gF9 jM (tX9_is Z.1 C.w ht (by omega)) rfl rfl (Nat.le_of_ble_eq_true rfl) (by decide) (fun x261 G261 h261 => ?_)
    obtain ⟨rfl, h261b⟩ := h261
    have h261b := h261b.symm
    subst h261b
    rw [isB_ff hft.pos.2]
    refine r_if_ne (pc := 264) 276 C dX9_expression_264 (by decide) (fun c264 => ?_) (fun c264 => ?_)
    · exact absurd c264 (fun h => h rfl)
    refine r_aload0 (pc := 267) C dX9_expression_267 ?_
    refine r_bipush (pc := 268) (v := nI 10) C dX9_expression_268 (by decide) ?_
    refine r_callVi (pc := 270) C rfl dX9_expression_270 kX9_269 gF9 jM (tX9_is Z.1 C.w ht (by omega)) rfl rfl (Nat.le_of_ble_eq_true rfl) (by decide) (fun x270 G270 h270 => ?_)
    obtain ⟨rfl, h270b⟩ := h270
    have h270b := h270b.symm
    subst h270b
    rw [isB_ff hft.pos.2]
    refine r_if_eq (pc := 273) 280 C dX9_expression_273 (by decide) (fun c273 => ?_) (fun c273 => ?_)
    rotate_left
    · exact absurd c273 (fun h => h rfl)
    refine r_iconst (pc := 280) (v := nI 0) C dX9_expression_280 (by decide) ?_
    refine r_istore2 (pc := 281) C dX9_expression_281 rfl ?_
    refine r_iload2 (pc := 282) C dX9_expression_282 ?_
    refine r_if_ne (pc := 283) 305 C dX9_expression_283 (by decide) (fun c283 => ?_) (fun c283 => ?_)
    · exact absurd c283 (fun h => h rfl)
    refine r_aload0 (pc := 286) C dX9_expression_286 ?_
    refine gX9_278 (pc := 287) C dX9_expression_287 ?_
    refine r_eqi hx.2.2.2.2.2.2.2.1 ?_
    refine r_iload1 (pc := 290) C dX9_expression_290 ?_
    refine r_icmp_le (pc := 291) 299 C dX9_expression_291 (by decide) (fun c291 => ?_) (fun c291 => ?_)
    · refine r_aload0 (pc := 299) C dX9_expression_299 ?_
      refine r_iconst (pc := 300) (v := nI 0) C dX9_expression_300 (by decide) ?_
      refine r_callVv (pc := 301) C rfl dX9_expression_301 kX9_314 gF9 jM (tX9_comesOut Z.1 C.w (tm := false) (cd := cd) hx.1 hx.2.2.2.2.2.2.2.2.2.1 hx.2.2.2.2.2.2.2.2.2.2.1 hx.2.2.2.2.2.2.2.2.1 (by have := hx.2.2.2.2.2.1; have := hx.2.2.2.2.2.2.1; omega) (by omega) hx.2.2.2.2.1 hx.2.2.1 hx.2.2.2.1) rfl rfl (Nat.le_of_ble_eq_true rfl) (by decide) (fun G301 h301 => ?_)
      have hx2 := hx.co h301
      exact r_return (pc := 304) C dX9_expression_304 (⟨hx2.2.2.2.2.2.2.2.2.2.2.2, Or.inl ⟨t, by rw [h301.2.1 11 (by decide) (by decide)]; exact ht, ht4, by
      obtain ⟨f, f1, f2, f3, f4, f5⟩ := hft
      exact ⟨f, f1, f2, by rw [h301.2.1 13 (by decide) (by decide)]; exact f3, f4, by rw [h301.2.1 14 (by decide) (by decide)]; exact f5⟩⟩⟩)
    · refine r_aload0 (pc := 294) C dX9_expression_294 ?_
      refine r_iconst (pc := 295) (v := nI 1) C dX9_expression_295 (by decide) ?_
      refine r_callVv (pc := 296) C rfl dX9_expression_296 kX9_266 gF9 jM (tX9_fail Z.1 C.w ht (by omega)) rfl rfl (Nat.le_of_ble_eq_true rfl) (by decide) (fun G296 h296 => ?_)
      rw [fF_p hft.pos.1] at h296
      subst h296
      refine r_aload0 (pc := 299) C dX9_expression_299 ?_
      refine r_iconst (pc := 300) (v := nI 0) C dX9_expression_300 (by decide) ?_
      refine r_callVv (pc := 301) C rfl dX9_expression_301 kX9_314 gF9 jM (tX9_comesOut Z.1 C.w (tm := false) (cd := cd) hx.1 hx.2.2.2.2.2.2.2.2.2.1 hx.2.2.2.2.2.2.2.2.2.2.1 hx.2.2.2.2.2.2.2.2.1 (by have := hx.2.2.2.2.2.1; have := hx.2.2.2.2.2.2.1; omega) (by omega) hx.2.2.2.2.1 hx.2.2.1 hx.2.2.2.1) rfl rfl (Nat.le_of_ble_eq_true rfl) (by decide) (fun G301 h301 => ?_)
      have hx2 := hx.co h301
      exact r_return (pc := 304) C dX9_expression_304 (⟨hx2.2.2.2.2.2.2.2.2.2.2.2, Or.inl ⟨t, by rw [h301.2.1 11 (by decide) (by decide)]; exact ht, ht4, by
      obtain ⟨f, f1, f2, f3, f4, f5⟩ := hft
      exact ⟨f, f1, f2, by rw [h301.2.1 13 (by decide) (by decide)]; exact f3, f4, by rw [h301.2.1 14 (by decide) (by decide)]; exact f5⟩⟩⟩)
  have finL : ∀ (t : Nat) (o3 o4 : Option Value) (G1 : gS), exF G G1 cd kb → G1.1 100 11 = nI t → t ≤ 400 → Ft G1 R → WW Z (qv (fun G' => exP G G' B n R kb cd rel fw ops0 a m rs L0)) 12 [some (.ref (ad Z (100))), some (.int (nI 0)), some (.int (nI 1)), o3, o4] [] G1 := by
    intro t o3 o4 G1 hf ht ht4 hft
    refine r_iload2 (pc := 12) C dX9_expression_12 ?_
    refine r_if_eq (pc := 13) 360 C dX9_expression_13 (by decide) (fun c13 => ?_) (fun c13 => ?_)
    · exact absurd c13 (by decide)
    refine r_aload0 (pc := 16) C dX9_expression_16 ?_
    refine gX9_251 (pc := 17) C dX9_expression_17 ?_
    refine r_if_ne (pc := 20) 360 C dX9_expression_20 (by decide) (fun c20 => ?_) (fun c20 => ?_)
    rotate_left
    · exact absurd c20 (hft.pos.2)
    exact r_return (pc := 360) C dX9_expression_360 (⟨hf, Or.inl ⟨t, ht, ht4, hft⟩⟩)
  have loop5 : ∀ (k0 : Nat) (k o cc : Nat) (E : List Nat) (c1 : List Int32) (LE : (Nat → Int32) → List Int32) (o3 o4 : Option Value) (G1 : gS), k0 = 401 - k → kb ≤ k → Lv B n R k (5, o, rel, fw, E ++ ops0, (a, m, c1) :: rs) → (∀ v, cK v c1 (LE v ++ L0 v)) → exT G G1 cd kb k o cc E LE 0 → G1.1 100 11 = nI k → G1.1 100 13 = 0 → WW Z (qv (fun G' => exP G G' B n R kb cd rel fw ops0 a m rs L0)) 12 [some (.ref (ad Z (100))), some (.int (nI 0)), some (.int (nI 1)), o3, o4] [] G1 := by
    intro k0
    induction k0 using Nat.strongRecOn with
    | _ k0 ih =>
      intro k o cc E c1 LE o3 o4 G1 hk0 hkk0 hL1 hc hx t0 f0
      have ih5 := ih
      have hk4 := hL1.1
      have ho6 : o ≤ 6 := hL1.2.2.1.2.1
      have hEo : E.length + ops0.length ≤ 23 := by have := lv_len hL1; simp at this; omega
      have htk := hTK k hk4 hL1.2.1
      have htq := htk.1.q
      obtain ⟨k5, hk5e⟩ : ∃ k5, k5 = k := ⟨k, rfl⟩
      have loop6 : ∀ (k0 : Nat) (k o cc : Nat) (E : List Nat) (c1 : List Int32) (LE : (Nat → Int32) → List Int32) (i3 : Int32) (o4 : Option Value) (G1 : gS), k0 = 401 - k → k5 < k → Lv B n R k (6, o, rel, fw, E ++ ops0, (a, m, c1) :: rs) → (∀ v, cK v c1 (LE v ++ L0 v)) → exT G G1 cd kb k o cc E LE 1 → G1.1 100 11 = nI k → G1.1 100 13 = 0 → WW Z (qv (fun G' => exP G G' B n R kb cd rel fw ops0 a m rs L0)) 200 [some (.ref (ad Z (100))), some (.int (nI 0)), some (.int (nI 1)), some (.int (i3)), o4] [] G1 := by
        intro k0
        induction k0 using Nat.strongRecOn with
        | _ k0 ih =>
          intro k o cc E c1 LE i3 o4 G1 hk0 hk5 hL1 hc hx t0 f0
          have hkk : kb < k := by omega
          have ih6 := ih
          have hk4 := hL1.1
          have ho6 : o ≤ 6 := hL1.2.2.1.2.1
          have hE23 : E.length ≤ 23 := by have := lv_len hL1; simp at this; omega
          have htk := hTK k hk4 hL1.2.1
          have htq := htk.1.q
          rcases tk6 htk.1 with ⟨hs, hkd⟩ | ⟨x, hx7, hx9, hs, hxv, hkd⟩ | ⟨hk7, hk8, hk9, hk10, hs9, hs11⟩
          · by_cases ho : 0 < o
            · have hlv := lv6_close hL1 ho hs htq
              refine r_aload0 (pc := 200) C dX9_expression_200 ?_
              refine r_bipush (pc := 201) (v := nI 7) C dX9_expression_201 (by decide) ?_
              refine r_callVi (pc := 203) C rfl dX9_expression_203 kX9_269 gF9 jM (tX9_is Z.1 C.w t0 (by omega)) rfl rfl (Nat.le_of_ble_eq_true rfl) (by decide) (fun x203 G203 h203 => ?_)
              obtain ⟨rfl, h203b⟩ := h203
              have h203b := h203b.symm
              subst h203b
              rw [isB_t f0 (by rw [hx.2.2.2.2.2.2.2.2.2.2.2.1.1 5 (by unfold xS; decide)]; exact hkd)]
              refine r_if_eq (pc := 206) 249 C dX9_expression_206 (by decide) (fun c206 => ?_) (fun c206 => ?_)
              · exact absurd c206 (by decide)
              refine r_aload0 (pc := 209) C dX9_expression_209 ?_
              refine gX9_278 (pc := 210) C dX9_expression_210 ?_
              refine r_eqi hx.2.2.2.2.2.2.2.1 ?_
              refine r_iload1 (pc := 213) C dX9_expression_213 ?_
              refine r_icmp_le (pc := 214) 249 C dX9_expression_214 (by decide) (fun c214 => ?_) (fun c214 => ?_)
              · exact absurd c214 (nI_gz ho (by omega))
              refine r_aload0 (pc := 217) C dX9_expression_217 ?_
              refine r_iconst (pc := 218) (v := nI 0) C dX9_expression_218 (by decide) ?_
              refine r_callVv (pc := 219) C rfl dX9_expression_219 kX9_314 gF9 jM (tX9_comesOut Z.1 C.w (tm := false) (cd := cd) hx.1 hx.2.2.2.2.2.2.2.2.2.1 hx.2.2.2.2.2.2.2.2.2.2.1 hx.2.2.2.2.2.2.2.2.1 (by have := hx.2.2.2.2.2.1; have := hx.2.2.2.2.2.2.1; omega) (by omega) hx.2.2.2.2.1 hx.2.2.1 hx.2.2.2.1) rfl rfl (Nat.le_of_ble_eq_true rfl) (by decide) (fun G219 h219 => ?_)
              have hx2 := hx.co h219
              obtain ⟨E2, hE2⟩ := dw_zero hx.1 ho hx.2.1
              rw [hE2] at hx2
              have hlE2 : E2.length + 1 ≤ E.length := by have := pop_len false E; rw [hE2] at this; simp at this; omega
              have hlv3 : k ≠ 400 → Lv B n R (k + 1) (6, o - 1, rel, fw, E2 ++ ops0, (a, m, ((E.takeWhile (popP false)).map fOp).reverse ++ c1) :: rs) := by
                intro h4
                have := hlv.2 h4
                rw [edn_E (tm := false) (Or.inl ⟨rfl, by decide, by decide⟩) E [] hx.1 (Or.inl (by rw [hE2]; simp)), edn_E (tm := false) (Or.inl ⟨rfl, by decide, by decide⟩) E _ hx.1 (Or.inl (by rw [hE2]; simp)), hE2] at this
                exact this
              have hcK : ∀ v, cK v (((E.takeWhile (popP false)).map fOp).reverse ++ c1) (apL (E.takeWhile (popP false)) (LE v) ++ L0 v) := fun v => cK_pops _ _ _ (fun x hx' => by rcases hx.1 x (take_mem hx') with rfl | rfl | rfl | rfl <;> decide) (hc v) (by rw [hx.2.2.2.1 v]; have := pop_nz false E; omega)
              refine r_aload0 (pc := 222) C dX9_expression_222 ?_
              refine r_dup (pc := 223) C dX9_expression_223 rfl ?_
              refine gX9_308 (pc := 224) C dX9_expression_224 ?_
              refine r_eqi (y := nI (E2.length + 1)) (by have := h219.2.2.1; rw [hE2] at this; exact this) ?_
              refine r_iconst (pc := 227) (v := nI 1) C dX9_expression_227 (by decide) ?_
              refine r_isub (pc := 228) C dX9_expression_228 ?_
              refine r_eqi (y := nI E2.length) (pk_sub (a := E2.length + 1) (b := 1) (by omega)) ?_
              refine pX9_308 (pc := 229) C dX9_expression_229 ?_
              refine r_aload0 (pc := 232) C dX9_expression_232 ?_
              refine r_dup (pc := 233) C dX9_expression_233 rfl ?_
              refine gX9_278 (pc := 234) C dX9_expression_234 ?_
              refine r_eqi (y := nI o) (by rw [sI_s, upd_o (by decide), h219.2.1 12 (by decide) (by decide)]; exact hx.2.2.2.2.2.2.2.1) ?_
              refine r_iconst (pc := 237) (v := nI 1) C dX9_expression_237 (by decide) ?_
              refine r_isub (pc := 238) C dX9_expression_238 ?_
              refine r_eqi (y := nI (o - 1)) (pk_sub (by omega)) ?_
              refine pX9_278 (pc := 239) C dX9_expression_239 ?_
              refine r_aload0 (pc := 242) C dX9_expression_242 ?_
              have hx3 : exT G (sI (sI G219 100 35 (nI E2.length)) 100 12 (nI (o - 1))) cd kb k (o - 1) (cc + (E.takeWhile (popP false)).length) E2 (fun v => apL (E.takeWhile (popP false)) (LE v)) 1 := by
                obtain ⟨t1, t2, t3, t4, t5, t6, t7, t8, t9, t10, t11, t12⟩ := hx2
                have t2 : E2.length + 1 = (0 + nz E2) + o := t2
                have t4 : ∀ v, (apL (E.takeWhile (popP false)) (LE v)).length = (0 + nz E2) + 1 := t4
                have t6 : cc + (E.takeWhile (popP false)).length + (E2.length + 1) + kb ≤ cd + k := t6
                refine ⟨fun x hx => t1 x (List.mem_cons_of_mem _ hx), by omega, fun v => ?_, fun v => by rw [t4 v]; omega, t5, by omega, t7, ?_, ?_, ?_, ?_, ?_⟩
                · rw [sI_o (by decide), sI_o (by decide), sI_o (by decide), sI_o (by decide)]; exact t3 v
                · rw [sI_s, upd_s]
                · rw [sI_s, upd_o (by decide), sI_s, upd_o (by decide)]; exact t9
                · rw [sI_s, upd_o (by decide), sI_s, upd_s]
                · rw [sI_o (by decide), sI_o (by decide)]; exact (wtR_pop t11).1
                · exact t12.w ((Fr.refl.sI (Or.inr rfl)).sI (Or.inr rfl)) (fun q a b c d e f => by rw [sI_s, upd_o b, sI_s, upd_o f])
              refine r_callVv (pc := 243) C rfl dX9_expression_243 kX9_272 gF9 jM (tX9_next Z.1 C.w (t := k) (by rw [sI_s, upd_o (by decide), sI_s, upd_o (by decide), h219.2.1 11 (by decide) (by decide)]; exact t0) (by omega)) rfl rfl (Nat.le_of_ble_eq_true rfl) (by decide) (fun G243 h243 => ?_)
              subst h243
              refine r_goto (pc := 246) 200 C dX9_expression_246 (by decide) ?_
              by_cases h400 : k = 400
              · have hR := hlv.1 h400
                have e6 : G219.1 6 k = nI (tkT B n k).2.2.1 := by rw [h219.1.1 6 (by decide), hx.2.2.2.2.2.2.2.2.2.2.2.1.1 6 (by unfold xS; decide)]; exact htk.2
                rw [nF_4 h400 (by rw [sI_s, upd_o (by decide), sI_s, upd_o (by decide), h219.2.1 13 (by decide) (by decide)]; exact f0)]
                refine finT k (k + 1) (o - 1) _ E2 _ _ _ _ _ (hx3.tf (k + 1) (Nat.le_succ k) (by omega)) (by omega) (by rw [sI_s, upd_o (by decide), sI_s, upd_o (by decide), sI_s, upd_o (by decide), sI_s, upd_o (by decide), h219.2.1 11 (by decide) (by decide)]; exact t0) (by omega) ⟨2, by decide, by decide, by rw [sI_s, upd_o (by decide), sI_s, upd_s], hR.1, ?_⟩
                rw [sI_s, upd_s, hR.2, ← e6]
                rw [sI_o (by decide), sI_o (by decide)]
              · rw [nF_g h400]
                refine ih6 (401 - (k + 1)) (by omega) (k + 1) (o - 1) _ E2 _ _ _ _ _ rfl (by omega) (hlv3 h400) hcK (hx3.tn (k + 1) (Nat.le_succ k) (by omega)) (by rw [sI_s, upd_s]) (by rw [sI_s, upd_o (by decide), sI_s, upd_o (by decide), sI_s, upd_o (by decide), h219.2.1 13 (by decide) (by decide)]; exact f0)
            · obtain rfl : o = 0 := by omega
              have hn9 : cN (tkT B n k).1 ≠ 9 := by rw [hs]; decide
              have hk8 : ¬ G.1 5 k = nI 8 := by rw [hkd]; decide
              have hk9 : ¬ G.1 5 k = nI 9 := by rw [hkd]; decide
              have hk10 : ¬ G.1 5 k = nI 10 := by rw [hkd]; decide
              refine r_aload0 (pc := 200) C dX9_expression_200 ?_
              refine r_bipush (pc := 201) (v := nI 7) C dX9_expression_201 (by decide) ?_
              refine r_callVi (pc := 203) C rfl dX9_expression_203 kX9_269 gF9 jM (tX9_is Z.1 C.w t0 (by omega)) rfl rfl (Nat.le_of_ble_eq_true rfl) (by decide) (fun x203 G203 h203 => ?_)
              obtain ⟨rfl, h203b⟩ := h203
              have h203b := h203b.symm
              subst h203b
              rw [isB_t f0 (by rw [hx.2.2.2.2.2.2.2.2.2.2.2.1.1 5 (by unfold xS; decide)]; exact hkd)]
              refine r_if_eq (pc := 206) 249 C dX9_expression_206 (by decide) (fun c206 => ?_) (fun c206 => ?_)
              · exact absurd c206 (by decide)
              refine r_aload0 (pc := 209) C dX9_expression_209 ?_
              refine gX9_278 (pc := 210) C dX9_expression_210 ?_
              refine r_eqi hx.2.2.2.2.2.2.2.1 ?_
              refine r_iload1 (pc := 213) C dX9_expression_213 ?_
              refine r_icmp_le (pc := 214) 249 C dX9_expression_214 (by decide) (fun c214 => ?_) (fun c214 => ?_)
              rotate_left
              · exact absurd c214 (fun h => h (by decide))
              refine r_aload0 (pc := 249) C dX9_expression_249 ?_
              refine r_bipush (pc := 250) (v := nI 8) C dX9_expression_250 (by decide) ?_
              refine r_callVi (pc := 252) C rfl dX9_expression_252 kX9_269 gF9 jM (tX9_is Z.1 C.w t0 (by omega)) rfl rfl (Nat.le_of_ble_eq_true rfl) (by decide) (fun x252 G252 h252 => ?_)
              obtain ⟨rfl, h252b⟩ := h252
              have h252b := h252b.symm
              subst h252b
              rw [isB_f (by rw [hx.2.2.2.2.2.2.2.2.2.2.2.1.1 5 (by unfold xS; decide)]; exact hk8)]
              refine r_if_ne (pc := 255) 276 C dX9_expression_255 (by decide) (fun c255 => ?_) (fun c255 => ?_)
              · exact absurd c255 (fun h => h rfl)
              refine r_aload0 (pc := 258) C dX9_expression_258 ?_
              refine r_bipush (pc := 259) (v := nI 9) C dX9_expression_259 (by decide) ?_
              refine r_callVi (pc := 261) C rfl dX9_expression_261 kX9_269 gF9 jM (tX9_is Z.1 C.w t0 (by omega)) rfl rfl (Nat.le_of_ble_eq_true rfl) (by decide) (fun x261 G261 h261 => ?_)
              obtain ⟨rfl, h261b⟩ := h261
              have h261b := h261b.symm
              subst h261b
              rw [isB_f (by rw [hx.2.2.2.2.2.2.2.2.2.2.2.1.1 5 (by unfold xS; decide)]; exact hk9)]
              refine r_if_ne (pc := 264) 276 C dX9_expression_264 (by decide) (fun c264 => ?_) (fun c264 => ?_)
              · exact absurd c264 (fun h => h rfl)
              refine r_aload0 (pc := 267) C dX9_expression_267 ?_
              refine r_bipush (pc := 268) (v := nI 10) C dX9_expression_268 (by decide) ?_
              refine r_callVi (pc := 270) C rfl dX9_expression_270 kX9_269 gF9 jM (tX9_is Z.1 C.w t0 (by omega)) rfl rfl (Nat.le_of_ble_eq_true rfl) (by decide) (fun x270 G270 h270 => ?_)
              obtain ⟨rfl, h270b⟩ := h270
              have h270b := h270b.symm
              subst h270b
              rw [isB_f (by rw [hx.2.2.2.2.2.2.2.2.2.2.2.1.1 5 (by unfold xS; decide)]; exact hk10)]
              refine r_if_eq (pc := 273) 280 C dX9_expression_273 (by decide) (fun c273 => ?_) (fun c273 => ?_)
              rotate_left
              · exact absurd c273 (fun h => h rfl)
              refine r_iconst (pc := 280) (v := nI 0) C dX9_expression_280 (by decide) ?_
              refine r_istore2 (pc := 281) C dX9_expression_281 rfl ?_
              refine r_iload2 (pc := 282) C dX9_expression_282 ?_
              refine r_if_ne (pc := 283) 305 C dX9_expression_283 (by decide) (fun c283 => ?_) (fun c283 => ?_)
              · exact absurd c283 (fun h => h rfl)
              refine r_aload0 (pc := 286) C dX9_expression_286 ?_
              refine gX9_278 (pc := 287) C dX9_expression_287 ?_
              refine r_eqi hx.2.2.2.2.2.2.2.1 ?_
              refine r_iload1 (pc := 290) C dX9_expression_290 ?_
              refine r_icmp_le (pc := 291) 299 C dX9_expression_291 (by decide) (fun c291 => ?_) (fun c291 => ?_)
              rotate_left
              · exact absurd c291 (fun h => h (by decide))
              refine r_aload0 (pc := 299) C dX9_expression_299 ?_
              refine r_iconst (pc := 300) (v := nI 0) C dX9_expression_300 (by decide) ?_
              refine r_callVv (pc := 301) C rfl dX9_expression_301 kX9_314 gF9 jM (tX9_comesOut Z.1 C.w (tm := false) (cd := cd) hx.1 hx.2.2.2.2.2.2.2.2.2.1 hx.2.2.2.2.2.2.2.2.2.2.1 hx.2.2.2.2.2.2.2.2.1 (by have := hx.2.2.2.2.2.1; have := hx.2.2.2.2.2.2.1; omega) (by omega) hx.2.2.2.2.1 hx.2.2.1 hx.2.2.2.1) rfl rfl (Nat.le_of_ble_eq_true rfl) (by decide) (fun G301 h301 => ?_)
              have hx2 := hx.co h301
              exact r_return (pc := 304) C dX9_expression_304 (by
                have hnz := all_nz hx.1 hx.2.1
                obtain ⟨w1, w2⟩ := tw_all hnz
                rw [w1, w2] at hx2
                refine ⟨hx2.2.2.2.2.2.2.2.2.2.2.2, Or.inr ⟨k, E, c1, cc + E.length, LE, fun v => (apL E (LE v)).headD 0, hL1, hnz, fun v => ?_, fun v => ?_, by have := hx.2.2.2.2.1; omega, by have := hx.2.2.2.2.2.1; omega, hkk, by rw [h301.2.1 11 (by decide) (by decide)]; exact t0, hx2.2.2.2.2.2.2.2.1, by rw [h301.2.1 13 (by decide) (by decide)]; exact f0, hx2.2.2.2.2.2.2.2.2.1, hn9⟩⟩
                · have h1 := hx.2.2.2.1 v
                  have h2 := apL_len E (LE v) (by have := nz_all (a := E) (fun z hz => by rcases hnz z hz with rfl | rfl | rfl <;> decide); omega)
                  have h3 := nz_all (a := E) (fun z hz => by rcases hnz z hz with rfl | rfl | rfl <;> decide)
                  refine ⟨by omega, ?_, hc v⟩
                  match hq : apL E (LE v), (show (apL E (LE v)).length = 1 by omega) with
                  | [y], _ => show [y] = [(apL E (LE v)).headD 0]; rw [hq]; rfl
                · have h1 := hx.2.2.2.1 v
                  have h2 := apL_len E (LE v) (by have := nz_all (a := E) (fun z hz => by rcases hnz z hz with rfl | rfl | rfl <;> decide); omega)
                  have h3 := nz_all (a := E) (fun z hz => by rcases hnz z hz with rfl | rfl | rfl <;> decide)
                  have h4 := hx2.2.2.1 v
                  have h5 : apL E (LE v) = [(apL E (LE v)).headD 0] := by
                    match hq : apL E (LE v), (show (apL E (LE v)).length = 1 by omega) with
                    | [y], _ => rfl
                  rw [← h5]
                  exact h4)
          · have hlv := lv6_math hL1 hs hxv hx9 htq
            rcases (show x = 7 ∨ x = 8 ∨ x = 9 by omega) with rfl | rfl | rfl
            · refine r_aload0 (pc := 200) C dX9_expression_200 ?_
              refine r_bipush (pc := 201) (v := nI 7) C dX9_expression_201 (by decide) ?_
              refine r_callVi (pc := 203) C rfl dX9_expression_203 kX9_269 gF9 jM (tX9_is Z.1 C.w t0 (by omega)) rfl rfl (Nat.le_of_ble_eq_true rfl) (by decide) (fun x203 G203 h203 => ?_)
              obtain ⟨rfl, h203b⟩ := h203
              have h203b := h203b.symm
              subst h203b
              rw [isB_f (by rw [hx.2.2.2.2.2.2.2.2.2.2.2.1.1 5 (by unfold xS; decide)]; exact by rw [hkd]; decide)]
              refine r_if_eq (pc := 206) 249 C dX9_expression_206 (by decide) (fun c206 => ?_) (fun c206 => ?_)
              rotate_left
              · exact absurd c206 (fun h => h rfl)
              refine r_aload0 (pc := 249) C dX9_expression_249 ?_
              refine r_bipush (pc := 250) (v := nI 8) C dX9_expression_250 (by decide) ?_
              refine r_callVi (pc := 252) C rfl dX9_expression_252 kX9_269 gF9 jM (tX9_is Z.1 C.w t0 (by omega)) rfl rfl (Nat.le_of_ble_eq_true rfl) (by decide) (fun x252 G252 h252 => ?_)
              obtain ⟨rfl, h252b⟩ := h252
              have h252b := h252b.symm
              subst h252b
              rw [isB_t f0 (by rw [hx.2.2.2.2.2.2.2.2.2.2.2.1.1 5 (by unfold xS; decide)]; exact hkd)]
              refine r_if_ne (pc := 255) 276 C dX9_expression_255 (by decide) (fun c255 => ?_) (fun c255 => ?_)
              rotate_left
              · exact absurd c255 (by decide)
              refine r_iconst (pc := 276) (v := nI 1) C dX9_expression_276 (by decide) ?_
              refine r_goto (pc := 277) 281 C dX9_expression_277 (by decide) ?_
              refine r_istore2 (pc := 281) C dX9_expression_281 rfl ?_
              refine r_iload2 (pc := 282) C dX9_expression_282 ?_
              refine r_if_ne (pc := 283) 305 C dX9_expression_283 (by decide) (fun c283 => ?_) (fun c283 => ?_)
              rotate_left
              · exact absurd c283 (by decide)
              refine r_aload0 (pc := 305) C dX9_expression_305 ?_
              refine gX9_20 (pc := 306) C dX9_expression_306 ?_
              refine r_aload0 (pc := 309) C dX9_expression_309 ?_
              refine gX9_254 (pc := 310) C dX9_expression_310 ?_
              refine r_eqi t0 ?_
              refine r_iald (pc := 313) (_) C dX9_expression_313 aM5 (rfl) (by omega) ?_
              refine r_eqi (y := nI 8) (by rw [hx.2.2.2.2.2.2.2.2.2.2.2.1.1 5 (by unfold xS; decide)]; exact hkd) ?_
              refine r_istore4 (pc := 314) C dX9_expression_314 rfl ?_
              refine r_aload0 (pc := 316) C dX9_expression_316 ?_
              refine r_iload4 (pc := 317) C dX9_expression_317 ?_
              refine r_bipush (pc := 319) (v := nI 10) C dX9_expression_319 (by decide) ?_
              refine r_icmp_ne (pc := 321) 328 C dX9_expression_321 (by decide) (fun c321 => ?_) (fun c321 => ?_)
              rotate_left
              · exact absurd c321 (by decide)
              refine r_iconst (pc := 328) (v := nI 0) C dX9_expression_328 (by decide) ?_
              refine r_callVv (pc := 329) C rfl dX9_expression_329 kX9_314 gF9 jM (tX9_comesOut Z.1 C.w (tm := false) (cd := cd) hx.1 hx.2.2.2.2.2.2.2.2.2.1 hx.2.2.2.2.2.2.2.2.2.2.1 hx.2.2.2.2.2.2.2.2.1 (by have := hx.2.2.2.2.2.1; have := hx.2.2.2.2.2.2.1; omega) (by omega) hx.2.2.2.2.1 hx.2.2.1 hx.2.2.2.1) rfl rfl (Nat.le_of_ble_eq_true rfl) (by decide) (fun G329 h329 => ?_)
              have hx2 := hx.co h329
              have hlr : (E.dropWhile (popP false)).length ≤ E.length := by have := pop_len false E; omega
              have hstop : E.dropWhile (popP false) ≠ [] ∨ ops0 = [] ∨ ∃ y t, ops0 = y :: t ∧ ¬ rk 7 ≤ rk y := by
                have hr : rk 7 = 4 := by decide +kernel
                rcases hr0 with z | ⟨y, t, z, z2⟩
                · exact Or.inr (Or.inl z)
                · exact Or.inr (Or.inr ⟨y, t, z, by omega⟩)
              have hlv3 : k ≠ 400 → Lv B n R (k + 1) (5, o, rel, fw, (7 :: E.dropWhile (popP false)) ++ ops0, (a, m, ((E.takeWhile (popP false)).map fOp).reverse ++ c1) :: rs) := by
                intro h4
                have := hlv.2 h4
                rw [edn_E (tm := false) (Or.inl ⟨rfl, by decide +kernel, by decide +kernel⟩) E [] hx.1 hstop, edn_E (tm := false) (Or.inl ⟨rfl, by decide +kernel, by decide +kernel⟩) E _ hx.1 hstop] at this
                exact this
              have hcK : ∀ v, cK v (((E.takeWhile (popP false)).map fOp).reverse ++ c1) (apL (E.takeWhile (popP false)) (LE v) ++ L0 v) := fun v => cK_pops _ _ _ (fun x hx' => by rcases hx.1 x (take_mem hx') with rfl | rfl | rfl | rfl <;> decide) (hc v) (by rw [hx.2.2.2.1 v]; have := pop_nz false E; omega)
              refine r_aload0 (pc := 332) C dX9_expression_332 ?_
              refine gX9_83 (pc := 333) C dX9_expression_333 ?_
              refine r_aload0 (pc := 336) C dX9_expression_336 ?_
              refine gX9_308 (pc := 337) C dX9_expression_337 ?_
              refine r_eqi (y := nI (E.dropWhile (popP false)).length) h329.2.2.1 ?_
              refine r_iload4 (pc := 340) C dX9_expression_340 ?_
              refine r_iast (pc := 342) (_) C dX9_expression_342 aM34 (rfl) (by omega) ?_
              refine r_aload0 (pc := 343) C dX9_expression_343 ?_
              refine r_dup (pc := 344) C dX9_expression_344 rfl ?_
              refine gX9_308 (pc := 345) C dX9_expression_345 ?_
              refine r_eqi (y := nI (E.dropWhile (popP false)).length) (by rw [sI_o (by decide)]; exact h329.2.2.1) ?_
              refine r_iconst (pc := 348) (v := nI 1) C dX9_expression_348 (by decide) ?_
              refine r_iadd (pc := 349) C dX9_expression_349 ?_
              refine r_eqi (nI_add _ 1) ?_
              refine pX9_308 (pc := 350) C dX9_expression_350 ?_
              refine r_aload0 (pc := 353) C dX9_expression_353 ?_
              have hx3 : exT G (sI (sI G329 34 (E.dropWhile (popP false)).length (nI 8)) 100 35 (nI ((E.dropWhile (popP false)).length + 1))) cd kb (k + 1) o (cc + (E.takeWhile (popP false)).length) (7 :: E.dropWhile (popP false)) (fun v => apL (E.takeWhile (popP false)) (LE v)) 0 := by
                have := hx2.push (x := 7) (o2 := o) (d2 := 0) (op := nI o) (by omega) (by decide) rfl (by rw [if_neg (by decide)]) (by rw [if_neg (by decide)])
                rw [sI_id (show G329.1 100 12 = nI o from hx2.2.2.2.2.2.2.2.1)] at this
                exact this
              refine r_callVv (pc := 354) C rfl dX9_expression_354 kX9_272 gF9 jM (tX9_next Z.1 C.w (t := k) (by rw [sI_s, upd_o (by decide), sI_o (by decide), h329.2.1 11 (by decide) (by decide)]; exact t0) (by omega)) rfl rfl (Nat.le_of_ble_eq_true rfl) (by decide) (fun G354 h354 => ?_)
              subst h354
              refine r_goto (pc := 357) 12 C dX9_expression_357 (by decide) ?_
              by_cases h400 : k = 400
              · have hR := hlv.1 h400
                have e6 : G329.1 6 k = nI (tkT B n k).2.2.1 := by rw [h329.1.1 6 (by decide), hx.2.2.2.2.2.2.2.2.2.2.2.1.1 6 (by unfold xS; decide)]; exact htk.2
                rw [nF_4 h400 (by rw [sI_s, upd_o (by decide), sI_o (by decide), h329.2.1 13 (by decide) (by decide)]; exact f0)]
                refine finL k _ _ _ (hx3.tf (k + 1) (Nat.le_refl _) (by omega)).2.2.2.2.2.2.2.2.2.2.2 (by rw [sI_s, upd_o (by decide), sI_s, upd_o (by decide), sI_s, upd_o (by decide), sI_o (by decide), h329.2.1 11 (by decide) (by decide)]; exact t0) (by omega) ⟨2, by decide, by decide, by rw [sI_s, upd_o (by decide), sI_s, upd_s], hR.1, ?_⟩
                rw [sI_s, upd_s, hR.2, ← e6]
                rw [sI_o (by decide), sI_o (by decide)]
              · rw [nF_g h400]
                refine ih5 (401 - (k + 1)) (by omega) (k + 1) o _ (7 :: E.dropWhile (popP false)) _ _ _ _ _ rfl (by omega) (hlv3 h400) hcK (hx3.tn (k + 1) (Nat.le_refl _) (by omega)) (by rw [sI_s, upd_s]) (by rw [sI_s, upd_o (by decide), sI_s, upd_o (by decide), sI_o (by decide), h329.2.1 13 (by decide) (by decide)]; exact f0)
            · refine r_aload0 (pc := 200) C dX9_expression_200 ?_
              refine r_bipush (pc := 201) (v := nI 7) C dX9_expression_201 (by decide) ?_
              refine r_callVi (pc := 203) C rfl dX9_expression_203 kX9_269 gF9 jM (tX9_is Z.1 C.w t0 (by omega)) rfl rfl (Nat.le_of_ble_eq_true rfl) (by decide) (fun x203 G203 h203 => ?_)
              obtain ⟨rfl, h203b⟩ := h203
              have h203b := h203b.symm
              subst h203b
              rw [isB_f (by rw [hx.2.2.2.2.2.2.2.2.2.2.2.1.1 5 (by unfold xS; decide)]; exact by rw [hkd]; decide)]
              refine r_if_eq (pc := 206) 249 C dX9_expression_206 (by decide) (fun c206 => ?_) (fun c206 => ?_)
              rotate_left
              · exact absurd c206 (fun h => h rfl)
              refine r_aload0 (pc := 249) C dX9_expression_249 ?_
              refine r_bipush (pc := 250) (v := nI 8) C dX9_expression_250 (by decide) ?_
              refine r_callVi (pc := 252) C rfl dX9_expression_252 kX9_269 gF9 jM (tX9_is Z.1 C.w t0 (by omega)) rfl rfl (Nat.le_of_ble_eq_true rfl) (by decide) (fun x252 G252 h252 => ?_)
              obtain ⟨rfl, h252b⟩ := h252
              have h252b := h252b.symm
              subst h252b
              rw [isB_f (by rw [hx.2.2.2.2.2.2.2.2.2.2.2.1.1 5 (by unfold xS; decide)]; exact by rw [hkd]; decide)]
              refine r_if_ne (pc := 255) 276 C dX9_expression_255 (by decide) (fun c255 => ?_) (fun c255 => ?_)
              · exact absurd c255 (fun h => h rfl)
              refine r_aload0 (pc := 258) C dX9_expression_258 ?_
              refine r_bipush (pc := 259) (v := nI 9) C dX9_expression_259 (by decide) ?_
              refine r_callVi (pc := 261) C rfl dX9_expression_261 kX9_269 gF9 jM (tX9_is Z.1 C.w t0 (by omega)) rfl rfl (Nat.le_of_ble_eq_true rfl) (by decide) (fun x261 G261 h261 => ?_)
              obtain ⟨rfl, h261b⟩ := h261
              have h261b := h261b.symm
              subst h261b
              rw [isB_t f0 (by rw [hx.2.2.2.2.2.2.2.2.2.2.2.1.1 5 (by unfold xS; decide)]; exact hkd)]
              refine r_if_ne (pc := 264) 276 C dX9_expression_264 (by decide) (fun c264 => ?_) (fun c264 => ?_)
              rotate_left
              · exact absurd c264 (by decide)
              refine r_iconst (pc := 276) (v := nI 1) C dX9_expression_276 (by decide) ?_
              refine r_goto (pc := 277) 281 C dX9_expression_277 (by decide) ?_
              refine r_istore2 (pc := 281) C dX9_expression_281 rfl ?_
              refine r_iload2 (pc := 282) C dX9_expression_282 ?_
              refine r_if_ne (pc := 283) 305 C dX9_expression_283 (by decide) (fun c283 => ?_) (fun c283 => ?_)
              rotate_left
              · exact absurd c283 (by decide)
              refine r_aload0 (pc := 305) C dX9_expression_305 ?_
              refine gX9_20 (pc := 306) C dX9_expression_306 ?_
              refine r_aload0 (pc := 309) C dX9_expression_309 ?_
              refine gX9_254 (pc := 310) C dX9_expression_310 ?_
              refine r_eqi t0 ?_
              refine r_iald (pc := 313) (_) C dX9_expression_313 aM5 (rfl) (by omega) ?_
              refine r_eqi (y := nI 9) (by rw [hx.2.2.2.2.2.2.2.2.2.2.2.1.1 5 (by unfold xS; decide)]; exact hkd) ?_
              refine r_istore4 (pc := 314) C dX9_expression_314 rfl ?_
              refine r_aload0 (pc := 316) C dX9_expression_316 ?_
              refine r_iload4 (pc := 317) C dX9_expression_317 ?_
              refine r_bipush (pc := 319) (v := nI 10) C dX9_expression_319 (by decide) ?_
              refine r_icmp_ne (pc := 321) 328 C dX9_expression_321 (by decide) (fun c321 => ?_) (fun c321 => ?_)
              rotate_left
              · exact absurd c321 (by decide)
              refine r_iconst (pc := 328) (v := nI 0) C dX9_expression_328 (by decide) ?_
              refine r_callVv (pc := 329) C rfl dX9_expression_329 kX9_314 gF9 jM (tX9_comesOut Z.1 C.w (tm := false) (cd := cd) hx.1 hx.2.2.2.2.2.2.2.2.2.1 hx.2.2.2.2.2.2.2.2.2.2.1 hx.2.2.2.2.2.2.2.2.1 (by have := hx.2.2.2.2.2.1; have := hx.2.2.2.2.2.2.1; omega) (by omega) hx.2.2.2.2.1 hx.2.2.1 hx.2.2.2.1) rfl rfl (Nat.le_of_ble_eq_true rfl) (by decide) (fun G329 h329 => ?_)
              have hx2 := hx.co h329
              have hlr : (E.dropWhile (popP false)).length ≤ E.length := by have := pop_len false E; omega
              have hstop : E.dropWhile (popP false) ≠ [] ∨ ops0 = [] ∨ ∃ y t, ops0 = y :: t ∧ ¬ rk 8 ≤ rk y := by
                have hr : rk 8 = 4 := by decide +kernel
                rcases hr0 with z | ⟨y, t, z, z2⟩
                · exact Or.inr (Or.inl z)
                · exact Or.inr (Or.inr ⟨y, t, z, by omega⟩)
              have hlv3 : k ≠ 400 → Lv B n R (k + 1) (5, o, rel, fw, (8 :: E.dropWhile (popP false)) ++ ops0, (a, m, ((E.takeWhile (popP false)).map fOp).reverse ++ c1) :: rs) := by
                intro h4
                have := hlv.2 h4
                rw [edn_E (tm := false) (Or.inl ⟨rfl, by decide +kernel, by decide +kernel⟩) E [] hx.1 hstop, edn_E (tm := false) (Or.inl ⟨rfl, by decide +kernel, by decide +kernel⟩) E _ hx.1 hstop] at this
                exact this
              have hcK : ∀ v, cK v (((E.takeWhile (popP false)).map fOp).reverse ++ c1) (apL (E.takeWhile (popP false)) (LE v) ++ L0 v) := fun v => cK_pops _ _ _ (fun x hx' => by rcases hx.1 x (take_mem hx') with rfl | rfl | rfl | rfl <;> decide) (hc v) (by rw [hx.2.2.2.1 v]; have := pop_nz false E; omega)
              refine r_aload0 (pc := 332) C dX9_expression_332 ?_
              refine gX9_83 (pc := 333) C dX9_expression_333 ?_
              refine r_aload0 (pc := 336) C dX9_expression_336 ?_
              refine gX9_308 (pc := 337) C dX9_expression_337 ?_
              refine r_eqi (y := nI (E.dropWhile (popP false)).length) h329.2.2.1 ?_
              refine r_iload4 (pc := 340) C dX9_expression_340 ?_
              refine r_iast (pc := 342) (_) C dX9_expression_342 aM34 (rfl) (by omega) ?_
              refine r_aload0 (pc := 343) C dX9_expression_343 ?_
              refine r_dup (pc := 344) C dX9_expression_344 rfl ?_
              refine gX9_308 (pc := 345) C dX9_expression_345 ?_
              refine r_eqi (y := nI (E.dropWhile (popP false)).length) (by rw [sI_o (by decide)]; exact h329.2.2.1) ?_
              refine r_iconst (pc := 348) (v := nI 1) C dX9_expression_348 (by decide) ?_
              refine r_iadd (pc := 349) C dX9_expression_349 ?_
              refine r_eqi (nI_add _ 1) ?_
              refine pX9_308 (pc := 350) C dX9_expression_350 ?_
              refine r_aload0 (pc := 353) C dX9_expression_353 ?_
              have hx3 : exT G (sI (sI G329 34 (E.dropWhile (popP false)).length (nI 9)) 100 35 (nI ((E.dropWhile (popP false)).length + 1))) cd kb (k + 1) o (cc + (E.takeWhile (popP false)).length) (8 :: E.dropWhile (popP false)) (fun v => apL (E.takeWhile (popP false)) (LE v)) 0 := by
                have := hx2.push (x := 8) (o2 := o) (d2 := 0) (op := nI o) (by omega) (by decide) rfl (by rw [if_neg (by decide)]) (by rw [if_neg (by decide)])
                rw [sI_id (show G329.1 100 12 = nI o from hx2.2.2.2.2.2.2.2.1)] at this
                exact this
              refine r_callVv (pc := 354) C rfl dX9_expression_354 kX9_272 gF9 jM (tX9_next Z.1 C.w (t := k) (by rw [sI_s, upd_o (by decide), sI_o (by decide), h329.2.1 11 (by decide) (by decide)]; exact t0) (by omega)) rfl rfl (Nat.le_of_ble_eq_true rfl) (by decide) (fun G354 h354 => ?_)
              subst h354
              refine r_goto (pc := 357) 12 C dX9_expression_357 (by decide) ?_
              by_cases h400 : k = 400
              · have hR := hlv.1 h400
                have e6 : G329.1 6 k = nI (tkT B n k).2.2.1 := by rw [h329.1.1 6 (by decide), hx.2.2.2.2.2.2.2.2.2.2.2.1.1 6 (by unfold xS; decide)]; exact htk.2
                rw [nF_4 h400 (by rw [sI_s, upd_o (by decide), sI_o (by decide), h329.2.1 13 (by decide) (by decide)]; exact f0)]
                refine finL k _ _ _ (hx3.tf (k + 1) (Nat.le_refl _) (by omega)).2.2.2.2.2.2.2.2.2.2.2 (by rw [sI_s, upd_o (by decide), sI_s, upd_o (by decide), sI_s, upd_o (by decide), sI_o (by decide), h329.2.1 11 (by decide) (by decide)]; exact t0) (by omega) ⟨2, by decide, by decide, by rw [sI_s, upd_o (by decide), sI_s, upd_s], hR.1, ?_⟩
                rw [sI_s, upd_s, hR.2, ← e6]
                rw [sI_o (by decide), sI_o (by decide)]
              · rw [nF_g h400]
                refine ih5 (401 - (k + 1)) (by omega) (k + 1) o _ (8 :: E.dropWhile (popP false)) _ _ _ _ _ rfl (by omega) (hlv3 h400) hcK (hx3.tn (k + 1) (Nat.le_refl _) (by omega)) (by rw [sI_s, upd_s]) (by rw [sI_s, upd_o (by decide), sI_s, upd_o (by decide), sI_o (by decide), h329.2.1 13 (by decide) (by decide)]; exact f0)
            · refine r_aload0 (pc := 200) C dX9_expression_200 ?_
              refine r_bipush (pc := 201) (v := nI 7) C dX9_expression_201 (by decide) ?_
              refine r_callVi (pc := 203) C rfl dX9_expression_203 kX9_269 gF9 jM (tX9_is Z.1 C.w t0 (by omega)) rfl rfl (Nat.le_of_ble_eq_true rfl) (by decide) (fun x203 G203 h203 => ?_)
              obtain ⟨rfl, h203b⟩ := h203
              have h203b := h203b.symm
              subst h203b
              rw [isB_f (by rw [hx.2.2.2.2.2.2.2.2.2.2.2.1.1 5 (by unfold xS; decide)]; exact by rw [hkd]; decide)]
              refine r_if_eq (pc := 206) 249 C dX9_expression_206 (by decide) (fun c206 => ?_) (fun c206 => ?_)
              rotate_left
              · exact absurd c206 (fun h => h rfl)
              refine r_aload0 (pc := 249) C dX9_expression_249 ?_
              refine r_bipush (pc := 250) (v := nI 8) C dX9_expression_250 (by decide) ?_
              refine r_callVi (pc := 252) C rfl dX9_expression_252 kX9_269 gF9 jM (tX9_is Z.1 C.w t0 (by omega)) rfl rfl (Nat.le_of_ble_eq_true rfl) (by decide) (fun x252 G252 h252 => ?_)
              obtain ⟨rfl, h252b⟩ := h252
              have h252b := h252b.symm
              subst h252b
              rw [isB_f (by rw [hx.2.2.2.2.2.2.2.2.2.2.2.1.1 5 (by unfold xS; decide)]; exact by rw [hkd]; decide)]
              refine r_if_ne (pc := 255) 276 C dX9_expression_255 (by decide) (fun c255 => ?_) (fun c255 => ?_)
              · exact absurd c255 (fun h => h rfl)
              refine r_aload0 (pc := 258) C dX9_expression_258 ?_
              refine r_bipush (pc := 259) (v := nI 9) C dX9_expression_259 (by decide) ?_
              refine r_callVi (pc := 261) C rfl dX9_expression_261 kX9_269 gF9 jM (tX9_is Z.1 C.w t0 (by omega)) rfl rfl (Nat.le_of_ble_eq_true rfl) (by decide) (fun x261 G261 h261 => ?_)
              obtain ⟨rfl, h261b⟩ := h261
              have h261b := h261b.symm
              subst h261b
              rw [isB_f (by rw [hx.2.2.2.2.2.2.2.2.2.2.2.1.1 5 (by unfold xS; decide)]; exact by rw [hkd]; decide)]
              refine r_if_ne (pc := 264) 276 C dX9_expression_264 (by decide) (fun c264 => ?_) (fun c264 => ?_)
              · exact absurd c264 (fun h => h rfl)
              refine r_aload0 (pc := 267) C dX9_expression_267 ?_
              refine r_bipush (pc := 268) (v := nI 10) C dX9_expression_268 (by decide) ?_
              refine r_callVi (pc := 270) C rfl dX9_expression_270 kX9_269 gF9 jM (tX9_is Z.1 C.w t0 (by omega)) rfl rfl (Nat.le_of_ble_eq_true rfl) (by decide) (fun x270 G270 h270 => ?_)
              obtain ⟨rfl, h270b⟩ := h270
              have h270b := h270b.symm
              subst h270b
              rw [isB_t f0 (by rw [hx.2.2.2.2.2.2.2.2.2.2.2.1.1 5 (by unfold xS; decide)]; exact hkd)]
              refine r_if_eq (pc := 273) 280 C dX9_expression_273 (by decide) (fun c273 => ?_) (fun c273 => ?_)
              · exact absurd c273 (by decide)
              refine r_iconst (pc := 276) (v := nI 1) C dX9_expression_276 (by decide) ?_
              refine r_goto (pc := 277) 281 C dX9_expression_277 (by decide) ?_
              refine r_istore2 (pc := 281) C dX9_expression_281 rfl ?_
              refine r_iload2 (pc := 282) C dX9_expression_282 ?_
              refine r_if_ne (pc := 283) 305 C dX9_expression_283 (by decide) (fun c283 => ?_) (fun c283 => ?_)
              rotate_left
              · exact absurd c283 (by decide)
              refine r_aload0 (pc := 305) C dX9_expression_305 ?_
              refine gX9_20 (pc := 306) C dX9_expression_306 ?_
              refine r_aload0 (pc := 309) C dX9_expression_309 ?_
              refine gX9_254 (pc := 310) C dX9_expression_310 ?_
              refine r_eqi t0 ?_
              refine r_iald (pc := 313) (_) C dX9_expression_313 aM5 (rfl) (by omega) ?_
              refine r_eqi (y := nI 10) (by rw [hx.2.2.2.2.2.2.2.2.2.2.2.1.1 5 (by unfold xS; decide)]; exact hkd) ?_
              refine r_istore4 (pc := 314) C dX9_expression_314 rfl ?_
              refine r_aload0 (pc := 316) C dX9_expression_316 ?_
              refine r_iload4 (pc := 317) C dX9_expression_317 ?_
              refine r_bipush (pc := 319) (v := nI 10) C dX9_expression_319 (by decide) ?_
              refine r_icmp_ne (pc := 321) 328 C dX9_expression_321 (by decide) (fun c321 => ?_) (fun c321 => ?_)
              · exact absurd c321 (fun h => h rfl)
              refine r_iconst (pc := 324) (v := nI 1) C dX9_expression_324 (by decide) ?_
              refine r_goto (pc := 325) 329 C dX9_expression_325 (by decide) ?_
              refine r_callVv (pc := 329) C rfl dX9_expression_329 kX9_314 gF9 jM (tX9_comesOut Z.1 C.w (tm := true) (cd := cd) hx.1 hx.2.2.2.2.2.2.2.2.2.1 hx.2.2.2.2.2.2.2.2.2.2.1 hx.2.2.2.2.2.2.2.2.1 (by have := hx.2.2.2.2.2.1; have := hx.2.2.2.2.2.2.1; omega) (by omega) hx.2.2.2.2.1 hx.2.2.1 hx.2.2.2.1) rfl rfl (Nat.le_of_ble_eq_true rfl) (by decide) (fun G329 h329 => ?_)
              have hx2 := hx.co h329
              have hlr : (E.dropWhile (popP true)).length ≤ E.length := by have := pop_len true E; omega
              have hstop : E.dropWhile (popP true) ≠ [] ∨ ops0 = [] ∨ ∃ y t, ops0 = y :: t ∧ ¬ rk 9 ≤ rk y := by
                have hr : rk 9 = 5 := by decide +kernel
                rcases hr0 with z | ⟨y, t, z, z2⟩
                · exact Or.inr (Or.inl z)
                · exact Or.inr (Or.inr ⟨y, t, z, by omega⟩)
              have hlv3 : k ≠ 400 → Lv B n R (k + 1) (5, o, rel, fw, (9 :: E.dropWhile (popP true)) ++ ops0, (a, m, ((E.takeWhile (popP true)).map fOp).reverse ++ c1) :: rs) := by
                intro h4
                have := hlv.2 h4
                rw [edn_E (tm := true) (Or.inr ⟨rfl, by decide +kernel⟩) E [] hx.1 hstop, edn_E (tm := true) (Or.inr ⟨rfl, by decide +kernel⟩) E _ hx.1 hstop] at this
                exact this
              have hcK : ∀ v, cK v (((E.takeWhile (popP true)).map fOp).reverse ++ c1) (apL (E.takeWhile (popP true)) (LE v) ++ L0 v) := fun v => cK_pops _ _ _ (fun x hx' => by rcases hx.1 x (take_mem hx') with rfl | rfl | rfl | rfl <;> decide) (hc v) (by rw [hx.2.2.2.1 v]; have := pop_nz true E; omega)
              refine r_aload0 (pc := 332) C dX9_expression_332 ?_
              refine gX9_83 (pc := 333) C dX9_expression_333 ?_
              refine r_aload0 (pc := 336) C dX9_expression_336 ?_
              refine gX9_308 (pc := 337) C dX9_expression_337 ?_
              refine r_eqi (y := nI (E.dropWhile (popP true)).length) h329.2.2.1 ?_
              refine r_iload4 (pc := 340) C dX9_expression_340 ?_
              refine r_iast (pc := 342) (_) C dX9_expression_342 aM34 (rfl) (by omega) ?_
              refine r_aload0 (pc := 343) C dX9_expression_343 ?_
              refine r_dup (pc := 344) C dX9_expression_344 rfl ?_
              refine gX9_308 (pc := 345) C dX9_expression_345 ?_
              refine r_eqi (y := nI (E.dropWhile (popP true)).length) (by rw [sI_o (by decide)]; exact h329.2.2.1) ?_
              refine r_iconst (pc := 348) (v := nI 1) C dX9_expression_348 (by decide) ?_
              refine r_iadd (pc := 349) C dX9_expression_349 ?_
              refine r_eqi (nI_add _ 1) ?_
              refine pX9_308 (pc := 350) C dX9_expression_350 ?_
              refine r_aload0 (pc := 353) C dX9_expression_353 ?_
              have hx3 : exT G (sI (sI G329 34 (E.dropWhile (popP true)).length (nI 10)) 100 35 (nI ((E.dropWhile (popP true)).length + 1))) cd kb (k + 1) o (cc + (E.takeWhile (popP true)).length) (9 :: E.dropWhile (popP true)) (fun v => apL (E.takeWhile (popP true)) (LE v)) 0 := by
                have := hx2.push (x := 9) (o2 := o) (d2 := 0) (op := nI o) (by omega) (by decide) rfl (by rw [if_neg (by decide)]) (by rw [if_neg (by decide)])
                rw [sI_id (show G329.1 100 12 = nI o from hx2.2.2.2.2.2.2.2.1)] at this
                exact this
              refine r_callVv (pc := 354) C rfl dX9_expression_354 kX9_272 gF9 jM (tX9_next Z.1 C.w (t := k) (by rw [sI_s, upd_o (by decide), sI_o (by decide), h329.2.1 11 (by decide) (by decide)]; exact t0) (by omega)) rfl rfl (Nat.le_of_ble_eq_true rfl) (by decide) (fun G354 h354 => ?_)
              subst h354
              refine r_goto (pc := 357) 12 C dX9_expression_357 (by decide) ?_
              by_cases h400 : k = 400
              · have hR := hlv.1 h400
                have e6 : G329.1 6 k = nI (tkT B n k).2.2.1 := by rw [h329.1.1 6 (by decide), hx.2.2.2.2.2.2.2.2.2.2.2.1.1 6 (by unfold xS; decide)]; exact htk.2
                rw [nF_4 h400 (by rw [sI_s, upd_o (by decide), sI_o (by decide), h329.2.1 13 (by decide) (by decide)]; exact f0)]
                refine finL k _ _ _ (hx3.tf (k + 1) (Nat.le_refl _) (by omega)).2.2.2.2.2.2.2.2.2.2.2 (by rw [sI_s, upd_o (by decide), sI_s, upd_o (by decide), sI_s, upd_o (by decide), sI_o (by decide), h329.2.1 11 (by decide) (by decide)]; exact t0) (by omega) ⟨2, by decide, by decide, by rw [sI_s, upd_o (by decide), sI_s, upd_s], hR.1, ?_⟩
                rw [sI_s, upd_s, hR.2, ← e6]
                rw [sI_o (by decide), sI_o (by decide)]
              · rw [nF_g h400]
                refine ih5 (401 - (k + 1)) (by omega) (k + 1) o _ (9 :: E.dropWhile (popP true)) _ _ _ _ _ rfl (by omega) (hlv3 h400) hcK (hx3.tn (k + 1) (Nat.le_refl _) (by omega)) (by rw [sI_s, upd_s]) (by rw [sI_s, upd_o (by decide), sI_s, upd_o (by decide), sI_o (by decide), h329.2.1 13 (by decide) (by decide)]; exact f0)
          · by_cases ho : 0 < o
            · refine r_aload0 (pc := 200) C dX9_expression_200 ?_
              refine r_bipush (pc := 201) (v := nI 7) C dX9_expression_201 (by decide) ?_
              refine r_callVi (pc := 203) C rfl dX9_expression_203 kX9_269 gF9 jM (tX9_is Z.1 C.w t0 (by omega)) rfl rfl (Nat.le_of_ble_eq_true rfl) (by decide) (fun x203 G203 h203 => ?_)
              obtain ⟨rfl, h203b⟩ := h203
              have h203b := h203b.symm
              subst h203b
              rw [isB_f (by rw [hx.2.2.2.2.2.2.2.2.2.2.2.1.1 5 (by unfold xS; decide)]; exact hk7)]
              refine r_if_eq (pc := 206) 249 C dX9_expression_206 (by decide) (fun c206 => ?_) (fun c206 => ?_)
              rotate_left
              · exact absurd c206 (fun h => h rfl)
              refine r_aload0 (pc := 249) C dX9_expression_249 ?_
              refine r_bipush (pc := 250) (v := nI 8) C dX9_expression_250 (by decide) ?_
              refine r_callVi (pc := 252) C rfl dX9_expression_252 kX9_269 gF9 jM (tX9_is Z.1 C.w t0 (by omega)) rfl rfl (Nat.le_of_ble_eq_true rfl) (by decide) (fun x252 G252 h252 => ?_)
              obtain ⟨rfl, h252b⟩ := h252
              have h252b := h252b.symm
              subst h252b
              rw [isB_f (by rw [hx.2.2.2.2.2.2.2.2.2.2.2.1.1 5 (by unfold xS; decide)]; exact hk8)]
              refine r_if_ne (pc := 255) 276 C dX9_expression_255 (by decide) (fun c255 => ?_) (fun c255 => ?_)
              · exact absurd c255 (fun h => h rfl)
              refine r_aload0 (pc := 258) C dX9_expression_258 ?_
              refine r_bipush (pc := 259) (v := nI 9) C dX9_expression_259 (by decide) ?_
              refine r_callVi (pc := 261) C rfl dX9_expression_261 kX9_269 gF9 jM (tX9_is Z.1 C.w t0 (by omega)) rfl rfl (Nat.le_of_ble_eq_true rfl) (by decide) (fun x261 G261 h261 => ?_)
              obtain ⟨rfl, h261b⟩ := h261
              have h261b := h261b.symm
              subst h261b
              rw [isB_f (by rw [hx.2.2.2.2.2.2.2.2.2.2.2.1.1 5 (by unfold xS; decide)]; exact hk9)]
              refine r_if_ne (pc := 264) 276 C dX9_expression_264 (by decide) (fun c264 => ?_) (fun c264 => ?_)
              · exact absurd c264 (fun h => h rfl)
              refine r_aload0 (pc := 267) C dX9_expression_267 ?_
              refine r_bipush (pc := 268) (v := nI 10) C dX9_expression_268 (by decide) ?_
              refine r_callVi (pc := 270) C rfl dX9_expression_270 kX9_269 gF9 jM (tX9_is Z.1 C.w t0 (by omega)) rfl rfl (Nat.le_of_ble_eq_true rfl) (by decide) (fun x270 G270 h270 => ?_)
              obtain ⟨rfl, h270b⟩ := h270
              have h270b := h270b.symm
              subst h270b
              rw [isB_f (by rw [hx.2.2.2.2.2.2.2.2.2.2.2.1.1 5 (by unfold xS; decide)]; exact hk10)]
              refine r_if_eq (pc := 273) 280 C dX9_expression_273 (by decide) (fun c273 => ?_) (fun c273 => ?_)
              rotate_left
              · exact absurd c273 (fun h => h rfl)
              refine r_iconst (pc := 280) (v := nI 0) C dX9_expression_280 (by decide) ?_
              refine r_istore2 (pc := 281) C dX9_expression_281 rfl ?_
              refine r_iload2 (pc := 282) C dX9_expression_282 ?_
              refine r_if_ne (pc := 283) 305 C dX9_expression_283 (by decide) (fun c283 => ?_) (fun c283 => ?_)
              · exact absurd c283 (fun h => h rfl)
              refine r_aload0 (pc := 286) C dX9_expression_286 ?_
              refine gX9_278 (pc := 287) C dX9_expression_287 ?_
              refine r_eqi hx.2.2.2.2.2.2.2.1 ?_
              refine r_iload1 (pc := 290) C dX9_expression_290 ?_
              refine r_icmp_le (pc := 291) 299 C dX9_expression_291 (by decide) (fun c291 => ?_) (fun c291 => ?_)
              · exact absurd c291 (nI_gz ho (by omega))
              refine r_aload0 (pc := 294) C dX9_expression_294 ?_
              refine r_iconst (pc := 295) (v := nI 1) C dX9_expression_295 (by decide) ?_
              refine r_callVv (pc := 296) C rfl dX9_expression_296 kX9_266 gF9 jM (tX9_fail Z.1 C.w t0 (by omega)) rfl rfl (Nat.le_of_ble_eq_true rfl) (by decide) (fun G296 h296 => ?_)
              rw [fF_0 f0] at h296
              subst h296
              have hR := lv6_in hL1 ho hs9 hs11
              have hx' : exT G (sI (sI G1 100 13 (nI 1)) 100 14 (G1.1 6 k)) cd kb k o cc E LE 1 := hx.tf k (Nat.le_refl k) (by omega)
              refine r_aload0 (pc := 299) C dX9_expression_299 ?_
              refine r_iconst (pc := 300) (v := nI 0) C dX9_expression_300 (by decide) ?_
              refine r_callVv (pc := 301) C rfl dX9_expression_301 kX9_314 gF9 jM (tX9_comesOut Z.1 C.w (tm := false) (cd := cd) hx'.1 hx'.2.2.2.2.2.2.2.2.2.1 hx'.2.2.2.2.2.2.2.2.2.2.1 hx'.2.2.2.2.2.2.2.2.1 (by have := hx'.2.2.2.2.2.1; have := hx'.2.2.2.2.2.2.1; omega) (by omega) hx'.2.2.2.2.1 hx'.2.2.1 hx'.2.2.2.1) rfl rfl (Nat.le_of_ble_eq_true rfl) (by decide) (fun G301 h301 => ?_)
              exact r_return (pc := 304) C dX9_expression_304 (⟨(hx'.co h301).2.2.2.2.2.2.2.2.2.2.2, Or.inl ⟨k, by rw [h301.2.1 11 (by decide) (by decide), sI_s, upd_o (by decide), sI_s, upd_o (by decide)]; exact t0, by omega, ⟨1, by decide, by decide, by rw [h301.2.1 13 (by decide) (by decide), sI_s, upd_o (by decide), sI_s, upd_s], hR.1, by rw [h301.2.1 14 (by decide) (by decide), sI_s, upd_s, hR.2, ← htk.2, hx.2.2.2.2.2.2.2.2.2.2.2.1.1 6 (by unfold xS; decide)]⟩⟩⟩)
            · obtain rfl : o = 0 := by omega
              have hn9 := hs9
              refine r_aload0 (pc := 200) C dX9_expression_200 ?_
              refine r_bipush (pc := 201) (v := nI 7) C dX9_expression_201 (by decide) ?_
              refine r_callVi (pc := 203) C rfl dX9_expression_203 kX9_269 gF9 jM (tX9_is Z.1 C.w t0 (by omega)) rfl rfl (Nat.le_of_ble_eq_true rfl) (by decide) (fun x203 G203 h203 => ?_)
              obtain ⟨rfl, h203b⟩ := h203
              have h203b := h203b.symm
              subst h203b
              rw [isB_f (by rw [hx.2.2.2.2.2.2.2.2.2.2.2.1.1 5 (by unfold xS; decide)]; exact hk7)]
              refine r_if_eq (pc := 206) 249 C dX9_expression_206 (by decide) (fun c206 => ?_) (fun c206 => ?_)
              rotate_left
              · exact absurd c206 (fun h => h rfl)
              refine r_aload0 (pc := 249) C dX9_expression_249 ?_
              refine r_bipush (pc := 250) (v := nI 8) C dX9_expression_250 (by decide) ?_
              refine r_callVi (pc := 252) C rfl dX9_expression_252 kX9_269 gF9 jM (tX9_is Z.1 C.w t0 (by omega)) rfl rfl (Nat.le_of_ble_eq_true rfl) (by decide) (fun x252 G252 h252 => ?_)
              obtain ⟨rfl, h252b⟩ := h252
              have h252b := h252b.symm
              subst h252b
              rw [isB_f (by rw [hx.2.2.2.2.2.2.2.2.2.2.2.1.1 5 (by unfold xS; decide)]; exact hk8)]
              refine r_if_ne (pc := 255) 276 C dX9_expression_255 (by decide) (fun c255 => ?_) (fun c255 => ?_)
              · exact absurd c255 (fun h => h rfl)
              refine r_aload0 (pc := 258) C dX9_expression_258 ?_
              refine r_bipush (pc := 259) (v := nI 9) C dX9_expression_259 (by decide) ?_
              refine r_callVi (pc := 261) C rfl dX9_expression_261 kX9_269 gF9 jM (tX9_is Z.1 C.w t0 (by omega)) rfl rfl (Nat.le_of_ble_eq_true rfl) (by decide) (fun x261 G261 h261 => ?_)
              obtain ⟨rfl, h261b⟩ := h261
              have h261b := h261b.symm
              subst h261b
              rw [isB_f (by rw [hx.2.2.2.2.2.2.2.2.2.2.2.1.1 5 (by unfold xS; decide)]; exact hk9)]
              refine r_if_ne (pc := 264) 276 C dX9_expression_264 (by decide) (fun c264 => ?_) (fun c264 => ?_)
              · exact absurd c264 (fun h => h rfl)
              refine r_aload0 (pc := 267) C dX9_expression_267 ?_
              refine r_bipush (pc := 268) (v := nI 10) C dX9_expression_268 (by decide) ?_
              refine r_callVi (pc := 270) C rfl dX9_expression_270 kX9_269 gF9 jM (tX9_is Z.1 C.w t0 (by omega)) rfl rfl (Nat.le_of_ble_eq_true rfl) (by decide) (fun x270 G270 h270 => ?_)
              obtain ⟨rfl, h270b⟩ := h270
              have h270b := h270b.symm
              subst h270b
              rw [isB_f (by rw [hx.2.2.2.2.2.2.2.2.2.2.2.1.1 5 (by unfold xS; decide)]; exact hk10)]
              refine r_if_eq (pc := 273) 280 C dX9_expression_273 (by decide) (fun c273 => ?_) (fun c273 => ?_)
              rotate_left
              · exact absurd c273 (fun h => h rfl)
              refine r_iconst (pc := 280) (v := nI 0) C dX9_expression_280 (by decide) ?_
              refine r_istore2 (pc := 281) C dX9_expression_281 rfl ?_
              refine r_iload2 (pc := 282) C dX9_expression_282 ?_
              refine r_if_ne (pc := 283) 305 C dX9_expression_283 (by decide) (fun c283 => ?_) (fun c283 => ?_)
              · exact absurd c283 (fun h => h rfl)
              refine r_aload0 (pc := 286) C dX9_expression_286 ?_
              refine gX9_278 (pc := 287) C dX9_expression_287 ?_
              refine r_eqi hx.2.2.2.2.2.2.2.1 ?_
              refine r_iload1 (pc := 290) C dX9_expression_290 ?_
              refine r_icmp_le (pc := 291) 299 C dX9_expression_291 (by decide) (fun c291 => ?_) (fun c291 => ?_)
              rotate_left
              · exact absurd c291 (fun h => h (by decide))
              refine r_aload0 (pc := 299) C dX9_expression_299 ?_
              refine r_iconst (pc := 300) (v := nI 0) C dX9_expression_300 (by decide) ?_
              refine r_callVv (pc := 301) C rfl dX9_expression_301 kX9_314 gF9 jM (tX9_comesOut Z.1 C.w (tm := false) (cd := cd) hx.1 hx.2.2.2.2.2.2.2.2.2.1 hx.2.2.2.2.2.2.2.2.2.2.1 hx.2.2.2.2.2.2.2.2.1 (by have := hx.2.2.2.2.2.1; have := hx.2.2.2.2.2.2.1; omega) (by omega) hx.2.2.2.2.1 hx.2.2.1 hx.2.2.2.1) rfl rfl (Nat.le_of_ble_eq_true rfl) (by decide) (fun G301 h301 => ?_)
              have hx2 := hx.co h301
              exact r_return (pc := 304) C dX9_expression_304 (by
                have hnz := all_nz hx.1 hx.2.1
                obtain ⟨w1, w2⟩ := tw_all hnz
                rw [w1, w2] at hx2
                refine ⟨hx2.2.2.2.2.2.2.2.2.2.2.2, Or.inr ⟨k, E, c1, cc + E.length, LE, fun v => (apL E (LE v)).headD 0, hL1, hnz, fun v => ?_, fun v => ?_, by have := hx.2.2.2.2.1; omega, by have := hx.2.2.2.2.2.1; omega, hkk, by rw [h301.2.1 11 (by decide) (by decide)]; exact t0, hx2.2.2.2.2.2.2.2.1, by rw [h301.2.1 13 (by decide) (by decide)]; exact f0, hx2.2.2.2.2.2.2.2.2.1, hn9⟩⟩
                · have h1 := hx.2.2.2.1 v
                  have h2 := apL_len E (LE v) (by have := nz_all (a := E) (fun z hz => by rcases hnz z hz with rfl | rfl | rfl <;> decide); omega)
                  have h3 := nz_all (a := E) (fun z hz => by rcases hnz z hz with rfl | rfl | rfl <;> decide)
                  refine ⟨by omega, ?_, hc v⟩
                  match hq : apL E (LE v), (show (apL E (LE v)).length = 1 by omega) with
                  | [y], _ => show [y] = [(apL E (LE v)).headD 0]; rw [hq]; rfl
                · have h1 := hx.2.2.2.1 v
                  have h2 := apL_len E (LE v) (by have := nz_all (a := E) (fun z hz => by rcases hnz z hz with rfl | rfl | rfl <;> decide); omega)
                  have h3 := nz_all (a := E) (fun z hz => by rcases hnz z hz with rfl | rfl | rfl <;> decide)
                  have h4 := hx2.2.2.1 v
                  have h5 : apL E (LE v) = [(apL E (LE v)).headD 0] := by
                    match hq : apL E (LE v), (show (apL E (LE v)).length = 1 by omega) with
                    | [y], _ => rfl
                  rw [← h5]
                  exact h4)
      rcases tk5 htk.1 with ⟨hs, hkd⟩ | ⟨x, hx7, hs, hxv, hkd⟩ | ⟨x, hx7, hs, hxv, hkd, hvl⟩ | ⟨hk6, hk2, hk25, hs2, hs3, hs10⟩
      · have hlv := lv5_open hL1 hs htq
        refine r_iload2 (pc := 12) C dX9_expression_12 ?_
        refine r_if_eq (pc := 13) 360 C dX9_expression_13 (by decide) (fun c13 => ?_) (fun c13 => ?_)
        · exact absurd c13 (by decide)
        refine r_aload0 (pc := 16) C dX9_expression_16 ?_
        refine gX9_251 (pc := 17) C dX9_expression_17 ?_
        refine r_eqi f0 ?_
        refine r_if_ne (pc := 20) 360 C dX9_expression_20 (by decide) (fun c20 => ?_) (fun c20 => ?_)
        · exact absurd c20 (fun h => h rfl)
        refine r_aload0 (pc := 23) C dX9_expression_23 ?_
        refine r_bipush (pc := 24) (v := nI 6) C dX9_expression_24 (by decide) ?_
        refine r_callVi (pc := 26) C rfl dX9_expression_26 kX9_269 gF9 jM (tX9_is Z.1 C.w t0 (by omega)) rfl rfl (Nat.le_of_ble_eq_true rfl) (by decide) (fun x26 G26 h26 => ?_)
        obtain ⟨rfl, h26b⟩ := h26
        have h26b := h26b.symm
        subst h26b
        rw [isB_t f0 (by rw [hx.2.2.2.2.2.2.2.2.2.2.2.1.1 5 (by unfold xS; decide)]; exact hkd)]
        refine r_if_eq (pc := 29) 92 C dX9_expression_29 (by decide) (fun c29 => ?_) (fun c29 => ?_)
        · exact absurd c29 (by decide)
        refine r_aload0 (pc := 32) C dX9_expression_32 ?_
        refine gX9_278 (pc := 33) C dX9_expression_33 ?_
        refine r_eqi hx.2.2.2.2.2.2.2.1 ?_
        refine r_bipush (pc := 36) (v := nI 6) C dX9_expression_36 (by decide) ?_
        refine r_icmp_ne (pc := 38) 46 C dX9_expression_38 (by decide) (fun c38 => ?_) (fun c38 => ?_)
        · have ho6 : o < 6 := by
            have h1 : o ≤ 6 := hL1.2.2.1.2.1
            have h2 : o ≠ 6 := fun z => c38 (by rw [z])
            omega
          refine r_aload0 (pc := 46) C dX9_expression_46 ?_
          refine gX9_251 (pc := 47) C dX9_expression_47 ?_
          refine r_eqi f0 ?_
          refine r_if_le (pc := 50) 54 C dX9_expression_50 (by decide) (fun c50 => ?_) (fun c50 => ?_)
          rotate_left
          · exact absurd c50 (fun h => h (by decide))
          refine r_aload0 (pc := 54) C dX9_expression_54 ?_
          refine r_dup (pc := 55) C dX9_expression_55 rfl ?_
          refine gX9_278 (pc := 56) C dX9_expression_56 ?_
          refine r_eqi hx.2.2.2.2.2.2.2.1 ?_
          refine r_iconst (pc := 59) (v := nI 1) C dX9_expression_59 (by decide) ?_
          refine r_iadd (pc := 60) C dX9_expression_60 ?_
          refine r_eqi (nI_add o 1) ?_
          refine pX9_278 (pc := 61) C dX9_expression_61 ?_
          refine r_aload0 (pc := 64) C dX9_expression_64 ?_
          refine r_callVv (pc := 65) C rfl dX9_expression_65 kX9_272 gF9 jM (tX9_next Z.1 C.w (t := k) (by rw [sI_s, upd_o (by decide)]; exact t0) (by omega)) rfl rfl (Nat.le_of_ble_eq_true rfl) (by decide) (fun G65 h65 => ?_)
          subst h65
          by_cases h400 : k = 400
          · have hR := hlv.1 (Or.inr h400)
            have e6 : G1.1 6 k = nI (tkT B n k).2.2.1 := by rw [hx.2.2.2.2.2.2.2.2.2.2.2.1.1 6 (by unfold xS; decide)]; exact htk.2
            rw [nF_4 h400 (by rw [sI_s, upd_o (by decide)]; exact f0)]
            refine r_aload0 (pc := 68) C dX9_expression_68 ?_
            refine gX9_83 (pc := 69) C dX9_expression_69 ?_
            refine r_aload0 (pc := 72) C dX9_expression_72 ?_
            refine gX9_308 (pc := 73) C dX9_expression_73 ?_
            refine r_eqi (y := nI E.length) (by rw [sI_s, upd_o (by decide), sI_s, upd_o (by decide), sI_s, upd_o (by decide)]; exact hx.2.2.2.2.2.2.2.2.2.1) ?_
            refine r_bipush (pc := 76) (v := nI 6) C dX9_expression_76 (by decide) ?_
            refine r_iast (pc := 78) (_) C dX9_expression_78 aM34 (rfl) (by omega) ?_
            refine r_aload0 (pc := 79) C dX9_expression_79 ?_
            refine r_dup (pc := 80) C dX9_expression_80 rfl ?_
            refine gX9_308 (pc := 81) C dX9_expression_81 ?_
            refine r_eqi (y := nI E.length) (by rw [sI_o (by decide), sI_s, upd_o (by decide), sI_s, upd_o (by decide), sI_s, upd_o (by decide)]; exact hx.2.2.2.2.2.2.2.2.2.1) ?_
            refine r_iconst (pc := 84) (v := nI 1) C dX9_expression_84 (by decide) ?_
            refine r_iadd (pc := 85) C dX9_expression_85 ?_
            refine r_eqi (nI_add _ 1) ?_
            refine pX9_308 (pc := 86) C dX9_expression_86 ?_
            refine r_goto (pc := 89) 12 C dX9_expression_89 (by decide) ?_
            refine finL k _ _ _ (hx.2.2.2.2.2.2.2.2.2.2.2.w (((((Fr.refl.sI (Or.inr rfl)).sI (Or.inr rfl)).sI (Or.inr rfl)).sI (Or.inl rfl)).sI (Or.inr rfl)) (fun q a b c d e f => by rw [sI_s, upd_o f, sI_o (by decide), sI_s, upd_o d, sI_s, upd_o c, sI_s, upd_o b])) (by rw [sI_s, upd_o (by decide), sI_o (by decide), sI_s, upd_o (by decide), sI_s, upd_o (by decide), sI_s, upd_o (by decide)]; exact t0) (by omega) ⟨2, by decide, by decide, by rw [sI_s, upd_o (by decide), sI_o (by decide), sI_s, upd_o (by decide), sI_s, upd_s], hR.1, ?_⟩
            rw [sI_s, upd_o (by decide), sI_o (by decide), sI_s, upd_s, sI_o (by decide), hR.2, ← e6]
          · rw [nF_g h400]
            refine r_aload0 (pc := 68) C dX9_expression_68 ?_
            refine gX9_83 (pc := 69) C dX9_expression_69 ?_
            refine r_aload0 (pc := 72) C dX9_expression_72 ?_
            refine gX9_308 (pc := 73) C dX9_expression_73 ?_
            refine r_eqi (y := nI E.length) (by rw [sI_s, upd_o (by decide), sI_s, upd_o (by decide)]; exact hx.2.2.2.2.2.2.2.2.2.1) ?_
            refine r_bipush (pc := 76) (v := nI 6) C dX9_expression_76 (by decide) ?_
            refine r_iast (pc := 78) (_) C dX9_expression_78 aM34 (rfl) (by omega) ?_
            refine r_aload0 (pc := 79) C dX9_expression_79 ?_
            refine r_dup (pc := 80) C dX9_expression_80 rfl ?_
            refine gX9_308 (pc := 81) C dX9_expression_81 ?_
            refine r_eqi (y := nI E.length) (by rw [sI_o (by decide), sI_s, upd_o (by decide), sI_s, upd_o (by decide)]; exact hx.2.2.2.2.2.2.2.2.2.1) ?_
            refine r_iconst (pc := 84) (v := nI 1) C dX9_expression_84 (by decide) ?_
            refine r_iadd (pc := 85) C dX9_expression_85 ?_
            refine r_eqi (nI_add _ 1) ?_
            refine pX9_308 (pc := 86) C dX9_expression_86 ?_
            refine r_goto (pc := 89) 12 C dX9_expression_89 (by decide) ?_
            have hx3 := hx.push (x := 0) (o2 := o + 1) (d2 := 0) (op := nI (o + 1)) (by omega) (by decide) rfl rfl rfl
            have hx4 : exT G (sI (sI (sI (sI G1 100 12 (nI (o + 1))) 100 11 (nI (k + 1))) 34 E.length (nI 6)) 100 35 (nI (E.length + 1))) cd kb (k + 1) (o + 1) cc (0 :: E) LE 0 := by
              rw [sI_c4]
              exact hx3.tn (k + 1) (Nat.le_refl _) (by omega)
            exact ih5 (401 - (k + 1)) (by omega) (k + 1) (o + 1) cc (0 :: E) c1 LE _ _ _ rfl (by omega) (hlv.2 (by omega) h400) hc hx4 (by rw [sI_s, upd_o (by decide), sI_o (by decide), sI_s, upd_s]) (by rw [sI_s, upd_o (by decide), sI_o (by decide), sI_s, upd_o (by decide), sI_s, upd_o (by decide)]; exact f0)
        · have ho6 : o = 6 := (nI_eq (by have h1 : o ≤ 6 := hL1.2.2.1.2.1; omega) (by decide)).mp c38
          have hR := hlv.1 (Or.inl (by omega))
          refine r_aload0 (pc := 41) C dX9_expression_41 ?_
          refine r_iconst (pc := 42) (v := nI 2) C dX9_expression_42 (by decide) ?_
          refine r_callVv (pc := 43) C rfl dX9_expression_43 kX9_266 gF9 jM (tX9_fail Z.1 C.w t0 (by omega)) rfl rfl (Nat.le_of_ble_eq_true rfl) (by decide) (fun G43 h43 => ?_)
          rw [fF_0 f0] at h43
          subst h43
          refine r_aload0 (pc := 46) C dX9_expression_46 ?_
          refine gX9_251 (pc := 47) C dX9_expression_47 ?_
          refine r_eqi (y := nI 2) (by rw [sI_s, upd_o (by decide), sI_s, upd_s]) ?_
          refine r_if_le (pc := 50) 54 C dX9_expression_50 (by decide) (fun c50 => ?_) (fun c50 => ?_)
          · exact absurd c50 (by decide)
          exact r_return (pc := 53) C dX9_expression_53 (⟨hx.2.2.2.2.2.2.2.2.2.2.2.w ((Fr.refl.sI (Or.inr rfl)).sI (Or.inr rfl)) (fun q a b c d e f => by rw [sI_s, upd_o d, sI_s, upd_o c]), Or.inl ⟨k, by rw [sI_s, upd_o (by decide), sI_s, upd_o (by decide)]; exact t0, by omega, ⟨2, by decide, by decide, by rw [sI_s, upd_o (by decide), sI_s, upd_s], hR.1, by rw [sI_s, upd_s, hR.2, ← htk.2, hx.2.2.2.2.2.2.2.2.2.2.2.1.1 6 (by unfold xS; decide)]⟩⟩⟩)
      · have hlv := lv5_unit hL1 hs (Or.inr rfl) htq
        refine r_iload2 (pc := 12) C dX9_expression_12 ?_
        refine r_if_eq (pc := 13) 360 C dX9_expression_13 (by decide) (fun c13 => ?_) (fun c13 => ?_)
        · exact absurd c13 (by decide)
        refine r_aload0 (pc := 16) C dX9_expression_16 ?_
        refine gX9_251 (pc := 17) C dX9_expression_17 ?_
        refine r_eqi f0 ?_
        refine r_if_ne (pc := 20) 360 C dX9_expression_20 (by decide) (fun c20 => ?_) (fun c20 => ?_)
        · exact absurd c20 (fun h => h rfl)
        refine r_aload0 (pc := 23) C dX9_expression_23 ?_
        refine r_bipush (pc := 24) (v := nI 6) C dX9_expression_24 (by decide) ?_
        refine r_callVi (pc := 26) C rfl dX9_expression_26 kX9_269 gF9 jM (tX9_is Z.1 C.w t0 (by omega)) rfl rfl (Nat.le_of_ble_eq_true rfl) (by decide) (fun x26 G26 h26 => ?_)
        obtain ⟨rfl, h26b⟩ := h26
        have h26b := h26b.symm
        subst h26b
        rw [isB_f (by rw [hx.2.2.2.2.2.2.2.2.2.2.2.1.1 5 (by unfold xS; decide), hkd]; exact nI_dj (by omega) (by omega) (by decide))]
        refine r_if_eq (pc := 29) 92 C dX9_expression_29 (by decide) (fun c29 => ?_) (fun c29 => ?_)
        rotate_left
        · exact absurd c29 (fun h => h rfl)
        refine r_aload0 (pc := 92) C dX9_expression_92 ?_
        refine gX9_251 (pc := 93) C dX9_expression_93 ?_
        refine r_eqi f0 ?_
        refine r_if_ne (pc := 96) 131 C dX9_expression_96 (by decide) (fun c96 => ?_) (fun c96 => ?_)
        · exact absurd c96 (fun h => h rfl)
        refine r_aload0 (pc := 99) C dX9_expression_99 ?_
        refine gX9_20 (pc := 100) C dX9_expression_100 ?_
        refine r_aload0 (pc := 103) C dX9_expression_103 ?_
        refine gX9_254 (pc := 104) C dX9_expression_104 ?_
        refine r_eqi t0 ?_
        refine r_iald (pc := 107) (_) C dX9_expression_107 aM5 (rfl) (by omega) ?_
        refine r_eqi (y := nI (25 + x)) (by rw [hx.2.2.2.2.2.2.2.2.2.2.2.1.1 5 (by unfold xS; decide)]; exact hkd) ?_
        refine r_bipush (pc := 108) (v := nI 25) C dX9_expression_108 (by decide) ?_
        refine r_icmp_lt (pc := 110) 131 C dX9_expression_110 (by decide) (fun c110 => ?_) (fun c110 => ?_)
        · exact absurd c110 (fun z => absurd ((nI_ltI (by omega) (by omega)).mp z) (by omega))
        refine r_aload0 (pc := 113) C dX9_expression_113 ?_
        refine gX9_20 (pc := 114) C dX9_expression_114 ?_
        refine r_aload0 (pc := 117) C dX9_expression_117 ?_
        refine gX9_254 (pc := 118) C dX9_expression_118 ?_
        refine r_eqi t0 ?_
        refine r_iald (pc := 121) (_) C dX9_expression_121 aM5 (rfl) (by omega) ?_
        refine r_eqi (y := nI (25 + x)) (by rw [hx.2.2.2.2.2.2.2.2.2.2.2.1.1 5 (by unfold xS; decide)]; exact hkd) ?_
        refine r_bipush (pc := 122) (v := nI 31) C dX9_expression_122 (by decide) ?_
        refine r_icmp_gt (pc := 124) 131 C dX9_expression_124 (by decide) (fun c124 => ?_) (fun c124 => ?_)
        · exact absurd c124 (fun z => absurd ((nI_ltI (by omega) (by omega)).mp z) (by omega))
        refine r_iconst (pc := 127) (v := nI 1) C dX9_expression_127 (by decide) ?_
        refine r_goto (pc := 128) 132 C dX9_expression_128 (by decide) ?_
        refine r_istore3 (pc := 132) C dX9_expression_132 rfl ?_
        refine r_aload0 (pc := 133) C dX9_expression_133 ?_
        refine r_iconst (pc := 134) (v := nI 2) C dX9_expression_134 (by decide) ?_
        refine r_callVi (pc := 135) C rfl dX9_expression_135 kX9_269 gF9 jM (tX9_is Z.1 C.w t0 (by omega)) rfl rfl (Nat.le_of_ble_eq_true rfl) (by decide) (fun x135 G135 h135 => ?_)
        obtain ⟨rfl, h135b⟩ := h135
        have h135b := h135b.symm
        subst h135b
        rw [isB_f (by rw [hx.2.2.2.2.2.2.2.2.2.2.2.1.1 5 (by unfold xS; decide), hkd]; exact nI_dj (by omega) (by omega) (by decide))]
        refine r_if_ne (pc := 138) 150 C dX9_expression_138 (by decide) (fun c138 => ?_) (fun c138 => ?_)
        · exact absurd c138 (fun h => h rfl)
        refine r_iload3 (pc := 141) C dX9_expression_141 ?_
        refine r_if_ne (pc := 142) 150 C dX9_expression_142 (by decide) (fun c142 => ?_) (fun c142 => ?_)
        rotate_left
        · exact absurd c142 (by decide)
        refine r_aload0 (pc := 150) C dX9_expression_150 ?_
        refine gX9_251 (pc := 151) C dX9_expression_151 ?_
        refine r_eqi f0 ?_
        refine r_if_le (pc := 154) 158 C dX9_expression_154 (by decide) (fun c154 => ?_) (fun c154 => ?_)
        rotate_left
        · exact absurd c154 (fun h => h (by decide))
        refine r_iload3 (pc := 158) C dX9_expression_158 ?_
        refine r_if_eq (pc := 159) 182 C dX9_expression_159 (by decide) (fun c159 => ?_) (fun c159 => ?_)
        · exact absurd c159 (by decide)
        refine r_aload0 (pc := 162) C dX9_expression_162 ?_
        refine r_iconst (pc := 163) (v := nI 1) C dX9_expression_163 (by decide) ?_
        refine r_aload0 (pc := 164) C dX9_expression_164 ?_
        refine gX9_20 (pc := 165) C dX9_expression_165 ?_
        refine r_aload0 (pc := 168) C dX9_expression_168 ?_
        refine gX9_254 (pc := 169) C dX9_expression_169 ?_
        refine r_eqi t0 ?_
        refine r_iald (pc := 172) (_) C dX9_expression_172 aM5 (rfl) (by omega) ?_
        refine r_eqi (y := nI (25 + x)) (by rw [hx.2.2.2.2.2.2.2.2.2.2.2.1.1 5 (by unfold xS; decide)]; exact hkd) ?_
        refine r_bipush (pc := 173) (v := nI 25) C dX9_expression_173 (by decide) ?_
        refine r_isub (pc := 175) C dX9_expression_175 ?_
        refine r_eqi (y := nI x) (by rw [pk_sub (by omega)]; congr 1; omega) ?_
        refine r_callVv (pc := 176) C rfl dX9_expression_176 kX9_311 gF9 jM (tX9_emit Z.1 C.w (c := cc) hx.2.2.2.2.2.2.2.2.1 (by have := hx.2.2.2.2.2.1; omega)) rfl rfl (Nat.le_of_ble_eq_true rfl) (by decide) (fun G176 h176 => ?_)
        subst h176
        refine r_goto (pc := 179) 196 C dX9_expression_179 (by decide) ?_
        refine r_aload0 (pc := 196) C dX9_expression_196 ?_
        refine r_callVv (pc := 197) C rfl dX9_expression_197 kX9_272 gF9 jM (tX9_next Z.1 C.w (t := k) (by rw [em_o (by decide)]; exact t0) (by omega)) rfl rfl (Nat.le_of_ble_eq_true rfl) (by decide) (fun G197 h197 => ?_)
        subst h197
        have hxe := hx.em (a := nI 1) (b := nI x) (x := fun v => v x) (by omega) hk4 (fun v => Or.inr ⟨rfl, x, hx7, rfl, rfl⟩)
        by_cases h400 : k = 400
        · have hR := hlv.1 h400
          have e6 : G1.1 6 k = nI (tkT B n k).2.2.1 := by rw [hx.2.2.2.2.2.2.2.2.2.2.2.1.1 6 (by unfold xS; decide)]; exact htk.2
          rw [nF_4 h400 (by rw [em_o (by decide)]; exact f0)]
          refine finT k (k + 1) o (cc + 1) E _ _ _ _ _ (hxe.tf (k + 1) (Nat.le_refl _) (by omega)) (by omega) (by rw [sI_s, upd_o (by decide), sI_s, upd_o (by decide), em_o (by decide)]; exact t0) (by omega) ⟨2, by decide, by decide, by rw [sI_s, upd_o (by decide), sI_s, upd_s], hR.1, ?_⟩
          rw [sI_s, upd_s, em_6, hR.2, ← e6]
        · rw [nF_g h400]
          have hlv3 := hlv.2 h400
          rw [hxv, if_pos rfl] at hlv3
          exact loop6 _ (k + 1) o (cc + 1) E (((nI 16 + nI x) ^^^ -1) :: c1) _ _ _ _ rfl (by omega) hlv3 (fun v => ⟨_, hc v, Or.inl ⟨opnd_var (by omega), (by rw [List.length_append, hx.2.2.2.1 v]; have := nz_le E; have := hl0 v; omega), by rw [valP_x hx7]; rfl⟩⟩) (hxe.tn (k + 1) (Nat.le_refl _) (by omega)) (by rw [sI_s, upd_s]) (by rw [sI_s, upd_o (by decide), em_o (by decide)]; exact f0)
      · have hlv := lv5_unit hL1 hs (Or.inl rfl) htq
        refine r_iload2 (pc := 12) C dX9_expression_12 ?_
        refine r_if_eq (pc := 13) 360 C dX9_expression_13 (by decide) (fun c13 => ?_) (fun c13 => ?_)
        · exact absurd c13 (by decide)
        refine r_aload0 (pc := 16) C dX9_expression_16 ?_
        refine gX9_251 (pc := 17) C dX9_expression_17 ?_
        refine r_eqi f0 ?_
        refine r_if_ne (pc := 20) 360 C dX9_expression_20 (by decide) (fun c20 => ?_) (fun c20 => ?_)
        · exact absurd c20 (fun h => h rfl)
        refine r_aload0 (pc := 23) C dX9_expression_23 ?_
        refine r_bipush (pc := 24) (v := nI 6) C dX9_expression_24 (by decide) ?_
        refine r_callVi (pc := 26) C rfl dX9_expression_26 kX9_269 gF9 jM (tX9_is Z.1 C.w t0 (by omega)) rfl rfl (Nat.le_of_ble_eq_true rfl) (by decide) (fun x26 G26 h26 => ?_)
        obtain ⟨rfl, h26b⟩ := h26
        have h26b := h26b.symm
        subst h26b
        rw [isB_f (by rw [hx.2.2.2.2.2.2.2.2.2.2.2.1.1 5 (by unfold xS; decide), hkd]; exact nI_dj (by omega) (by omega) (by decide))]
        refine r_if_eq (pc := 29) 92 C dX9_expression_29 (by decide) (fun c29 => ?_) (fun c29 => ?_)
        rotate_left
        · exact absurd c29 (fun h => h rfl)
        refine r_aload0 (pc := 92) C dX9_expression_92 ?_
        refine gX9_251 (pc := 93) C dX9_expression_93 ?_
        refine r_eqi f0 ?_
        refine r_if_ne (pc := 96) 131 C dX9_expression_96 (by decide) (fun c96 => ?_) (fun c96 => ?_)
        · exact absurd c96 (fun h => h rfl)
        refine r_aload0 (pc := 99) C dX9_expression_99 ?_
        refine gX9_20 (pc := 100) C dX9_expression_100 ?_
        refine r_aload0 (pc := 103) C dX9_expression_103 ?_
        refine gX9_254 (pc := 104) C dX9_expression_104 ?_
        refine r_eqi t0 ?_
        refine r_iald (pc := 107) (_) C dX9_expression_107 aM5 (rfl) (by omega) ?_
        refine r_eqi (y := nI 2) (by rw [hx.2.2.2.2.2.2.2.2.2.2.2.1.1 5 (by unfold xS; decide)]; exact hkd) ?_
        refine r_bipush (pc := 108) (v := nI 25) C dX9_expression_108 (by decide) ?_
        refine r_icmp_lt (pc := 110) 131 C dX9_expression_110 (by decide) (fun c110 => ?_) (fun c110 => ?_)
        rotate_left
        · exact absurd c110 (fun h => h (by decide))
        refine r_iconst (pc := 131) (v := nI 0) C dX9_expression_131 (by decide) ?_
        refine r_istore3 (pc := 132) C dX9_expression_132 rfl ?_
        refine r_aload0 (pc := 133) C dX9_expression_133 ?_
        refine r_iconst (pc := 134) (v := nI 2) C dX9_expression_134 (by decide) ?_
        refine r_callVi (pc := 135) C rfl dX9_expression_135 kX9_269 gF9 jM (tX9_is Z.1 C.w t0 (by omega)) rfl rfl (Nat.le_of_ble_eq_true rfl) (by decide) (fun x135 G135 h135 => ?_)
        obtain ⟨rfl, h135b⟩ := h135
        have h135b := h135b.symm
        subst h135b
        rw [isB_t f0 (by rw [hx.2.2.2.2.2.2.2.2.2.2.2.1.1 5 (by unfold xS; decide)]; exact hkd)]
        refine r_if_ne (pc := 138) 150 C dX9_expression_138 (by decide) (fun c138 => ?_) (fun c138 => ?_)
        rotate_left
        · exact absurd c138 (by decide)
        refine r_aload0 (pc := 150) C dX9_expression_150 ?_
        refine gX9_251 (pc := 151) C dX9_expression_151 ?_
        refine r_eqi f0 ?_
        refine r_if_le (pc := 154) 158 C dX9_expression_154 (by decide) (fun c154 => ?_) (fun c154 => ?_)
        rotate_left
        · exact absurd c154 (fun h => h (by decide))
        refine r_iload3 (pc := 158) C dX9_expression_158 ?_
        refine r_if_eq (pc := 159) 182 C dX9_expression_159 (by decide) (fun c159 => ?_) (fun c159 => ?_)
        rotate_left
        · exact absurd c159 (fun h => h rfl)
        refine r_aload0 (pc := 182) C dX9_expression_182 ?_
        refine r_iconst (pc := 183) (v := nI 0) C dX9_expression_183 (by decide) ?_
        refine r_aload0 (pc := 184) C dX9_expression_184 ?_
        refine gX9_27 (pc := 185) C dX9_expression_185 ?_
        refine r_aload0 (pc := 188) C dX9_expression_188 ?_
        refine gX9_254 (pc := 189) C dX9_expression_189 ?_
        refine r_eqi t0 ?_
        refine r_iald (pc := 192) (_) C dX9_expression_192 aM7 (rfl) (by omega) ?_
        refine r_eqi (y := nI x) (by rw [hx.2.2.2.2.2.2.2.2.2.2.2.1.1 7 (by unfold xS; decide)]; exact hvl) ?_
        refine r_callVv (pc := 193) C rfl dX9_expression_193 kX9_311 gF9 jM (tX9_emit Z.1 C.w (c := cc) hx.2.2.2.2.2.2.2.2.1 (by have := hx.2.2.2.2.2.1; omega)) rfl rfl (Nat.le_of_ble_eq_true rfl) (by decide) (fun G193 h193 => ?_)
        subst h193
        refine r_aload0 (pc := 196) C dX9_expression_196 ?_
        refine r_callVv (pc := 197) C rfl dX9_expression_197 kX9_272 gF9 jM (tX9_next Z.1 C.w (t := k) (by rw [em_o (by decide)]; exact t0) (by omega)) rfl rfl (Nat.le_of_ble_eq_true rfl) (by decide) (fun G197 h197 => ?_)
        subst h197
        have hxe := hx.em (a := nI 0) (b := nI x) (x := fun _ => nI x) (by omega) hk4 (fun v => Or.inl ⟨rfl, rfl⟩)
        by_cases h400 : k = 400
        · have hR := hlv.1 h400
          have e6 : G1.1 6 k = nI (tkT B n k).2.2.1 := by rw [hx.2.2.2.2.2.2.2.2.2.2.2.1.1 6 (by unfold xS; decide)]; exact htk.2
          rw [nF_4 h400 (by rw [em_o (by decide)]; exact f0)]
          refine finT k (k + 1) o (cc + 1) E _ _ _ _ _ (hxe.tf (k + 1) (Nat.le_refl _) (by omega)) (by omega) (by rw [sI_s, upd_o (by decide), sI_s, upd_o (by decide), em_o (by decide)]; exact t0) (by omega) ⟨2, by decide, by decide, by rw [sI_s, upd_o (by decide), sI_s, upd_s], hR.1, ?_⟩
          rw [sI_s, upd_s, em_6, hR.2, ← e6]
        · rw [nF_g h400]
          have hlv3 := hlv.2 h400
          rw [hxv, if_neg (by decide)] at hlv3
          exact loop6 _ (k + 1) o (cc + 1) E ((nI x) :: c1) _ _ _ _ rfl (by omega) hlv3 (fun v => ⟨_, hc v, Or.inl ⟨opnd_nI (by omega), (by rw [List.length_append, hx.2.2.2.1 v]; have := nz_le E; have := hl0 v; omega), by rw [valP_i (by omega)]; rfl⟩⟩) (hxe.tn (k + 1) (Nat.le_refl _) (by omega)) (by rw [sI_s, upd_s]) (by rw [sI_s, upd_o (by decide), em_o (by decide)]; exact f0)
      · have hR := lv5_bad hL1 hs2 hs3 hs10
        refine r_iload2 (pc := 12) C dX9_expression_12 ?_
        refine r_if_eq (pc := 13) 360 C dX9_expression_13 (by decide) (fun c13 => ?_) (fun c13 => ?_)
        · exact absurd c13 (by decide)
        refine r_aload0 (pc := 16) C dX9_expression_16 ?_
        refine gX9_251 (pc := 17) C dX9_expression_17 ?_
        refine r_eqi f0 ?_
        refine r_if_ne (pc := 20) 360 C dX9_expression_20 (by decide) (fun c20 => ?_) (fun c20 => ?_)
        · exact absurd c20 (fun h => h rfl)
        refine r_aload0 (pc := 23) C dX9_expression_23 ?_
        refine r_bipush (pc := 24) (v := nI 6) C dX9_expression_24 (by decide) ?_
        refine r_callVi (pc := 26) C rfl dX9_expression_26 kX9_269 gF9 jM (tX9_is Z.1 C.w t0 (by omega)) rfl rfl (Nat.le_of_ble_eq_true rfl) (by decide) (fun x26 G26 h26 => ?_)
        obtain ⟨rfl, h26b⟩ := h26
        have h26b := h26b.symm
        subst h26b
        rw [isB_f (by rw [hx.2.2.2.2.2.2.2.2.2.2.2.1.1 5 (by unfold xS; decide)]; exact hk6)]
        refine r_if_eq (pc := 29) 92 C dX9_expression_29 (by decide) (fun c29 => ?_) (fun c29 => ?_)
        rotate_left
        · exact absurd c29 (fun h => h rfl)
        refine r_aload0 (pc := 92) C dX9_expression_92 ?_
        refine gX9_251 (pc := 93) C dX9_expression_93 ?_
        refine r_eqi f0 ?_
        refine r_if_ne (pc := 96) 131 C dX9_expression_96 (by decide) (fun c96 => ?_) (fun c96 => ?_)
        · exact absurd c96 (fun h => h rfl)
        refine r_aload0 (pc := 99) C dX9_expression_99 ?_
        refine gX9_20 (pc := 100) C dX9_expression_100 ?_
        refine r_aload0 (pc := 103) C dX9_expression_103 ?_
        refine gX9_254 (pc := 104) C dX9_expression_104 ?_
        refine r_eqi t0 ?_
        refine r_iald (pc := 107) (_) C dX9_expression_107 aM5 (rfl) (by omega) ?_
        refine r_eqi (y := G.1 5 k) (by rw [hx.2.2.2.2.2.2.2.2.2.2.2.1.1 5 (by unfold xS; decide)]) ?_
        refine r_bipush (pc := 108) (v := nI 25) C dX9_expression_108 (by decide) ?_
        refine r_icmp_lt (pc := 110) 131 C dX9_expression_110 (by decide) (fun c110 => ?_) (fun c110 => ?_)
        rotate_left
        · exact absurd c110 (fun h => h hk25)
        refine r_iconst (pc := 131) (v := nI 0) C dX9_expression_131 (by decide) ?_
        refine r_istore3 (pc := 132) C dX9_expression_132 rfl ?_
        refine r_aload0 (pc := 133) C dX9_expression_133 ?_
        refine r_iconst (pc := 134) (v := nI 2) C dX9_expression_134 (by decide) ?_
        refine r_callVi (pc := 135) C rfl dX9_expression_135 kX9_269 gF9 jM (tX9_is Z.1 C.w t0 (by omega)) rfl rfl (Nat.le_of_ble_eq_true rfl) (by decide) (fun x135 G135 h135 => ?_)
        obtain ⟨rfl, h135b⟩ := h135
        have h135b := h135b.symm
        subst h135b
        rw [isB_f (by rw [hx.2.2.2.2.2.2.2.2.2.2.2.1.1 5 (by unfold xS; decide)]; exact hk2)]
        refine r_if_ne (pc := 138) 150 C dX9_expression_138 (by decide) (fun c138 => ?_) (fun c138 => ?_)
        · exact absurd c138 (fun h => h rfl)
        refine r_iload3 (pc := 141) C dX9_expression_141 ?_
        refine r_if_ne (pc := 142) 150 C dX9_expression_142 (by decide) (fun c142 => ?_) (fun c142 => ?_)
        · exact absurd c142 (fun h => h rfl)
        refine r_aload0 (pc := 145) C dX9_expression_145 ?_
        refine r_iconst (pc := 146) (v := nI 1) C dX9_expression_146 (by decide) ?_
        refine r_callVv (pc := 147) C rfl dX9_expression_147 kX9_266 gF9 jM (tX9_fail Z.1 C.w t0 (by omega)) rfl rfl (Nat.le_of_ble_eq_true rfl) (by decide) (fun G147 h147 => ?_)
        rw [fF_0 f0] at h147
        subst h147
        refine r_aload0 (pc := 150) C dX9_expression_150 ?_
        refine gX9_251 (pc := 151) C dX9_expression_151 ?_
        refine r_eqi (y := nI 1) (by rw [sI_s, upd_o (by decide), sI_s, upd_s]) ?_
        refine r_if_le (pc := 154) 158 C dX9_expression_154 (by decide) (fun c154 => ?_) (fun c154 => ?_)
        · exact absurd c154 (by decide)
        exact r_return (pc := 157) C dX9_expression_157 (⟨hx.2.2.2.2.2.2.2.2.2.2.2.w ((Fr.refl.sI (Or.inr rfl)).sI (Or.inr rfl)) (fun q a b c d e f => by rw [sI_s, upd_o d, sI_s, upd_o c]), Or.inl ⟨k, by rw [sI_s, upd_o (by decide), sI_s, upd_o (by decide)]; exact t0, by omega, ⟨1, by decide, by decide, by rw [sI_s, upd_o (by decide), sI_s, upd_s], hR.1, by rw [sI_s, upd_s, hR.2, ← htk.2, hx.2.2.2.2.2.2.2.2.2.2.2.1.1 6 (by unfold xS; decide)]⟩⟩⟩)
  refine r_aload0 (pc := 0) C dX9_expression_0 ?_
  refine r_iconst (pc := 1) (v := nI 0) C dX9_expression_1 (by decide) ?_
  refine pX9_308 (pc := 2) C dX9_expression_2 ?_
  refine r_aload0 (pc := 5) C dX9_expression_5 ?_
  refine gX9_278 (pc := 6) C dX9_expression_6 ?_
  refine r_eqi (y := nI 0) (by rw [sI_s, upd_o (by decide)]; exact ho0) ?_
  refine r_istore1 (pc := 9) C dX9_expression_9 rfl ?_
  refine r_iconst (pc := 10) (v := nI 1) C dX9_expression_10 (by decide) ?_
  refine r_istore2 (pc := 11) C dX9_expression_11 rfl ?_
  refine loop5 _ kb 0 cd [] c0 (fun _ => []) none none _ rfl (Nat.le_refl _) hL hK ⟨fun x hx => by simp at hx, rfl, fun v => by rw [Nat.sub_self]; rfl, fun v => rfl, Nat.le_refl _, by simp, by have := hL.1; omega, by rw [sI_s, upd_o (by decide)]; exact ho0, by rw [sI_s, upd_o (by decide)]; exact hcd0, by rw [sI_s, upd_s]; rfl, fun k hk => by simp at hk, ⟨Fr.refl.sI (by unfold xS; simp), fun q a b c d e f => by rw [sI_s, upd_o f], fun j hj => by rw [sI_o (by decide), sI_o (by decide)]; exact ⟨rfl, rfl⟩⟩⟩ (by rw [sI_s, upd_o (by decide)]; exact ht0) (by rw [sI_s, upd_o (by decide)]; exact hf0)
set_option maxHeartbeats 4000000 in
set_option maxRecDepth 100000 in
theorem tX9_expressionF (Y : gY) (hY : Y.2.2.2 = wM) {G : gS} (hf : ¬ G.1 100 13 = 0) : ∀ l : Launch, gM Y l yX9_expression cX9_expression 5 none (2, 44) [.ref (Y.2.1 (100))] G (qv (fun G' => G' = sI G 100 35 (nI 0))) := by
  intro l
  refine gM_of hY rfl (Nat.le_of_ble_eq_true rfl) [some (.ref (Y.2.1 (100))), none, none, none, none] rfl rfl ?_
  rintro Z rfl C
  refine r_aload0 (pc := 0) C dX9_expression_0 ?_
  refine r_iconst (pc := 1) (v := nI 0) C dX9_expression_1 (by decide) ?_
  refine pX9_308 (pc := 2) C dX9_expression_2 ?_
  refine r_aload0 (pc := 5) C dX9_expression_5 ?_
  refine gX9_278 (pc := 6) C dX9_expression_6 ?_
  refine r_istore1 (pc := 9) C dX9_expression_9 rfl ?_
  refine r_iconst (pc := 10) (v := nI 1) C dX9_expression_10 (by decide) ?_
  refine r_istore2 (pc := 11) C dX9_expression_11 rfl ?_
  refine r_iload2 (pc := 12) C dX9_expression_12 ?_
  refine r_if_eq (pc := 13) 360 C dX9_expression_13 (by decide) (fun c13 => ?_) (fun c13 => ?_)
  · exact absurd c13 (by decide)
  refine r_aload0 (pc := 16) C dX9_expression_16 ?_
  refine gX9_251 (pc := 17) C dX9_expression_17 ?_
  refine r_eqi (y := G.1 100 13) (by rw [sI_s, upd_o (by decide)]) ?_
  refine r_if_ne (pc := 20) 360 C dX9_expression_20 (by decide) (fun c20 => ?_) (fun c20 => ?_)
  rotate_left
  · exact absurd c20 (hf)
  exact r_return (pc := 360) C dX9_expression_360 (rfl)
