/-! THE GIVER's line -/
def wantB (t : Int32) (f : Nat → Int32) : Bool := decide (f 3 = nI 2 ∧ ¬ t < f 14)
def befF (F : Nat → Nat → Int32) (a b : Nat) : Prop := F a 14 < F b 14 ∨ (F a 14 = F b 14 ∧ a < b)
def lineOk (t : Int32) (mc : Nat) (F : Nat → Nat → Int32) (L : List Nat) : Prop := (∀ i, i ∈ L ↔ i < mc ∧ wantB t (F i) = true) ∧ L.Pairwise (befF F)
theorem befF_irr {F : Nat → Nat → Int32} {a : Nat} : ¬ befF F a a := by
  rintro (h | h)
  · exact Int32.lt_irrefl h
  · omega
theorem befF_asym {F : Nat → Nat → Int32} {a b : Nat} (h : befF F a b) : ¬ befF F b a := by
  rintro k
  rcases h with h | ⟨h1, h2⟩ <;> rcases k with k | ⟨k1, k2⟩
  · exact Int32.lt_asymm h k
  · rw [k1] at h; exact Int32.lt_irrefl h
  · rw [h1] at k; exact Int32.lt_irrefl k
  · omega
theorem line_uni {F : Nat → Nat → Int32} : ∀ {L M : List Nat}, L.Pairwise (befF F) → M.Pairwise (befF F) → (∀ i, i ∈ L ↔ i ∈ M) → L = M
  | [], [], _, _, _ => rfl
  | [], b :: M, _, _, h => absurd ((h b).mpr List.mem_cons_self) List.not_mem_nil
  | a :: L, [], _, _, h => absurd ((h a).mp List.mem_cons_self) List.not_mem_nil
  | a :: L, b :: M, hL, hM, h => by
    obtain ⟨hL1, hL2⟩ := List.pairwise_cons.mp hL
    obtain ⟨hM1, hM2⟩ := List.pairwise_cons.mp hM
    have hab : a = b := by
      rcases List.mem_cons.mp ((h a).mp List.mem_cons_self) with e | e
      · exact e
      · rcases List.mem_cons.mp ((h b).mpr List.mem_cons_self) with e2 | e2
        · exact e2.symm
        · exact absurd (hL1 b e2) (befF_asym (hM1 a e))
    subst hab
    congr 1
    refine line_uni hL2 hM2 (fun i => ⟨fun hi => ?_, fun hi => ?_⟩)
    · rcases List.mem_cons.mp ((h i).mp (List.mem_cons_of_mem _ hi)) with e | e
      · subst e; exact absurd (hL1 i hi) befF_irr
      · exact e
    · rcases List.mem_cons.mp ((h i).mpr (List.mem_cons_of_mem _ hi)) with e | e
      · subst e; exact absurd (hM1 i hi) befF_irr
      · exact e
noncomputable def lineC (t : Int32) (mc : Nat) (F : Nat → Nat → Int32) : List Nat := Classical.epsilon (lineOk t mc F)
theorem lineC_eq {t : Int32} {mc : Nat} {F : Nat → Nat → Int32} {L : List Nat} (h : lineOk t mc F L) : L = lineC t mc F := by
  have h2 : lineOk t mc F (lineC t mc F) := Classical.epsilon_spec ⟨L, h⟩
  exact line_uni h.2 h2.2 (fun i => (h.1 i).trans (h2.1 i).symm)
theorem line_nodup {F : Nat → Nat → Int32} {L : List Nat} (h : L.Pairwise (befF F)) : L.Nodup := by
  unfold List.Nodup
  exact h.imp (fun hab e => by subst e; exact befF_irr hab)
def insAt (L : List Nat) (a x : Nat) : List Nat := L.take a ++ x :: L.drop a
theorem insAt_len {L : List Nat} {a x : Nat} (h : a ≤ L.length) : (insAt L a x).length = L.length + 1 := by
  simp [insAt]; omega
theorem insAt_getD {L : List Nat} {a x : Nat} (h : a ≤ L.length) (k : Nat) : (insAt L a x).getD k 0 = if k < a then L.getD k 0 else if k = a then x else L.getD (k - 1) 0 := by
  have hl : (L.take a).length = a := by simp; omega
  simp only [insAt, List.getD_eq_getElem?_getD]
  by_cases h1 : k < a
  · rw [if_pos h1, List.getElem?_append_left (by omega), List.getElem?_take_of_lt h1]
  · rw [if_neg h1, List.getElem?_append_right (by omega), hl]
    by_cases h2 : k = a
    · subst h2; simp
    · rw [if_neg h2]
      obtain ⟨q, hq⟩ : ∃ q, k - a = q + 1 := ⟨k - a - 1, by omega⟩
      rw [hq, List.getElem?_cons_succ, List.getElem?_drop]
      congr 2
      omega
theorem line_skip {t : Int32} {x : Nat} {F : Nat → Nat → Int32} {L : List Nat} (h : lineOk t x F L) (hx : wantB t (F x) = false) : lineOk t (x + 1) F L := by
  refine ⟨fun i => (h.1 i).trans ⟨fun k => ⟨by omega, k.2⟩, fun k => ⟨?_, k.2⟩⟩, h.2⟩
  rcases Nat.lt_or_ge i x with g | g
  · exact g
  · obtain rfl : i = x := by omega
    rw [hx] at k; cases k.2
theorem getD_mem {L : List Nat} {k : Nat} (h : k < L.length) : L.getD k 0 ∈ L := by
  rw [List.getD_eq_getElem?_getD, List.getElem?_eq_getElem h]
  exact List.getElem_mem h
theorem mem_take_ix {L : List Nat} {a u : Nat} (h : u ∈ L.take a) : ∃ k, k < a ∧ k < L.length ∧ u = L.getD k 0 := by
  obtain ⟨k, hk, e⟩ := List.getElem_of_mem h
  have : k < a ∧ k < L.length := by simp at hk; omega
  refine ⟨k, this.1, this.2, ?_⟩
  rw [← e, List.getElem_take, List.getD_eq_getElem?_getD, List.getElem?_eq_getElem this.2]
  rfl
theorem mem_drop_ix {L : List Nat} {a u : Nat} (h : u ∈ L.drop a) : ∃ k, a ≤ k ∧ k < L.length ∧ u = L.getD k 0 := by
  obtain ⟨k, hk, e⟩ := List.getElem_of_mem h
  have : a + k < L.length := by simp at hk; omega
  refine ⟨a + k, by omega, this, ?_⟩
  rw [← e, List.getElem_drop, List.getD_eq_getElem?_getD, List.getElem?_eq_getElem this]
  rfl
theorem line_ins {t : Int32} {x a : Nat} {F : Nat → Nat → Int32} {L : List Nat} (h : lineOk t x F L) (hx : wantB t (F x) = true) (ha : a ≤ L.length) (hlo : ∀ k, k < a → ¬ F x 14 < F (L.getD k 0) 14) (hhi : ∀ k, a ≤ k → k < L.length → F x 14 < F (L.getD k 0) 14) : lineOk t (x + 1) F (insAt L a x) := by
  constructor
  · intro i
    have e : i ∈ insAt L a x ↔ i = x ∨ i ∈ L := by
      rw [insAt, List.mem_append, List.mem_cons]
      constructor
      · rintro (h1 | h1 | h1)
        · exact Or.inr (List.mem_of_mem_take h1)
        · exact Or.inl h1
        · exact Or.inr (List.mem_of_mem_drop h1)
      · rintro (h1 | h1)
        · exact Or.inr (Or.inl h1)
        · rw [← List.take_append_drop a L, List.mem_append] at h1
          exact h1.elim Or.inl (fun z => Or.inr (Or.inr z))
    rw [e, h.1 i]
    constructor
    · rintro (rfl | ⟨h1, h2⟩)
      · exact ⟨by omega, hx⟩
      · exact ⟨by omega, h2⟩
    · rintro ⟨h1, h2⟩
      rcases Nat.lt_or_ge i x with g | g
      · exact Or.inr ⟨g, h2⟩
      · exact Or.inl (by omega)
  · have hp := h.2
    rw [← List.take_append_drop a L, List.pairwise_append] at hp
    obtain ⟨p1, p2, p3⟩ := hp
    rw [insAt, List.pairwise_append]
    refine ⟨p1, List.pairwise_cons.mpr ⟨fun v hv => ?_, p2⟩, fun u hu v hv => ?_⟩
    · obtain ⟨k, hk1, hk2, rfl⟩ := mem_drop_ix hv
      exact Or.inl (hhi k hk1 hk2)
    · rcases List.mem_cons.mp hv with rfl | hv
      · obtain ⟨k, hk1, hk2, rfl⟩ := mem_take_ix hu
        have hux : L.getD k 0 < v := ((h.1 _).mp (getD_mem hk2)).1
        have hle := Int32.not_lt.mp (hlo k hk1)
        rcases Int32.lt_or_eq_of_le hle with g | g
        · exact Or.inl g
        · exact Or.inr ⟨g, hux⟩
      · exact p3 u hu v hv
/-- in a line those ahead have waited as long at least -/
theorem line_le {F : Nat → Nat → Int32} {L : List Nat} (h : L.Pairwise (befF F)) {k m : Nat} (hkm : k < m) (hm : m < L.length) : ¬ F (L.getD m 0) 14 < F (L.getD k 0) 14 := by
  have hb : befF F (L.getD k 0) (L.getD m 0) := by
    have := List.pairwise_iff_getElem.mp h k m (by omega) hm hkm
    rw [List.getD_eq_getElem?_getD, List.getD_eq_getElem?_getD, List.getElem?_eq_getElem (show k < L.length by omega), List.getElem?_eq_getElem hm]
    exact this
  rcases hb with g | ⟨g, -⟩
  · exact Int32.lt_asymm g
  · rw [g]; exact Int32.lt_irrefl
/-- the sendings of a TICK: how many so far, the TICK of each block's last sending, how often each was sent -/
def sdS (w t : Int32) (b : Nat) (s : Int32 × (Nat → Int32) × (Nat → Int32)) : Int32 × (Nat → Int32) × (Nat → Int32) := if w ≤ s.1 ∨ s.2.1 b = t then s else (s.1 + nI 1, upd s.2.1 b t, upd s.2.2 b (s.2.2 b + nI 1))
def sdL (w t : Int32) (F : Nat → Nat → Int32) (L : List Nat) (s : Int32 × (Nat → Int32) × (Nat → Int32)) : Int32 × (Nat → Int32) × (Nat → Int32) := L.foldl (fun s i => sdS w t (blkN (F i)) s) s
theorem sdL_full {w t : Int32} {F : Nat → Nat → Int32} : ∀ (L : List Nat) {s : Int32 × (Nat → Int32) × (Nat → Int32)}, w ≤ s.1 → sdL w t F L s = s
  | [], _, _ => rfl
  | a :: L, s, h => by
    rw [sdL, List.foldl_cons, sdS, if_pos (Or.inl h)]
    exact sdL_full L h
def rvL (step : Nat → (Nat → Int32) → Nat → Int32) (L : List Nat) (F : Nat → Nat → Int32) : Nat → Nat → Int32 := L.foldl (fun F i => va_up F i (step i (F i))) F
