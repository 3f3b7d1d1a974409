/-! each question: the same answer, and they stay side by side -/
def oth (GC GM : gS) (n jr : Nat) (jk : Nat → Nat) : Prop := (tapeOk GC n ∧ (∀ k, tB GC k < 256) ∧ GM.1 100 2 = nI n ∧ ∀ j, j < n → GM.1 1 j &&& nI 255 = nI (tB GC j)) ∧ GC.1 3 8 = GM.1 100 17 ∧ (∀ k, k < 12 → GM.2.1 9 k = lN (kyN.getD k 0)) ∧ GC.2.2 3 3 = 40 + jr ∧ jr < 3 ∧ jr ≠ jk 0 ∧ jr ≠ jk 1 ∧ jk 0 ≠ jk 1 ∧ ∀ k, 1 ≤ k → jk k = jk 1
theorem oth.fr {GC GM GC' GM' : gS} {n jr : Nat} {jk : Nat → Nat} (h : oth GC GM n jr jk) (h1 : GC'.1 1 = GC.1 1) (h2 : GC'.1 2 = GC.1 2) (h3 : GC'.1 3 8 = GC.1 3 8) (hr : GC'.2.2 = GC.2.2) (m1 : GM'.1 1 = GM.1 1) (s2 : GM'.1 100 2 = GM.1 100 2) (s17 : GM'.1 100 17 = GM.1 100 17) (l9 : GM'.2.1 9 = GM.2.1 9) : oth GC' GM' n jr jk := by
  obtain ⟨⟨a1, a2, a3, a4⟩, b, c, d⟩ := h
  unfold oth tapeOk tB
  rw [h1, h2, h3, hr, m1, s2, s17, l9]
  exact ⟨⟨a1, a2, a3, a4⟩, b, c, d⟩
def RR (GC GM : gS) : Prop := ∃ (mc fc wd nf : Nat) (jk nk lv : Nat → Nat) (st : Bool) (n jr : Nat), told GC GM mc fc wd nf jk nk lv ∧ ran GC GM mc jk nk st ∧ oth GC GM n jr jk
theorem oth.q {GC GM GC' GM' : gS} {n jr : Nat} {jk : Nat → Nat} (h : oth GC GM n jr jk) (hc : Fr (fun q => sP q ∨ q = 0) GC GC') (hm : frG GM GM') : oth GC' GM' n jr jk :=
  h.fr (hc.1 1 (sP0_no (by omega) (by decide))) (hc.1 2 (sP0_no (by omega) (by decide))) (by rw [hc.1 3 (sP0_no (by omega) (by decide))]) hc.2.2 (hm.1.1 1 (by unfold gnS sMM mrL; simp)) (hm.2 2 (by decide) (by decide) (by decide)) (hm.2 17 (by decide) (by decide) (by decide)) (hm.1.2.1 9 (by unfold gnS sMM mrL; simp))
section
variable {GC GM GC' GM' : gS} {mc fc wd nf n jr : Nat} {jk nk lv : Nat → Nat} {st : Bool} {s0 : rS} {x y : Int32}
/-- what ran.go gives, for a call that asks -/
def asked (GC GM : gS) (mc fc wd nf : Nat) (jk nk lv : Nat → Nat) (st : Bool) (s0 : rS) : Prop := kOk mc s0.1 ∧ ∀ GC' GM', frP (hC GC jk nk mc) st GC GC' → frG GM GM' → gnD GM' (hC GC jk nk mc) (cr s0) → stR GC' = itN (tkF (hC GC jk nk mc) true) 300 (rsF (hC GC jk nk mc) s0) ∧ told GC' GM' mc fc wd nf jk nk lv ∧ ran GC' GM' mc jk nk false ∧ hC GC' jk nk mc = hC GC jk nk mc
theorem asked.rr (ha : asked GC GM mc fc wd nf jk nk lv st s0) (ho : oth GC GM n jr jk) (h1 : frP (hC GC jk nk mc) st GC GC') (h2 : frG GM GM') (h3 : gnD GM' (hC GC jk nk mc) (cr s0)) : RR GC' GM' := by
  obtain ⟨e1, e2, e3, e4⟩ := ha.2 GC' GM' h1 h2 h3
  exact ⟨mc, fc, wd, nf, jk, nk, lv, false, n, jr, e2, e3, ho.q h1.fr h2⟩
theorem asked.run (ha : asked GC GM mc fc wd nf jk nk lv st s0) (h1 : frP (hC GC jk nk mc) st GC GC') (h2 : frG GM GM') (h3 : gnD GM' (hC GC jk nk mc) (cr s0)) : stR GC' = itN (tkF (hC GC jk nk mc) true) 300 (rsF (hC GC jk nk mc) s0) := (ha.2 GC' GM' h1 h2 h3).1
theorem st_cr (e : stR GC' = itN (tkF (hC GC jk nk mc) true) 300 (rsF (hC GC jk nk mc) s0)) : cr (stR GC') = ctR (hC GC jk nk mc) (cr s0) 300 := by rw [e]; exact cr_ct _ true s0 300
theorem st_rec (ht : told GC GM mc fc wd nf jk nk lv) (hk : kOk mc s0.1) (e : stR GC' = itN (tkF (hC GC jk nk mc) true) 300 (rsF (hC GC jk nk mc) s0)) {m t : Nat} (hm : m < mc) (h3 : t < 300) : ∀ w, w < 10 → rcd (GC'.2.1 16 (300 * m + t)) w = (ctR (hC GC jk nk mc) (cr s0) (t + 1)).1 m (3 + w) := by
  have h1 : GC'.2.1 16 = (itN (tkF (hC GC jk nk mc) true) 300 (rsF (hC GC jk nk mc) s0)).2.2.2.2.2.2 := by rw [← e]; rfl
  have h2 := (run_rec (hC GC jk nk mc) s0 300 (Nat.le_refl _) t h3).2 m hm
  have h4 := (iW_run ht.rel.2.1 (c := cr s0) hk (t + 1) (by omega)).2 m hm
  rw [h1, h2]
  exact rcd_snap h4.1 h4.2 (by omega)
theorem st_state (ht : told GC GM mc fc wd nf jk nk lv) (ha : asked GC GM mc fc wd nf jk nk lv st s0) (ho : oth GC GM n jr jk) (hr : ran GC GM mc jk nk st) {m t q : Int32} (h1 : if belB m (nI mc) = true ∧ belB t (nI 300) = true ∧ belB q (nI 10) = true then (frP (hC GC jk nk mc) st GC GC' ∧ x = rcd (GC'.2.1 16 (300 * cN m + cN t)) (cN q)) else (x = -1000000 ∧ GC' = GC)) (h2 : if belB m (nI (hMc (hC GC jk nk mc))) = true ∧ belB t (nI 300) = true ∧ belB q (nI 10) = true then (frG GM GM' ∧ gnD GM' (hC GC jk nk mc) (cr s0) ∧ y = (ctR (hC GC jk nk mc) (cr s0) (cN t + 1)).1 (cN m) (3 + cN q)) else (y = -1000000 ∧ GM' = GM)) : x = y ∧ RR GC' GM' := by
  have hm8 := ht.1.2.2
  by_cases hc : belB m (nI mc) = true ∧ belB t (nI 300) = true ∧ belB q (nI 10) = true
  · rw [if_pos hc] at h1
    rw [if_pos (show belB m (nI (hMc (hC GC jk nk mc))) = true ∧ belB t (nI 300) = true ∧ belB q (nI 10) = true from hc)] at h2
    obtain ⟨c1, c2, c3⟩ := hc
    obtain ⟨m, q1, rfl⟩ := belB_t c1 (by omega)
    obtain ⟨t, q2, rfl⟩ := belB_t c2 (by decide)
    obtain ⟨q, q3, rfl⟩ := belB_t c3 (by decide)
    rw [cN_nI (n := m) (by omega), cN_nI (n := t) (by omega), cN_nI (n := q) (by omega)] at h1 h2
    refine ⟨?_, ha.rr ho h1.1 h2.1 h2.2.1⟩
    rw [h1.2, h2.2.2]
    exact st_rec ht ha.1 (ha.run h1.1 h2.1 h2.2.1) q1 q2 q q3
  · rw [if_neg hc] at h1
    rw [if_neg (show ¬ (belB m (nI (hMc (hC GC jk nk mc))) = true ∧ belB t (nI 300) = true ∧ belB q (nI 10) = true) from hc)] at h2
    obtain ⟨rfl, rfl⟩ := h1
    obtain ⟨rfl, rfl⟩ := h2
    exact ⟨rfl, mc, fc, wd, nf, jk, nk, lv, st, n, jr, ht, hr, ho⟩
theorem st_sends (ht : told GC GM mc fc wd nf jk nk lv) (ha : asked GC GM mc fc wd nf jk nk lv st s0) (ho : oth GC GM n jr jk) (hr : ran GC GM mc jk nk st) {t : Int32} (h1 : if belB t (nI 300) = true then (frP (hC GC jk nk mc) st GC GC' ∧ x = GC'.1 17 (cN t)) else (x = -1 ∧ GC' = GC)) (h2 : if belB t (nI 300) = true then (frG GM GM' ∧ gnD GM' (hC GC jk nk mc) (cr s0) ∧ y = (sdR (hC GC jk nk mc) (cr s0) (cN t)).1) else (y = -1 ∧ GM' = GM)) : x = y ∧ RR GC' GM' := by
  by_cases hc : belB t (nI 300) = true
  · rw [if_pos hc] at h1 h2
    obtain ⟨t, q2, rfl⟩ := belB_t hc (by decide)
    rw [cN_nI (n := t) (by omega)] at h1 h2
    refine ⟨?_, ha.rr ho h1.1 h2.1 h2.2.1⟩
    have e := ha.run h1.1 h2.1 h2.2.1
    have e2 : GC'.1 17 = (itN (tkF (hC GC jk nk mc) true) 300 (rsF (hC GC jk nk mc) s0)).2.1 := by rw [← e]; rfl
    rw [h1.2, h2.2.2, e2]
    exact (run_rec (hC GC jk nk mc) s0 300 (Nat.le_refl _) t q2).1
  · rw [if_neg hc] at h1 h2
    obtain ⟨rfl, rfl⟩ := h1
    obtain ⟨rfl, rfl⟩ := h2
    exact ⟨rfl, mc, fc, wd, nf, jk, nk, lv, st, n, jr, ht, hr, ho⟩
/-- a FILE and a block of it, told alike -/
theorem blk_iff (ht : told GC GM mc fc wd nf jk nk lv) (f b : Int32) : (¬ f < 0 ∧ ¬ GC.1 6 4 ≤ f ∧ ¬ b < 0 ∧ ¬ GC.1 8 f.toNatClampNeg ≤ b) ↔ (¬ f < 0 ∧ ¬ GM.1 100 41 ≤ f ∧ ¬ b < 0 ∧ ¬ GM.1 42 f.toNatClampNeg ≤ b) := by
  obtain ⟨-, ⟨b1, b2, b3⟩, c1, -⟩ := ht
  rw [b1, b2]
  have key : ¬ f < 0 → ¬ nI fc ≤ f → GM.1 42 f.toNatClampNeg = GC.1 8 f.toNatClampNeg := by
    intro z1 z2
    obtain ⟨j, hj, rfl⟩ := nI_of z1
    have : j < fc := by
      rcases Nat.lt_or_ge j fc with g | g
      · exact g
      · exact absurd (nI_le g hj) z2
    rw [nI_clamp hj]
    exact (c1 j this).2.2.2.1
  constructor
  · rintro ⟨z1, z2, z3, z4⟩
    exact ⟨z1, z2, z3, by rw [key z1 z2]; exact z4⟩
  · rintro ⟨z1, z2, z3, z4⟩
    exact ⟨z1, z2, z3, by rw [← key z1 z2]; exact z4⟩
theorem st_sent (ht : told GC GM mc fc wd nf jk nk lv) (ha : asked GC GM mc fc wd nf jk nk lv st s0) (ho : oth GC GM n jr jk) (hr : ran GC GM mc jk nk st) {f b : Int32} (h1 : if (¬ f < 0 ∧ ¬ GC.1 6 4 ≤ f ∧ ¬ b < 0 ∧ ¬ GC.1 8 f.toNatClampNeg ≤ b) then (frP (hC GC jk nk mc) st GC GC' ∧ x = GC'.1 18 (cN f * 12 + cN b)) else (x = -1 ∧ GC' = GC)) (h2 : if (¬ f < 0 ∧ ¬ GM.1 100 41 ≤ f ∧ ¬ b < 0 ∧ ¬ GM.1 42 f.toNatClampNeg ≤ b) then (frG GM GM' ∧ gnD GM' (hC GC jk nk mc) (cr s0) ∧ y = (ctR (hC GC jk nk mc) (cr s0) 300).2.1 (12 * cN f + cN b)) else (y = -1 ∧ GM' = GM)) : x = y ∧ RR GC' GM' := by
  by_cases hc : (¬ f < 0 ∧ ¬ GC.1 6 4 ≤ f ∧ ¬ b < 0 ∧ ¬ GC.1 8 f.toNatClampNeg ≤ b)
  · rw [if_pos hc] at h1
    rw [if_pos ((blk_iff ht f b).mp hc)] at h2
    refine ⟨?_, ha.rr ho h1.1 h2.1 h2.2.1⟩
    have e := st_cr (ha.run h1.1 h2.1 h2.2.1)
    have e2 : GC'.1 18 = (ctR (hC GC jk nk mc) (cr s0) 300).2.1 := congrArg (fun c : rC => c.2.1) e
    rw [h1.2, h2.2.2, e2, Nat.mul_comm]
  · rw [if_neg hc] at h1
    rw [if_neg (fun z => hc ((blk_iff ht f b).mpr z))] at h2
    obtain ⟨rfl, rfl⟩ := h1
    obtain ⟨rfl, rfl⟩ := h2
    exact ⟨rfl, mc, fc, wd, nf, jk, nk, lv, st, n, jr, ht, hr, ho⟩
theorem st_mF (ha : asked GC GM mc fc wd nf jk nk lv st s0) (h1 : frP (hC GC jk nk mc) st GC GC') (h2 : frG GM GM') (h3 : gnD GM' (hC GC jk nk mc) (cr s0)) : mF GC' = (ctR (hC GC jk nk mc) (cr s0) 300).1 := congrArg (fun c : rC => c.1) (st_cr (ha.run h1 h2 h3))
theorem st_up (ha : asked GC GM mc fc wd nf jk nk lv st s0) (ho : oth GC GM n jr jk) (h1 : frP (hC GC jk nk mc) st GC GC' ∧ x = upF (mF GC') mc) (h2 : frG GM GM' ∧ gnD GM' (hC GC jk nk mc) (cr s0) ∧ y = upF (ctR (hC GC jk nk mc) (cr s0) 300).1 (hMc (hC GC jk nk mc))) : x = y ∧ RR GC' GM' := by
  refine ⟨?_, ha.rr ho h1.1 h2.1 h2.2.1⟩
  rw [h1.2, h2.2.2, st_mF ha h1.1 h2.1 h2.2.1]
  rfl
theorem st_ends (ht : told GC GM mc fc wd nf jk nk lv) (ha : asked GC GM mc fc wd nf jk nk lv st s0) (ho : oth GC GM n jr jk) (h1 : frP (hC GC jk nk mc) st GC GC' ∧ x = (if nI 300 ≤ (if GC.1 6 1 = 0 then nI 300 else GC'.1 15 6 + nI 1) then -1 else (if GC.1 6 1 = 0 then nI 300 else GC'.1 15 6 + nI 1))) (h2 : frG GM GM' ∧ gnD GM' (hC GC jk nk mc) (cr s0) ∧ y = (if hMc (hC GC jk nk mc) = 0 ∨ dnM (hC GC jk nk mc) (cr s0) 299 = false then -1 else nI (edN (dnM (hC GC jk nk mc) (cr s0)) 299))) : x = y ∧ RR GC' GM' := by
  refine ⟨?_, ha.rr ho h1.1 h2.1 h2.2.1⟩
  have e := st_cr (ha.run h1.1 h2.1 h2.2.1)
  have e2 : GC'.1 15 6 = (ctR (hC GC jk nk mc) (cr s0) 300).2.2.2.2 := congrArg (fun c : rC => c.2.2.2.2) e
  have e3 : (if GC.1 6 1 = 0 then nI 300 else GC'.1 15 6 + nI 1) = nI (enR (hC GC jk nk mc) (cr s0)) := by
    rw [ht.1.1, e2]
    exact enR_cls ht.rel.2.1 (c := cr s0) ha.1
  have hle := enR_le (hC GC jk nk mc) (cr s0)
  rw [h1.2, h2.2.2, e3, enR_ref]
  by_cases h3 : enR (hC GC jk nk mc) (cr s0) = 300
  · rw [h3, if_pos (Int32.le_refl _), if_pos rfl]
  · rw [if_neg (fun z => h3 (by have := (nI_leI (by decide) (by omega)).mp z; omega)), if_neg h3]
theorem chgF_cong {p q : Nat → Int32} {ix : Int32} : ∀ (k t : Nat) (b c : Int32), (∀ u, t ≤ u → u < t + k → p u = q u) → chgF p ix k t b c = chgF q ix k t b c
  | 0, _, _, _, _ => rfl
  | k + 1, t, b, c, h => by
    rw [chgF, chgF, h t (Nat.le_refl t) (by omega), chgF_cong k (t + 1) b c (fun u x y => h u (by omega) (by omega)), chgF_cong k (t + 1) (q t) (c + nI 1) (fun u x y => h u (by omega) (by omega))]
theorem st_log (ht : told GC GM mc fc wd nf jk nk lv) (ha : asked GC GM mc fc wd nf jk nk lv st s0) (ho : oth GC GM n jr jk) (hr : ran GC GM mc jk nk st) {m ix : Int32} (h1 : if belB m (nI mc) = true ∧ 0 ≤ ix then (frP (hC GC jk nk mc) st GC GC' ∧ x = chgF (fun t => rcd (GC'.2.1 16 (300 * cN m + t)) 0) ix 300 0 (nI 0) (nI 0)) else (x = -1 ∧ GC' = GC)) (h2 : if belB m (nI (hMc (hC GC jk nk mc))) = true ∧ 0 ≤ ix then (frG GM GM' ∧ gnD GM' (hC GC jk nk mc) (cr s0) ∧ y = chgF (fun t => (ctR (hC GC jk nk mc) (cr s0) (t + 1)).1 (cN m) 3) ix 300 0 (nI 0) (nI 0)) else (y = -1 ∧ GM' = GM)) : x = y ∧ RR GC' GM' := by
  have hm8 := ht.1.2.2
  by_cases hc : belB m (nI mc) = true ∧ 0 ≤ ix
  · rw [if_pos hc] at h1
    rw [if_pos (show belB m (nI (hMc (hC GC jk nk mc))) = true ∧ 0 ≤ ix from hc)] at h2
    obtain ⟨m, q1, rfl⟩ := belB_t hc.1 (by omega)
    rw [cN_nI (n := m) (by omega)] at h1 h2
    refine ⟨?_, ha.rr ho h1.1 h2.1 h2.2.1⟩
    rw [h1.2, h2.2.2]
    exact chgF_cong _ _ _ _ (fun u _ hu => st_rec ht ha.1 (ha.run h1.1 h2.1 h2.2.1) q1 (by omega) 0 (by decide))
  · rw [if_neg hc] at h1
    rw [if_neg (show ¬ (belB m (nI (hMc (hC GC jk nk mc))) = true ∧ 0 ≤ ix) from hc)] at h2
    obtain ⟨rfl, rfl⟩ := h1
    obtain ⟨rfl, rfl⟩ := h2
    exact ⟨rfl, mc, fc, wd, nf, jk, nk, lv, st, n, jr, ht, hr, ho⟩
theorem st_answer (ht : told GC GM mc fc wd nf jk nk lv) (ha : asked GC GM mc fc wd nf jk nk lv st s0) (ho : oth GC GM n jr jk) (hr : ran GC GM mc jk nk st) {k m t : Int32} (h1 : if belB k (nI 2) = true ∧ belB m (nI mc) = true ∧ belB t (nI 300) = true then (∃ G1, frP (hC GC jk nk mc) st GC G1 ∧ Fr sQ G1 GC' ∧ x = chC GC (jk (cN k)) (nk (cN k)) (vq (G1.1 (32 + cN m) 0) (G1.1 (32 + cN m) 1) (G1.1 (32 + cN m) 2) (rcd (G1.2.1 16 (300 * cN m + cN t)) 5) (rcd (G1.2.1 16 (300 * cN m + cN t)) 6) (rcd (G1.2.1 16 (300 * cN m + cN t)) 8) (nI (cN t))) (GC.1 6 4)) else (x = -1 ∧ GC' = GC)) (h2 : if belB k (nI 2) = true ∧ belB m (nI (hMc (hC GC jk nk mc))) = true ∧ belB t (nI 300) = true then (frG GM GM' ∧ gnD GM' (hC GC jk nk mc) (cr s0) ∧ y = hAn (hC GC jk nk mc) (cN k) (vqF (nI (cN t)) ((ctR (hC GC jk nk mc) (cr s0) (cN t + 1)).1 (cN m)))) else (y = -1 ∧ GM' = GM)) : x = y ∧ RR GC' GM' := by
  have hm8 := ht.1.2.2
  by_cases hc : belB k (nI 2) = true ∧ belB m (nI mc) = true ∧ belB t (nI 300) = true
  · rw [if_pos hc] at h1
    rw [if_pos (show belB k (nI 2) = true ∧ belB m (nI (hMc (hC GC jk nk mc))) = true ∧ belB t (nI 300) = true from hc)] at h2
    obtain ⟨c1, c2, c3⟩ := hc
    obtain ⟨k, q0, rfl⟩ := belB_t c1 (by decide)
    obtain ⟨m, q1, rfl⟩ := belB_t c2 (by omega)
    obtain ⟨t, q2, rfl⟩ := belB_t c3 (by decide)
    rw [cN_nI (n := k) (by omega), cN_nI (n := m) (by omega), cN_nI (n := t) (by omega)] at h1 h2
    obtain ⟨G1, g1, g2, g3⟩ := h1
    have eF := st_mF ha g1 h2.1 h2.2.1
    have eS := ha.run g1 h2.1 h2.2.1
    have hK1 := K3_run (hC GC jk nk mc) (F := (cr s0).1) (c := cr s0) (fun i => k3.refl) 300 m
    have hK2 := K3_run (hC GC jk nk mc) (F := (cr s0).1) (c := cr s0) (fun i => k3.refl) (t + 1) m
    have e0 : ∀ q, G1.1 (32 + m) q = (ctR (hC GC jk nk mc) (cr s0) 300).1 m q := fun q => by rw [← eF, mF_i (by omega)]
    refine ⟨?_, ?_⟩
    · rw [g3, h2.2.2, e0, e0, e0, st_rec ht ha.1 eS q1 q2 5 (by decide), st_rec ht ha.1 eS q1 q2 6 (by decide), st_rec ht ha.1 eS q1 q2 8 (by decide)]
      rw [show (ctR (hC GC jk nk mc) (cr s0) 300).1 m 0 = (ctR (hC GC jk nk mc) (cr s0) (t + 1)).1 m 0 from hK1.1.trans hK2.1.symm, show (ctR (hC GC jk nk mc) (cr s0) 300).1 m 1 = (ctR (hC GC jk nk mc) (cr s0) (t + 1)).1 m 1 from hK1.2.1.trans hK2.2.1.symm, show (ctR (hC GC jk nk mc) (cr s0) 300).1 m 2 = (ctR (hC GC jk nk mc) (cr s0) (t + 1)).1 m 2 from hK1.2.2.trans hK2.2.2.symm]
      rfl
    · obtain ⟨e1, e2, e3, e4⟩ := ha.2 G1 GM' g1 h2.1 h2.2.1
      have hj := ht.2.2.2.2.2.2.2.2.2.2.2.2.1.1
      have hcT : ∀ q, cT q → GC'.1 q = G1.1 q := fun q hq => g2.1 q (by unfold cT at hq; unfold sQ; omega)
      have hl : GC'.2.1 13 = G1.2.1 13 := g2.2.1 13 (by unfold sQ; omega)
      have hmf : mF GC' = mF G1 := by
        funext i
        unfold mF
        by_cases hi : i < 8
        · rw [if_pos hi, if_pos hi, g2.1 (32 + i) (by unfold sQ; omega)]
        · rw [if_neg hi, if_neg hi]
      have hst : stR GC' = stR G1 := by
        unfold stR
        rw [hmf, g2.1 17 (by unfold sQ; omega), g2.1 18 (by unfold sQ; omega), g2.1 19 (by unfold sQ; omega), g2.1 15 (by unfold sQ; omega), g2.2.1 16 (by unfold sQ; omega)]
      have hh : hC GC' jk nk mc = hC G1 jk nk mc := hC_cT hcT hl hj
      refine ⟨mc, fc, wd, nf, jk, nk, lv, false, n, jr, e2.fr hcT hl g2.2.2 (fun _ _ => rfl) rfl rfl rfl rfl (fun i hi k hk => ⟨by rw [hmf], rfl⟩), ⟨by rw [g2.1 0 (by unfold sQ; omega)]; exact e3.1, Or.inr ⟨rfl, ?_⟩⟩, (ho.q g1.fr h2.1).fr (g2.1 1 (by unfold sQ; omega)) (g2.1 2 (by unfold sQ; omega)) (by rw [g2.1 3 (by unfold sQ; omega)]) g2.2.2 rfl rfl rfl rfl⟩
      rcases e3.2 with ⟨z, -⟩ | ⟨-, s1, z1, z2, z3, z4⟩
      · cases z
      · exact ⟨s1, z1, by rw [hmf]; exact z2, by rw [hst, hh]; exact z3, by rw [hh]; exact z4⟩
  · rw [if_neg hc] at h1
    rw [if_neg (show ¬ (belB k (nI 2) = true ∧ belB m (nI (hMc (hC GC jk nk mc))) = true ∧ belB t (nI 300) = true) from hc)] at h2
    obtain ⟨rfl, rfl⟩ := h1
    obtain ⟨rfl, rfl⟩ := h2
    exact ⟨rfl, mc, fc, wd, nf, jk, nk, lv, st, n, jr, ht, hr, ho⟩
theorem st_count (ht : told GC GM mc fc wd nf jk nk lv) (ha : asked GC GM mc fc wd nf jk nk lv st s0) (ho : oth GC GM n jr jk) (hr : ran GC GM mc jk nk st) {q : Int32} (h1 : if q = nI 0 then (x = GC.1 6 1 ∧ GC' = GC) else if q = nI 1 then (x = GC.1 6 4 ∧ GC' = GC) else if q = nI 2 then (x = GC.1 (40 + jk 0) 0 ∧ GC' = GC) else if q = nI 3 then (x = GC.1 (40 + jk 1) 0 ∧ GC' = GC) else if q = nI 4 then (x = GC.1 11 0 ∧ GC' = GC) else if q = nI 5 then (x = GC.1 6 5 ∧ GC' = GC) else if q = nI 6 then (frP (hC GC jk nk mc) st GC GC' ∧ x = GC'.1 15 5) else if q = nI 7 then (x = GC.1 1 1 ∧ GC' = GC) else (x = -1 ∧ GC' = GC)) (h2 : if q = nI 0 then (y = GM.1 100 36 ∧ GM' = GM) else if q = nI 1 then (y = GM.1 100 41 ∧ GM' = GM) else if q = nI 2 then (y = GM.1 20 (lv 0) ∧ GM' = GM) else if q = nI 3 then (y = GM.1 20 (2 + lv 1) ∧ GM' = GM) else if q = nI 4 then (y = GM.1 100 45 ∧ GM' = GM) else if q = nI 5 then (y = GM.1 100 44 ∧ GM' = GM) else if q = nI 6 then (frG GM GM' ∧ gnD GM' (hC GC jk nk mc) (cr s0) ∧ y = (ctR (hC GC jk nk mc) (cr s0) 300).2.2.2.1) else if q = nI 7 then (y = GM.1 100 2 ∧ GM' = GM) else (y = -1 ∧ GM' = GM)) : x = y ∧ RR GC' GM' := by
  have hRR : RR GC GM := ⟨mc, fc, wd, nf, jk, nk, lv, st, n, jr, ht, hr, ho⟩
  have fin : ∀ {a b : Int32}, x = a ∧ GC' = GC → y = b ∧ GM' = GM → a = b → x = y ∧ RR GC' GM' := by
    rintro a b ⟨rfl, rfl⟩ ⟨rfl, rfl⟩ e
    exact ⟨e, hRR⟩
  have kq : ∀ k, k < 2 → GC.1 (40 + jk k) 0 = GM.1 20 (2 * k + lv k) := by
    intro k hk
    obtain ⟨j1, j2, rs, qs, cd, j3, j4, j5, j6, j7, j8, j9, j10, j11⟩ := ht.2.2.2.2.2.2.2.2.2.2.2.2.2 k hk
    rw [j11, ← j4.len]
    exact j3.1
  by_cases c0 : q = nI 0
  · rw [if_pos c0] at h1 h2; exact fin h1 h2 (ht.1.1.trans ht.1.2.1.symm)
  rw [if_neg c0] at h1 h2
  by_cases c1 : q = nI 1
  · rw [if_pos c1] at h1 h2; exact fin h1 h2 (ht.2.1.1.trans ht.2.1.2.1.symm)
  rw [if_neg c1] at h1 h2
  by_cases c2 : q = nI 2
  · rw [if_pos c2] at h1 h2
    have := kq 0 (by decide)
    rw [show 2 * 0 + lv 0 = lv 0 by omega] at this
    exact fin h1 h2 this
  rw [if_neg c2] at h1 h2
  by_cases c3 : q = nI 3
  · rw [if_pos c3] at h1 h2; exact fin h1 h2 (kq 1 (by decide))
  rw [if_neg c3] at h1 h2
  by_cases c4 : q = nI 4
  · rw [if_pos c4] at h1 h2; exact fin h1 h2 (ht.2.2.2.2.2.1.1.trans ht.2.2.2.2.2.1.2.1.symm)
  rw [if_neg c4] at h1 h2
  by_cases c5 : q = nI 5
  · rw [if_pos c5] at h1 h2; exact fin h1 h2 (ht.2.2.2.1.1.trans ht.2.2.2.1.2.1.symm)
  rw [if_neg c5] at h1 h2
  by_cases c6 : q = nI 6
  · rw [if_pos c6] at h1 h2
    refine ⟨?_, ha.rr ho h1.1 h2.1 h2.2.1⟩
    rw [h1.2, h2.2.2]
    exact congrArg (fun c : rC => c.2.2.2.1) (st_cr (ha.run h1.1 h2.1 h2.2.1))
  rw [if_neg c6] at h1 h2
  by_cases c7 : q = nI 7
  · rw [if_pos c7] at h1 h2; exact fin h1 h2 (ho.1.1.1.trans ho.1.2.2.1.symm)
  rw [if_neg c7] at h1 h2
  exact fin h1 h2 rfl
end
