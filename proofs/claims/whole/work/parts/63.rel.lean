/-! the class and the reference, side by side -/
def kpR (GC GM : gS) (jk nk lv : Nat → Nat) (k : Nat) : Prop := GM.1 18 k = nI (lv k) ∧ lv k < 2 ∧ ∃ (rs : List pR) (qs : List qR) (cd : Nat), RS GC (jk k) true rs ∧ rsQ rs qs ∧ nk k = rs.length ∧ rs.length ≤ 20 ∧ lenC rs ≤ 400 ∧ pgL GM (2 * k + lv k) cd qs ∧ cd ≤ 500 * (2 * k + lv k) + 400 ∧ 3 * rlT qs ≤ 400 ∧ GM.1 20 (2 * k + lv k) = nI qs.length
/-- what both have been told -/
def told (GC GM : gS) (mc fc wd nf : Nat) (jk nk lv : Nat → Nat) : Prop :=
  (GC.1 6 1 = nI mc ∧ GM.1 100 36 = nI mc ∧ mc ≤ 8) ∧ (GC.1 6 4 = nI fc ∧ GM.1 100 41 = nI fc ∧ fc ≤ 6) ∧
  (∀ f, f < fc → GC.1 8 f = nI (cN (GC.1 8 f)) ∧ 1 ≤ cN (GC.1 8 f) ∧ cN (GC.1 8 f) ≤ 12 ∧ GM.1 42 f = GC.1 8 f ∧ GM.1 43 f = GC.1 9 f ∧ (GC.1 9 f = -1 ∨ 0 ≤ GC.1 9 f)) ∧
  (GC.1 6 5 = nI wd ∧ GM.1 100 44 = nI wd ∧ 1 ≤ wd ∧ wd ≤ 8) ∧ (∀ k, k < 4 → GM.1 40 k = GC.1 10 k) ∧ (GC.1 11 0 = nI nf ∧ GM.1 100 45 = nI nf ∧ nf ≤ 200) ∧
  (∀ t, t < 300 → ∀ i, i < 8 → GM.1 46 (300 * i + t) = bI (bt (GC.1 12 t) i) ∧ GM.1 47 (300 * i + t) = bI (bt (GC.1 12 t) (8 + i))) ∧
  (∀ t, t < 300 → ∀ k, k < 2 → GM.1 48 (300 * k + t) = bI (bt (GC.1 12 t) (16 + k))) ∧
  (∀ t, t < 300 → ∀ b, b < 72 → GM.1 49 (300 * b + t) = bI (wrC GC t b)) ∧
  (∀ t i, t < 300 → i < 8 → bt (GC.1 12 t) (8 + i) = true → ¬ GC.1 11 1 < nI t) ∧
  kOk mc (mF GC) ∧ (∀ i, i < mc → ∀ k, k < 3 → mmF GM i k = mF GC i k) ∧ keepOk GC jk nk ∧ ∀ k, k < 2 → kpR GC GM jk nk lv k
theorem told.rel {GC GM : gS} {mc fc wd nf : Nat} {jk nk lv : Nat → Nat} (h : told GC GM mc fc wd nf jk nk lv) : relM GM (hC GC jk nk mc) fc wd ∧ hOk (hC GC jk nk mc) fc ∧ ∀ k, k < 2 → ∀ v, hAn (hC GC jk nk mc) k v = -1 ∨ hAn (hC GC jk nk mc) k v = -2 ∨ 0 ≤ hAn (hC GC jk nk mc) k v := by
  obtain ⟨⟨a1, a2, a3⟩, ⟨b1, b2, b3⟩, c1, ⟨d1, d2, d3, d4⟩, e1, f1, g1, g2, g3, g4, i1, i2, i3, i4⟩ := h
  have hch : ∀ k, k < 2 → ∀ v, ∃ qs : List qR, hAn (hC GC jk nk mc) k v = chR (hFc (hC GC jk nk mc)) (afQ qs) (fun r => hm v (rlQ qs r)) (nuQ qs) qs.length 0 (-1) ∧ ∀ r, r < qs.length → ∃ x, x ≤ 9999 ∧ nuQ qs r = nI x := by
    intro k hk v
    obtain ⟨j1, j2, rs, qs, cd, j3, j4, j5, j6, j7, -⟩ := i4 k hk
    refine ⟨qs, ?_, qs_num j4⟩
    show chC GC (jk k) (nk k) v (GC.1 6 4) = _
    rw [j5, (rl_ch j3 j4 j7 v (GC.1 6 4)).1, j4.len]
    rfl
  refine ⟨⟨a2, a3, by rw [b2]; exact b1.symm, b1, b3, by rw [d2]; exact d1.symm, d1, d3, d4, fun f hf => ⟨(c1 f hf).2.2.2.1, (c1 f hf).2.2.2.2.1⟩, e1, fun i hi t ht => ⟨(g1 t ht i (Nat.lt_of_lt_of_le hi a3)).2, (g1 t ht i (Nat.lt_of_lt_of_le hi a3)).1⟩, fun k hk t ht => g2 t ht k hk, fun b hb t ht => g3 t ht b hb, fun k hk => ?_⟩, ⟨a3, b1, b3, fun f hf => ⟨(c1 f hf).1, (c1 f hf).2.1, (c1 f hf).2.2.1⟩, fun f hf => (c1 f hf).2.2.2.2.2, fun k v hv => ?_⟩, fun k hk v => ?_⟩
  · refine ⟨fun v v' hv => ⟨chC_v hv, ahC_v hv⟩, ?_⟩
    obtain ⟨j1, j2, rs, qs, cd, j3, j4, j5, j6, j7, j8, j9, j10, j11⟩ := i4 k hk
    refine ⟨lv k, qs.length, afQ qs, nuQ qs, rlQ qs, j1, j2, pg_ok j8 j4 j11 (by rw [← j4.len]; exact j6) j10, fun v => ?_⟩
    have := rl_ch j3 j4 j7 v (GC.1 6 4)
    refine ⟨?_, fun _ => ?_⟩
    · show chC GC (jk k) (nk k) v (GC.1 6 4) = _
      rw [j5, this.1, j4.len]
      rfl
    · show ahC GC (jk k) (nk k) v = _
      rw [j5, this.2, j4.len]
  · exact chR_lt _ _ _ hv
  · obtain ⟨qs, q1, q2⟩ := hch k hk v
    rw [q1]
    refine chR_3 _ _ _ (Or.inl rfl) (fun i _ hi => ?_)
    obtain ⟨x, hx, e⟩ := q2 i (by omega)
    rw [e]
    exact Int32.not_lt.mp (nI_pos (by omega))
/-- the class's roles that hold what it was told -/
def cT (q : Nat) : Prop := q = 6 ∨ (8 ≤ q ∧ q ≤ 12) ∨ (40 ≤ q ∧ q < 100)
theorem told.fr {GC GM GC' GM' : gS} {mc fc wd nf : Nat} {jk nk lv : Nat → Nat} (h : told GC GM mc fc wd nf jk nk lv) (hc : ∀ q, cT q → GC'.1 q = GC.1 q) (hl : GC'.2.1 13 = GC.2.1 13) (hr : GC'.2.2 = GC.2.2) (hm : ∀ q, relS q → GM'.1 q = GM.1 q) (h36 : GM'.1 100 36 = GM.1 100 36) (h41 : GM'.1 100 41 = GM.1 100 41) (h44 : GM'.1 100 44 = GM.1 100 44) (h45 : GM'.1 100 45 = GM.1 100 45) (hk : ∀ i, i < mc → ∀ k, k < 3 → mF GC' i k = mF GC i k ∧ mmF GM' i k = mmF GM i k) : told GC' GM' mc fc wd nf jk nk lv := by
  obtain ⟨a, b, c1, d, e1, f1, g1, g2, g3, g4, i1, i2, i3, i4⟩ := h
  have m18 := hm 18 (by unfold relS; omega)
  have m20 := hm 20 (by unfold relS; omega)
  have m40 := hm 40 (by unfold relS; omega)
  have m42 := hm 42 (by unfold relS; omega)
  have m43 := hm 43 (by unfold relS; omega)
  have m46 := hm 46 (by unfold relS; omega)
  have m47 := hm 47 (by unfold relS; omega)
  have m48 := hm 48 (by unfold relS; omega)
  have m49 := hm 49 (by unfold relS; omega)
  have c6 := hc 6 (by unfold cT; omega)
  have c8 := hc 8 (by unfold cT; omega)
  have c9 := hc 9 (by unfold cT; omega)
  have c10 := hc 10 (by unfold cT; omega)
  have c11 := hc 11 (by unfold cT; omega)
  have c12 := hc 12 (by unfold cT; omega)
  have hj := i3.1
  unfold told
  rw [c6, c8, c9, c10, c11, c12, h36, h41, h44, h45, m40, m42, m43, m46, m47, m48, m49]
  refine ⟨a, b, c1, d, e1, f1, g1, g2, fun t ht q hq => ?_, g4, fun i hi => ?_, fun i hi k hk3 => ?_, ⟨hj, fun k hk2 => ⟨by rw [hr]; exact (i3.2 k hk2).1, ?_⟩⟩, fun k hk2 => ?_⟩
  · unfold wrC
    rw [hl]
    exact g3 t ht q hq
  · unfold kN
    rw [(hk i hi 0 (by decide)).1]
    exact i1 i hi
  · rw [(hk i hi k hk3).1, (hk i hi k hk3).2]
    exact i2 i hi k hk3
  · have := (i3.2 k hk2).2
    have := hj k
    unfold RW
    rw [hc (40 + jk k) (by unfold cT; omega), hc (70 + jk k) (by unfold cT; omega), hc (80 + jk k) (by unfold cT; omega), hc (90 + jk k) (by unfold cT; omega)]
    assumption
  · obtain ⟨j1, j2, rs, qs, cd, j3, j4, j5, j6, j7, j8, j9, j10, j11⟩ := i4 k hk2
    have := hj k
    refine ⟨by rw [m18]; exact j1, j2, rs, qs, cd, ?_, j4, j5, j6, j7, ?_, j9, j10, by rw [m20]; exact j11⟩
    · unfold RS
      rw [hc (40 + jk k) (by unfold cT; omega), hc (50 + jk k) (by unfold cT; omega), hc (60 + jk k) (by unfold cT; omega), hc (70 + jk k) (by unfold cT; omega), hc (80 + jk k) (by unfold cT; omega), hc (90 + jk k) (by unfold cT; omega)]
      exact j3
    · exact pgL.ext (Nat.le_refl _) (by omega) (fun j _ _ => by rw [hm 32 (by unfold relS; omega), hm 33 (by unfold relS; omega)]; exact ⟨rfl, rfl⟩) j8 (fun p pa pb j _ _ => by rw [hm p (by unfold relS; omega)]) (fun p pa pb j _ _ => by rw [hm p (by unfold relS; omega)])
theorem hC_cT {GC GC' : gS} {jk nk : Nat → Nat} {mc : Nat} (hc : ∀ q, cT q → GC'.1 q = GC.1 q) (hl : GC'.2.1 13 = GC.2.1 13) (hj : ∀ k, jk k < 3) : hC GC' jk nk mc = hC GC jk nk mc := by
  have c6 := hc 6 (by unfold cT; omega)
  have c8 := hc 8 (by unfold cT; omega)
  have c9 := hc 9 (by unfold cT; omega)
  have c10 := hc 10 (by unfold cT; omega)
  have c12 := hc 12 (by unfold cT; omega)
  have e1 : wrC GC' = wrC GC := by
    funext t b
    unfold wrC
    rw [hl]
  have hx : ∀ k, GC'.1 (50 + jk k) = GC.1 (50 + jk k) ∧ GC'.1 (60 + jk k) = GC.1 (60 + jk k) ∧ GC'.1 (70 + jk k) = GC.1 (70 + jk k) ∧ GC'.1 (80 + jk k) = GC.1 (80 + jk k) ∧ GC'.1 (90 + jk k) = GC.1 (90 + jk k) := by
    intro k
    have := hj k
    exact ⟨hc _ (by unfold cT; omega), hc _ (by unfold cT; omega), hc _ (by unfold cT; omega), hc _ (by unfold cT; omega), hc _ (by unfold cT; omega)⟩
  have e2 : anC GC' jk nk = anC GC jk nk := by
    funext k v
    obtain ⟨x1, x2, x3, x4, x5⟩ := hx k
    unfold anC chC holdC aftC
    rw [x1, x2, x3, x4, x5, c6]
  have e3 : ahF GC' jk nk = ahF GC jk nk := by
    funext k v
    obtain ⟨x1, x2, x3, x4, x5⟩ := hx k
    unfold ahF ahC holdC aftC
    rw [x1, x2, x3, x4, x5]
  unfold hC
  rw [c6, c8, c9, c10, c12, e1, e2, e3]
/-- whether both have run, and alike -/
def ran (GC GM : gS) (mc : Nat) (jk nk : Nat → Nat) (st : Bool) : Prop := GC.1 0 4 = bI st ∧ ((st = true ∧ GM.1 100 53 = 0) ∨ (st = false ∧ ∃ s0 : rS, kOk mc s0.1 ∧ (∀ i, i < mc → ∀ k, k < 3 → s0.1 i k = mF GC i k) ∧ stR GC = itN (tkF (hC GC jk nk mc) true) 300 (rsF (hC GC jk nk mc) s0) ∧ gnD GM (hC GC jk nk mc) (cr s0)))
theorem ran.ok {GC GM : gS} {mc fc wd nf : Nat} {jk nk lv : Nat → Nat} {st : Bool} (h : told GC GM mc fc wd nf jk nk lv) (hr : ran GC GM mc jk nk st) : runOk GC mc fc jk nk st := ⟨h.1.1, h.1.2.2, h.2.2.2.2.2.2.2.2.2.2.1, h.2.2.2.2.2.2.2.2.2.2.2.2.1, h.rel.2.1, hr.1⟩
/-- both answer out of the same run -/
theorem ran.go {GC GM : gS} {mc fc wd nf : Nat} {jk nk lv : Nat → Nat} {st : Bool} (h : told GC GM mc fc wd nf jk nk lv) (hr : ran GC GM mc jk nk st) : ∃ s0 : rS, kOk mc s0.1 ∧ goH GM (hC GC jk nk mc) fc wd (cr s0) ∧ ∀ GC' GM', frP (hC GC jk nk mc) st GC GC' → frG GM GM' → gnD GM' (hC GC jk nk mc) (cr s0) → stR GC' = itN (tkF (hC GC jk nk mc) true) 300 (rsF (hC GC jk nk mc) s0) ∧ told GC' GM' mc fc wd nf jk nk lv ∧ ran GC' GM' mc jk nk false ∧ hC GC' jk nk mc = hC GC jk nk mc := by
  obtain ⟨R1, R2, R3⟩ := h.rel
  have hk := h.2.2.2.2.2.2.2.2.2.2.1
  have h3 := h.2.2.2.2.2.2.2.2.2.2.2.1
  have hj := h.2.2.2.2.2.2.2.2.2.2.2.2.1.1
  have key : ∀ s0 : rS, kOk mc s0.1 → (∀ i, i < mc → ∀ k, k < 3 → s0.1 i k = mF GC i k) → ∀ GC' GM', stR GC' = itN (tkF (hC GC jk nk mc) true) 300 (rsF (hC GC jk nk mc) s0) → GC'.1 0 4 = nI 0 → Fr (fun q => sP q ∨ q = 0) GC GC' → frG GM GM' → gnD GM' (hC GC jk nk mc) (cr s0) → stR GC' = itN (tkF (hC GC jk nk mc) true) 300 (rsF (hC GC jk nk mc) s0) ∧ told GC' GM' mc fc wd nf jk nk lv ∧ ran GC' GM' mc jk nk false ∧ hC GC' jk nk mc = hC GC jk nk mc := by
    intro s0 k1 k2 GC' GM' e1 e2 e3 e4 e5
    have hcT : ∀ q, cT q → GC'.1 q = GC.1 q := fun q hq => e3.1 q (sP0_no (by unfold cT at hq; omega) (by unfold cT at hq; omega))
    have hl : GC'.2.1 13 = GC.2.1 13 := e3.2.1 13 (sP0_no (by omega) (by decide))
    have hh : hC GC' jk nk mc = hC GC jk nk mc := hC_cT hcT hl hj
    have eF : mF GC' = (ctR (hC GC jk nk mc) (cr s0) 300).1 := by
      have := cr_ct (hC GC jk nk mc) true s0 300
      rw [← e1] at this
      exact congrArg Prod.fst this
    have hK := K3_run (hC GC jk nk mc) (F := (cr s0).1) (c := cr s0) (fun i => k3.refl) 300
    have hrow : ∀ i, i < mc → ∀ k, k < 3 → mF GC' i k = mF GC i k := by
      intro i hi k hk3
      rw [eF, ← k2 i hi k hk3]
      rcases (show k = 0 ∨ k = 1 ∨ k = 2 by omega) with rfl | rfl | rfl
      · exact (hK i).1
      · exact (hK i).2.1
      · exact (hK i).2.2
    refine ⟨e1, h.fr hcT hl e3.2.2 (fun q hq => e4.1.1 q (relS_gn q hq)) (e4.2 36 (by decide) (by decide) (by decide)) (e4.2 41 (by decide) (by decide) (by decide)) (e4.2 44 (by decide) (by decide) (by decide)) (e4.2 45 (by decide) (by decide) (by decide)) (fun i hi k hk3 => ⟨hrow i hi k hk3, ?_⟩), ⟨e2, Or.inr ⟨rfl, s0, k1, fun i hi k hk3 => (k2 i hi k hk3).trans (hrow i hi k hk3).symm, by rw [hh]; exact e1, by rw [hh]; exact e5⟩⟩, hh⟩
    have := (e5.2.2.2.2 i hi).1 k (by omega) (by omega) (by omega)
    rw [this, ← eF, hrow i hi k hk3]
    exact (h3 i hi k hk3).symm
  rcases hr with ⟨q1, ⟨rfl, q2⟩ | ⟨rfl, s0, k1, k2, k3, k4⟩⟩
  · refine ⟨stR GC, hk, ⟨R1, R2, R3, hk, h3, Or.inl q2⟩, fun GC' GM' f1 f2 f3 => ?_⟩
    obtain ⟨f4, f5, f6⟩ := f1.2 rfl
    exact key (stR GC) hk (fun _ _ _ _ => rfl) GC' GM' f4 (by rw [f6, upd_s]) f5 f2 f3
  · refine ⟨s0, k1, ⟨R1, R2, R3, k1, fun i hi k hk3 => by rw [h3 i hi k hk3]; exact (k2 i hi k hk3).symm, Or.inr k4⟩, fun GC' GM' f1 f2 f3 => ?_⟩
    obtain rfl := f1.1 rfl
    exact key s0 k1 k2 GC' GM' k3 q1 Fr.refl f2 f3
