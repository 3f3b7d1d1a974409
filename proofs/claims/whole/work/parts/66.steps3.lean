/-! facts, MACHINES and FILES told -/
section
variable {GC GM GC' GM' : gS} {mc fc wd nf n jr : Nat} {jk nk lv : Nat → Nat} {st : Bool} {x y : Int32}
theorem rr_fact (ht : told GC GM mc fc wd nf jk nk lv) (ho : oth GC GM n jr jk) (h200 : nf < 200) (hc : ∀ q, q ≠ 0 → q ≠ 11 → q ≠ 12 → GC'.1 q = GC.1 q) (hr : GC'.2.2 = GC.2.2) (h0 : GC'.1 0 4 = nI 1) (h11 : GC'.1 11 0 = nI (nf + 1)) (hm : ∀ q, (q < 46 ∨ 49 < q) → q ≠ 100 → GM'.1 q = GM.1 q) (hm2 : GM'.2.1 9 = GM.2.1 9 ∧ GM'.2.2 = GM.2.2) (hs : ∀ q, q ≠ 45 → q ≠ 53 → GM'.1 100 q = GM.1 100 q) (h45 : GM'.1 100 45 = nI (nf + 1)) (h53 : GM'.1 100 53 = nI 0)
    (g1 : ∀ t, t < 300 → ∀ i, i < 8 → GM'.1 46 (300 * i + t) = bI (bt (GC'.1 12 t) i) ∧ GM'.1 47 (300 * i + t) = bI (bt (GC'.1 12 t) (8 + i))) (g2 : ∀ t, t < 300 → ∀ k, k < 2 → GM'.1 48 (300 * k + t) = bI (bt (GC'.1 12 t) (16 + k))) (g3 : ∀ t, t < 300 → ∀ b, b < 72 → GM'.1 49 (300 * b + t) = bI (wrC GC' t b)) (g4 : ∀ t i, t < 300 → i < 8 → bt (GC'.1 12 t) (8 + i) = true → ¬ GC'.1 11 1 < nI t) : RR GC' GM' := by
  obtain ⟨⟨a1, a2, a3⟩, ⟨b1, b2, b3⟩, c1, ⟨d1, d2, d3, d4⟩, e1, ⟨f1, f2, f3⟩, -, -, -, -, i1, i2, i3, i4⟩ := ht
  have hmf : mF GC' = mF GC := by
    funext i
    unfold mF
    by_cases hi : i < 8
    · rw [if_pos hi, if_pos hi, hc (32 + i) (by omega) (by omega) (by omega)]
    · rw [if_neg hi, if_neg hi]
  have hmm : mmF GM' = mmF GM := by
    have hin : ∀ k, k < 16 → (mr k < 46 ∨ 49 < mr k) ∧ mr k ≠ 100 := by decide +kernel
    funext i q
    unfold mmF
    by_cases hi : i < 8
    · rw [if_pos hi, if_pos hi]
      show (if q < 16 then _ else _) = (if q < 16 then _ else _)
      by_cases hq : q < 16
      · rw [if_pos hq, if_pos hq, hm (mr q) (hin q hq).1 (hin q hq).2]
      · rw [if_neg hq, if_neg hq]
    · rw [if_neg hi, if_neg hi]
  refine ⟨mc, fc, wd, nf + 1, jk, nk, lv, true, n, jr, ⟨⟨?_, ?_, a3⟩, ⟨?_, ?_, b3⟩, ?_, ⟨?_, ?_, d3, d4⟩, ?_, ⟨h11, h45, by omega⟩, g1, g2, g3, g4, ?_, ?_, ?_, ?_⟩, ran.st h0 h53, ?_⟩
  · rw [hc 6 (by decide) (by decide) (by decide)]; exact a1
  · rw [hs 36 (by decide) (by decide)]; exact a2
  · rw [hc 6 (by decide) (by decide) (by decide)]; exact b1
  · rw [hs 41 (by decide) (by decide)]; exact b2
  · rw [hc 8 (by decide) (by decide) (by decide), hc 9 (by decide) (by decide) (by decide), hm 42 (by decide) (by decide), hm 43 (by decide) (by decide)]; exact c1
  · rw [hc 6 (by decide) (by decide) (by decide)]; exact d1
  · rw [hs 44 (by decide) (by decide)]; exact d2
  · rw [hc 10 (by decide) (by decide) (by decide), hm 40 (by decide) (by decide)]; exact e1
  · rw [hmf]; exact i1
  · rw [hmf, hmm]; exact i2
  · exact i3.c (fun q a b => hc q (by omega) (by omega) (by omega)) hr
  · exact fun k hk => (i4 k hk).c (i3.1 k) (fun q a b => hc q (by omega) (by omega) (by omega)) (fun q a => hm q (by omega) (by omega)) hk
  · exact ho.c (fun q a => hc q (by omega) (by omega) (by omega)) hr (hm 1 (by decide) (by decide)) (hs 2 (by decide) (by decide)) (hs 17 (by decide) (by decide)) hm2.1
theorem nf_lt (ht : told GC GM mc fc wd nf jk nk lv) : GC.1 11 0 < nI 200 ↔ nf < 200 := by
  obtain ⟨f1, f2, f3⟩ := ht.2.2.2.2.2.1
  rw [f1]
  exact nI_ltI (by omega) (by decide)
theorem st_lose (ht : told GC GM mc fc wd nf jk nk lv) (hr : ran GC GM mc jk nk st) (ho : oth GC GM n jr jk) {m t : Int32} (h1 : if GC.1 11 0 < nI 200 ∧ belB m (nI mc) = true ∧ belB t (nI 300) = true then (x = GC.1 11 0 ∧ GC' = sI (sI (sI GC 0 4 (nI 1)) 12 (cN t) (GC.1 12 (cN t) ||| (nI 1 <<< (nI (cN m) &&& 31)))) 11 0 (GC.1 11 0 + nI 1)) else (x = -1 ∧ GC' = GC)) (h2 : if nf < 200 ∧ belB m (nI mc) = true ∧ belB t (nI 300) = true then (y = nI nf ∧ GM' = sI (sI (sI GM 46 (300 * cN m + cN t) (nI 1)) 100 45 (nI (nf + 1))) 100 53 (nI 0)) else (y = -1 ∧ GM' = GM)) : x = y ∧ RR GC' GM' := by
  have hm8 := ht.1.2.2
  by_cases hc : nf < 200 ∧ belB m (nI mc) = true ∧ belB t (nI 300) = true
  · rw [if_pos ⟨(nf_lt ht).mpr hc.1, hc.2⟩] at h1
    rw [if_pos hc] at h2
    obtain ⟨c0, c1, c2⟩ := hc
    obtain ⟨m, q1, rfl⟩ := belB_t c1 (by omega)
    obtain ⟨t, q2, rfl⟩ := belB_t c2 (by decide)
    rw [cN_nI (n := m) (by omega), cN_nI (n := t) (by omega), ht.2.2.2.2.2.1.1, nI_add] at h1
    rw [cN_nI (n := m) (by omega), cN_nI (n := t) (by omega)] at h2
    obtain ⟨rfl, rfl⟩ := h1
    obtain ⟨rfl, rfl⟩ := h2
    have e12 : ∀ u j, bt ((sI (sI (sI GC 0 4 (nI 1)) 12 t (GC.1 12 t ||| (nI 1 <<< (nI m &&& 31)))) 11 0 (nI (nf + 1))).1 12 u) j = (bt (GC.1 12 u) j || decide (u = t ∧ j = m)) := by
      intro u j
      rw [sI_o (by decide), sI_s]
      by_cases e : u = t
      · subst e; rw [upd_s, bt_set _ (by omega)]; simp
      · rw [upd_o e, sI_o (by decide)]; simp [e]
    obtain ⟨g1, g2, g3, g4⟩ := ht.2.2.2.2.2.2.1 |> fun a => (⟨a, ht.2.2.2.2.2.2.2.1, ht.2.2.2.2.2.2.2.2.1, ht.2.2.2.2.2.2.2.2.2.1⟩ : _ ∧ _ ∧ _ ∧ _)
    refine ⟨rfl, rr_fact ht ho c0 (fun q a b c => by rw [sI_o b, sI_o c, sI_o a]) rfl (by rw [sI_o (by decide), sI_o (by decide), sI_s, upd_s]) (by rw [sI_s, upd_s]) (fun q a b => by rw [sI_o b, sI_o b, sI_o (by omega)]) ⟨rfl, rfl⟩ (fun q a b => by rw [sI_s, upd_o b, sI_s, upd_o a, sI_o (by decide)]) (by rw [sI_s, upd_o (by decide), sI_s, upd_s]) (by rw [sI_s, upd_s]) (fun u hu i hi => ⟨?_, ?_⟩) (fun u hu k hk => ?_) (fun u hu b hb => ?_) (fun u i hu hi hb => ?_)⟩
    · rw [e12, sI_o (by decide), sI_o (by decide), sI_s]
      by_cases e : u = t ∧ i = m
      · obtain ⟨rfl, rfl⟩ := e
        rw [upd_s]; simp; rfl
      · rw [upd_o (by omega), (g1 u hu i hi).1, decide_eq_false e, Bool.or_false]
    · rw [e12, sI_o (by decide), sI_o (by decide), sI_o (by decide), (g1 u hu i hi).2, decide_eq_false (by omega), Bool.or_false]
    · rw [e12, sI_o (by decide), sI_o (by decide), sI_o (by decide), g2 u hu k hk, decide_eq_false (by omega), Bool.or_false]
    · rw [sI_o (by decide), sI_o (by decide), sI_o (by decide)]; exact g3 u hu b hb
    · rw [e12, decide_eq_false (by omega), Bool.or_false] at hb
      rw [sI_s, upd_o (by decide), sI_o (by decide), sI_o (by decide)]
      exact g4 u i hu hi hb
  · rw [if_neg (fun z => hc ⟨(nf_lt ht).mp z.1, z.2⟩)] at h1
    rw [if_neg hc] at h2
    obtain ⟨rfl, rfl⟩ := h1
    obtain ⟨rfl, rfl⟩ := h2
    exact ⟨rfl, mc, fc, wd, nf, jk, nk, lv, st, n, jr, ht, hr, ho⟩
theorem st_cut (ht : told GC GM mc fc wd nf jk nk lv) (hr : ran GC GM mc jk nk st) (ho : oth GC GM n jr jk) {m t : Int32} (h1 : if GC.1 11 0 < nI 200 ∧ belB m (nI mc) = true ∧ belB t (nI 300) = true then (x = GC.1 11 0 ∧ GC' = sI (sI (sI (sI GC 0 4 (nI 1)) 12 (cN t) (GC.1 12 (cN t) ||| (nI 1 <<< (nI (8 + cN m) &&& 31)))) 11 1 (if GC.1 11 1 < nI (cN t) then nI (cN t) else GC.1 11 1)) 11 0 (GC.1 11 0 + nI 1)) else (x = -1 ∧ GC' = GC)) (h2 : if nf < 200 ∧ belB m (nI mc) = true ∧ belB t (nI 300) = true then (y = nI nf ∧ GM' = sI (sI (sI GM 47 (300 * cN m + cN t) (nI 1)) 100 45 (nI (nf + 1))) 100 53 (nI 0)) else (y = -1 ∧ GM' = GM)) : x = y ∧ RR GC' GM' := by
  have hm8 := ht.1.2.2
  by_cases hc : nf < 200 ∧ belB m (nI mc) = true ∧ belB t (nI 300) = true
  · rw [if_pos ⟨(nf_lt ht).mpr hc.1, hc.2⟩] at h1
    rw [if_pos hc] at h2
    obtain ⟨c0, c1, c2⟩ := hc
    obtain ⟨m, q1, rfl⟩ := belB_t c1 (by omega)
    obtain ⟨t, q2, rfl⟩ := belB_t c2 (by decide)
    rw [cN_nI (n := m) (by omega), cN_nI (n := t) (by omega), ht.2.2.2.2.2.1.1, nI_add] at h1
    rw [cN_nI (n := m) (by omega), cN_nI (n := t) (by omega)] at h2
    obtain ⟨rfl, rfl⟩ := h1
    obtain ⟨rfl, rfl⟩ := h2
    have e12 : ∀ u j, bt ((sI (sI (sI (sI GC 0 4 (nI 1)) 12 t (GC.1 12 t ||| (nI 1 <<< (nI (8 + m) &&& 31)))) 11 1 (if GC.1 11 1 < nI t then nI t else GC.1 11 1)) 11 0 (nI (nf + 1))).1 12 u) j = (bt (GC.1 12 u) j || decide (u = t ∧ j = 8 + m)) := by
      intro u j
      rw [sI_o (by decide), sI_o (by decide), sI_s]
      by_cases e : u = t
      · subst e; rw [upd_s, bt_set _ (by omega)]; simp
      · rw [upd_o e, sI_o (by decide)]; simp [e]
    have g1 := ht.2.2.2.2.2.2.1
    have g2 := ht.2.2.2.2.2.2.2.1
    have g3 := ht.2.2.2.2.2.2.2.2.1
    have g4 := ht.2.2.2.2.2.2.2.2.2.1
    refine ⟨rfl, rr_fact ht ho c0 (fun q a b c => by rw [sI_o b, sI_o b, sI_o c, sI_o a]) rfl (by rw [sI_o (by decide), sI_o (by decide), sI_o (by decide), sI_s, upd_s]) (by rw [sI_s, upd_s]) (fun q a b => by rw [sI_o b, sI_o b, sI_o (by omega)]) ⟨rfl, rfl⟩ (fun q a b => by rw [sI_s, upd_o b, sI_s, upd_o a, sI_o (by decide)]) (by rw [sI_s, upd_o (by decide), sI_s, upd_s]) (by rw [sI_s, upd_s]) (fun u hu i hi => ⟨?_, ?_⟩) (fun u hu k hk => ?_) (fun u hu b hb => ?_) (fun u i hu hi hb => ?_)⟩
    · rw [e12, sI_o (by decide), sI_o (by decide), sI_o (by decide), (g1 u hu i hi).1, decide_eq_false (by omega), Bool.or_false]
    · rw [e12, sI_o (by decide), sI_o (by decide), sI_s]
      by_cases e : u = t ∧ i = m
      · obtain ⟨rfl, rfl⟩ := e
        rw [upd_s]; simp; rfl
      · rw [upd_o (by omega), (g1 u hu i hi).2, decide_eq_false (by omega), Bool.or_false]
    · rw [e12, sI_o (by decide), sI_o (by decide), sI_o (by decide), g2 u hu k hk, decide_eq_false (by omega), Bool.or_false]
    · rw [sI_o (by decide), sI_o (by decide), sI_o (by decide)]; exact g3 u hu b hb
    · rw [e12] at hb
      rw [sI_s, upd_o (by decide), sI_s, upd_s]
      by_cases e : u = t ∧ i = m
      · obtain ⟨rfl, rfl⟩ := e
        split
        · exact Int32.lt_irrefl
        · assumption
      · rw [decide_eq_false (by omega), Bool.or_false] at hb
        have := g4 u i hu hi hb
        split
        · rename_i z
          exact fun w => this (Int32.lt_trans z w)
        · exact this
  · rw [if_neg (fun z => hc ⟨(nf_lt ht).mp z.1, z.2⟩)] at h1
    rw [if_neg hc] at h2
    obtain ⟨rfl, rfl⟩ := h1
    obtain ⟨rfl, rfl⟩ := h2
    exact ⟨rfl, mc, fc, wd, nf, jk, nk, lv, st, n, jr, ht, hr, ho⟩
theorem st_spoil (ht : told GC GM mc fc wd nf jk nk lv) (hr : ran GC GM mc jk nk st) (ho : oth GC GM n jr jk) {f b t : Int32} (h1 : if GC.1 11 0 < nI 200 ∧ (¬ f < 0 ∧ ¬ GC.1 6 4 ≤ f ∧ ¬ b < 0 ∧ ¬ GC.1 8 f.toNatClampNeg ≤ b) ∧ belB t (nI 300) = true then (x = GC.1 11 0 ∧ GC' = sI (sL (sI GC 0 4 (nI 1)) 13 (2 * cN t + (cN f * 12 + cN b) / 36) (GC.2.1 13 (2 * cN t + (cN f * 12 + cN b) / 36) ||| ((1 : Int64) <<< ((nI ((cN f * 12 + cN b) % 36)).toInt64 &&& 63)))) 11 0 (GC.1 11 0 + nI 1)) else (x = -1 ∧ GC' = GC)) (h2 : if nf < 200 ∧ (¬ f < 0 ∧ ¬ GM.1 100 41 ≤ f ∧ ¬ b < 0 ∧ ¬ GM.1 42 f.toNatClampNeg ≤ b) ∧ belB t (nI 300) = true then (y = nI nf ∧ GM' = sI (sI (sI GM 49 (300 * (12 * cN f + cN b) + cN t) (nI 1)) 100 45 (nI (nf + 1))) 100 53 (nI 0)) else (y = -1 ∧ GM' = GM)) : x = y ∧ RR GC' GM' := by
  by_cases hc : nf < 200 ∧ (¬ f < 0 ∧ ¬ GM.1 100 41 ≤ f ∧ ¬ b < 0 ∧ ¬ GM.1 42 f.toNatClampNeg ≤ b) ∧ belB t (nI 300) = true
  · rw [if_pos ⟨(nf_lt ht).mpr hc.1, (blk_iff ht f b).mpr hc.2.1, hc.2.2⟩] at h1
    rw [if_pos hc] at h2
    obtain ⟨c0, ⟨c1, c2, c3, c4⟩, c5⟩ := hc
    obtain ⟨f, q0, rfl⟩ := nI_of c1
    obtain ⟨b, q1, rfl⟩ := nI_of c3
    obtain ⟨t, q2, rfl⟩ := belB_t c5 (by decide)
    have hf : f < fc := by
      rw [ht.2.1.2.1] at c2
      rcases Nat.lt_or_ge f fc with g | g
      · exact g
      · exact absurd (nI_le g q0) c2
    have hf6 := ht.2.1.2.2
    have hb12 : b < 12 := by
      obtain ⟨z1, z2, z3, z4, -⟩ := ht.2.2.1 f hf
      rw [nI_clamp q0, z4, z1] at c4
      rcases Nat.lt_or_ge b 12 with g | g
      · exact g
      · exact absurd (nI_le (by omega) q1) c4
    rw [cN_nI (n := f) q0, cN_nI (n := b) q1, cN_nI (n := t) (by omega), ht.2.2.2.2.2.1.1, nI_add] at h1
    rw [cN_nI (n := f) q0, cN_nI (n := b) q1, cN_nI (n := t) (by omega)] at h2
    obtain ⟨rfl, rfl⟩ := h1
    obtain ⟨rfl, rfl⟩ := h2
    have ew : ∀ u d, d < 72 → wrC (sI (sL (sI GC 0 4 (nI 1)) 13 (2 * t + (f * 12 + b) / 36) (GC.2.1 13 (2 * t + (f * 12 + b) / 36) ||| ((1 : Int64) <<< ((nI ((f * 12 + b) % 36)).toInt64 &&& 63)))) 11 0 (nI (nf + 1))) u d = (wrC GC u d || decide (u = t ∧ d = f * 12 + b)) := by
      intro u d hd
      unfold wrC
      show btL ((sL (sI GC 0 4 (nI 1)) 13 _ _).2.1 13 (2 * u + d / 36)) (d % 36) = _
      rw [sL_s]
      by_cases e : 2 * u + d / 36 = 2 * t + (f * 12 + b) / 36
      · rw [e]
        show btL (if _ then _ else _) _ = _
        rw [if_pos rfl, btL_set _ (by omega)]
        congr 1
        exact decide_eq_decide.mpr ⟨fun z => by omega, fun z => by omega⟩
      · rw [pk_uLn e, decide_eq_false (by omega), Bool.or_false]
        rfl
    have g1 := ht.2.2.2.2.2.2.1
    have g2 := ht.2.2.2.2.2.2.2.1
    have g3 := ht.2.2.2.2.2.2.2.2.1
    have g4 := ht.2.2.2.2.2.2.2.2.2.1
    have e12 : (sI (sL (sI GC 0 4 (nI 1)) 13 (2 * t + (f * 12 + b) / 36) (GC.2.1 13 (2 * t + (f * 12 + b) / 36) ||| ((1 : Int64) <<< ((nI ((f * 12 + b) % 36)).toInt64 &&& 63)))) 11 0 (nI (nf + 1))).1 12 = GC.1 12 := by
      rw [sI_o (by decide)]
      show (sI GC 0 4 (nI 1)).1 12 = _
      rw [sI_o (by decide)]
    refine ⟨rfl, rr_fact ht ho c0 (fun q a b c => ?_) rfl ?_ (by rw [sI_s, upd_s]) (fun q a b => by rw [sI_o b, sI_o b, sI_o (by omega)]) ⟨rfl, rfl⟩ (fun q a b => by rw [sI_s, upd_o b, sI_s, upd_o a, sI_o (by decide)]) (by rw [sI_s, upd_o (by decide), sI_s, upd_s]) (by rw [sI_s, upd_s]) (fun u hu i hi => ⟨?_, ?_⟩) (fun u hu k hk => ?_) (fun u hu d hd => ?_) (fun u i hu hi hb => ?_)⟩
    · rw [sI_o b]
      show (sI GC 0 4 (nI 1)).1 q = _
      rw [sI_o a]
    · rw [sI_o (by decide)]
      show (sI GC 0 4 (nI 1)).1 0 4 = _
      rw [sI_s, upd_s]
    · rw [e12, sI_o (by decide), sI_o (by decide), sI_o (by decide)]; exact (g1 u hu i hi).1
    · rw [e12, sI_o (by decide), sI_o (by decide), sI_o (by decide)]; exact (g1 u hu i hi).2
    · rw [e12, sI_o (by decide), sI_o (by decide), sI_o (by decide)]; exact g2 u hu k hk
    · rw [ew u d hd, sI_o (by decide), sI_o (by decide), sI_s]
      by_cases e : u = t ∧ d = f * 12 + b
      · obtain ⟨rfl, rfl⟩ := e
        rw [show 300 * (12 * f + b) + u = 300 * (f * 12 + b) + u by omega, upd_s]
        simp
        rfl
      · rw [upd_o (by omega), g3 u hu d hd, decide_eq_false e, Bool.or_false]
    · rw [e12] at hb
      rw [sI_s, upd_o (by decide)]
      exact g4 u i hu hi hb
  · rw [if_neg (fun z => hc ⟨(nf_lt ht).mp z.1, (blk_iff ht f b).mp z.2.1, z.2.2⟩)] at h1
    rw [if_neg hc] at h2
    obtain ⟨rfl, rfl⟩ := h1
    obtain ⟨rfl, rfl⟩ := h2
    exact ⟨rfl, mc, fc, wd, nf, jk, nk, lv, st, n, jr, ht, hr, ho⟩
theorem st_down (ht : told GC GM mc fc wd nf jk nk lv) (hr : ran GC GM mc jk nk st) (ho : oth GC GM n jr jk) {k a b : Int32} (h1 : if GC.1 11 0 < nI 200 ∧ belB k (nI 2) = true ∧ belB a b = true ∧ ¬ nI 300 < b then (x = GC.1 11 0 ∧ Fr (fun r => r = 11 ∨ r = 12) (sI GC 0 4 (nI 1)) GC' ∧ GC'.1 11 = upd (GC.1 11) 0 (GC.1 11 0 + nI 1) ∧ ∀ t j, bt (GC'.1 12 t) j = (bt (GC.1 12 t) j || decide (cN a ≤ t ∧ t < cN b ∧ j = 16 + cN k))) else (x = -1 ∧ GC' = GC)) (h2 : if nf < 200 ∧ belB k (nI 2) = true ∧ belB a b = true ∧ ¬ nI 300 < b then (y = nI nf ∧ ∃ G1, Fr (fun q => q = 48) GM G1 ∧ GM' = sI (sI G1 100 45 (nI (nf + 1))) 100 53 (nI 0) ∧ ∀ q, G1.1 48 q = if 300 * cN k + cN a ≤ q ∧ q < 300 * cN k + cN b then nI 1 else GM.1 48 q) else (y = -1 ∧ GM' = GM)) : x = y ∧ RR GC' GM' := by
  by_cases hc : nf < 200 ∧ belB k (nI 2) = true ∧ belB a b = true ∧ ¬ nI 300 < b
  · rw [if_pos ⟨(nf_lt ht).mpr hc.1, hc.2⟩] at h1
    rw [if_pos hc] at h2
    obtain ⟨c0, c1, c2, c3⟩ := hc
    obtain ⟨k, q0, rfl⟩ := belB_t c1 (by decide)
    obtain ⟨a1, a2⟩ := of_decide_eq_true c2
    obtain ⟨a, q1, rfl⟩ := nI_of a1
    obtain ⟨b, q2, rfl⟩ := nI_of (x := b) (fun h => a2 (Int32.le_of_lt (Int32.lt_of_lt_of_le h (Int32.not_lt.mp a1))))
    have hb3 : b ≤ 300 := by
      rcases Nat.lt_or_ge 300 b with g | g
      · exact absurd (nI_lt g q2) c3
      · exact g
    rw [cN_nI (n := k) (by omega), cN_nI (n := a) q1, cN_nI (n := b) q2] at h1 h2
    obtain ⟨rfl, p1, p2, p3⟩ := h1
    obtain ⟨rfl, G1, r1, rfl, r3⟩ := h2
    rw [ht.2.2.2.2.2.1.1, nI_add] at p2
    have g1 := ht.2.2.2.2.2.2.1
    have g2 := ht.2.2.2.2.2.2.2.1
    have g3 := ht.2.2.2.2.2.2.2.2.1
    have g4 := ht.2.2.2.2.2.2.2.2.2.1
    refine ⟨ht.2.2.2.2.2.1.1, rr_fact ht ho c0 (fun q z1 z2 z3 => by rw [p1.1 q (by omega), sI_o z1]) p1.2.2 (by rw [p1.1 0 (by decide), sI_s, upd_s]) (by rw [p2, upd_s]) (fun q z1 z2 => by rw [sI_o z2, sI_o z2, r1.1 q (by omega)]) ?_ (fun q z1 z2 => by rw [sI_s, upd_o z2, sI_s, upd_o z1, r1.1 100 (by decide)]) (by rw [sI_s, upd_o (by decide), sI_s, upd_s]) (by rw [sI_s, upd_s]) (fun u hu i hi => ⟨?_, ?_⟩) (fun u hu j hj => ?_) (fun u hu d hd => ?_) (fun u i hu hi hb => ?_)⟩
    · exact ⟨r1.2.1 9 (by decide), r1.2.2⟩
    · rw [p3, sI_o (by decide), sI_o (by decide), r1.1 46 (by decide), (g1 u hu i hi).1, decide_eq_false (by omega), Bool.or_false]
    · rw [p3, sI_o (by decide), sI_o (by decide), r1.1 47 (by decide), (g1 u hu i hi).2, decide_eq_false (by omega), Bool.or_false]
    · rw [p3, sI_o (by decide), sI_o (by decide), r3]
      by_cases e : a ≤ u ∧ u < b ∧ j = k
      · obtain ⟨e1, e2, rfl⟩ := e
        rw [if_pos (by omega), decide_eq_true (by omega), Bool.or_true]
        rfl
      · rw [if_neg (by omega), g2 u hu j hj, decide_eq_false (by omega), Bool.or_false]
    · rw [sI_o (by decide), sI_o (by decide), r1.1 49 (by decide), g3 u hu d hd]
      unfold wrC
      rw [p1.2.1 13 (by decide)]
      rfl
    · rw [p3, decide_eq_false (by omega), Bool.or_false] at hb
      rw [p2, upd_o (by decide)]
      exact g4 u i hu hi hb
  · rw [if_neg (fun z => hc ⟨(nf_lt ht).mp z.1, z.2⟩)] at h1
    rw [if_neg hc] at h2
    obtain ⟨rfl, rfl⟩ := h1
    obtain ⟨rfl, rfl⟩ := h2
    exact ⟨rfl, mc, fc, wd, nf, jk, nk, lv, st, n, jr, ht, hr, ho⟩
end
