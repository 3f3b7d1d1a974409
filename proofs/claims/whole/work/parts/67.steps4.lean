/-! MACHINES, FILES, a plan, a text -/
section
variable {GC GM GC' GM' : gS} {mc fc wd nf n jr : Nat} {jk nk lv : Nat → Nat} {st : Bool} {x y : Int32}
theorem st_machine (ht : told GC GM mc fc wd nf jk nk lv) (hr : ran GC GM mc jk nk st) (ho : oth GC GM n jr jk) {k p q : Int32} (h1 : if mc < 8 ∧ belB k (nI 4) = true ∧ belB p (nI 8) = true ∧ belB q (nI 100) = true then (x = nI mc ∧ GC' = sI (sI (sI (sI (sI GC 0 4 (nI 1)) (32 + mc) 0 k) (32 + mc) 1 p) (32 + mc) 2 q) 6 1 (nI (mc + 1))) else (x = -1 ∧ GC' = GC)) (h2 : if mc < 8 ∧ belB k (nI 4) = true ∧ belB p (nI 8) = true ∧ belB q (nI 100) = true then (y = nI mc ∧ GM' = sI (sI (sI (sI (sI GM 37 mc k) 38 mc p) 39 mc q) 100 36 (nI (mc + 1))) 100 53 (nI 0)) else (y = -1 ∧ GM' = GM)) : x = y ∧ RR GC' GM' := by
  by_cases hc : mc < 8 ∧ belB k (nI 4) = true ∧ belB p (nI 8) = true ∧ belB q (nI 100) = true
  · rw [if_pos hc] at h1 h2
    obtain ⟨hm8, c1, -, -⟩ := hc
    obtain ⟨rfl, rfl⟩ := h1
    obtain ⟨rfl, rfl⟩ := h2
    obtain ⟨⟨a1, a2, a3⟩, ⟨b1, b2, b3⟩, z1, ⟨d1, d2, d3, d4⟩, e1, ⟨f1, f2, f3⟩, g1, g2, g3, g4, i1, i2, i3, i4⟩ := ht
    obtain ⟨kk, hkk, rfl⟩ := belB_t c1 (by decide)
    generalize hGC : sI (sI (sI (sI (sI GC 0 4 (nI 1)) (32 + mc) 0 (nI kk)) (32 + mc) 1 p) (32 + mc) 2 q) 6 1 (nI (mc + 1)) = GC'
    generalize hGM : sI (sI (sI (sI (sI GM 37 mc (nI kk)) 38 mc p) 39 mc q) 100 36 (nI (mc + 1))) 100 53 (nI 0) = GM'
    have oc : ∀ q', q' ≠ 0 → q' ≠ 6 → q' ≠ 32 + mc → GC'.1 q' = GC.1 q' := fun q' y1 y2 y3 => by rw [← hGC, sI_o y2, sI_o y3, sI_o y3, sI_o y3, sI_o y1]
    have om : ∀ q', q' ≠ 37 → q' ≠ 38 → q' ≠ 39 → q' ≠ 100 → GM'.1 q' = GM.1 q' := fun q' y1 y2 y3 y4 => by rw [← hGM, sI_o y4, sI_o y4, sI_o y3, sI_o y2, sI_o y1]
    have os : ∀ q', q' ≠ 36 → q' ≠ 53 → GM'.1 100 q' = GM.1 100 q' := fun q' y1 y2 => by rw [← hGM, sI_s, upd_o y2, sI_s, upd_o y1, sI_o (by decide), sI_o (by decide), sI_o (by decide)]
    have o6 : ∀ q', q' ≠ 1 → GC'.1 6 q' = GC.1 6 q' := fun q' y1 => by rw [← hGC, sI_s, upd_o y1, sI_o (by omega), sI_o (by omega), sI_o (by omega), sI_o (by decide)]
    have rc : ∀ i, i < 8 → i ≠ mc → mF GC' i = mF GC i := fun i hi hne => by rw [mF_i hi, mF_i hi]; exact oc _ (by omega) (by omega) (by omega)
    have rn : mF GC' mc 0 = nI kk ∧ mF GC' mc 1 = p ∧ mF GC' mc 2 = q := by
      rw [mF_i hm8, ← hGC, sI_o (by omega), sI_s, sI_s, sI_s]
      exact ⟨by rw [upd_o (by decide), upd_o (by decide), upd_s], by rw [upd_o (by decide), upd_s], upd_s⟩
    have hmm : mmF GM' = va_up (mmF GM) mc (upd (upd (upd (mmF GM mc) 0 (nI kk)) 1 p) 2 q) := by
      rw [← hGM, mmF_o (by decide), mmF_o (by decide), mm39 hm8, mm38 hm8, mm37 hm8]
      simp only [va_up_self, bx_uu]
    refine ⟨rfl, mc + 1, fc, wd, nf, jk, nk, lv, true, n, jr, ⟨⟨by rw [← hGC, sI_s, upd_s], by rw [← hGM, sI_s, upd_o (by decide), sI_s, upd_s], by omega⟩, ⟨by rw [o6 4 (by decide)]; exact b1, by rw [os 41 (by decide) (by decide)]; exact b2, b3⟩, ?_, ⟨by rw [o6 5 (by decide)]; exact d1, by rw [os 44 (by decide) (by decide)]; exact d2, d3, d4⟩, ?_, ⟨?_, by rw [os 45 (by decide) (by decide)]; exact f2, f3⟩, ?_, ?_, ?_, ?_, ?_, ?_, ?_, ?_⟩, ran.st ?_ ?_, ?_⟩
    · rw [oc 8 (by decide) (by decide) (by omega), oc 9 (by decide) (by decide) (by omega), om 42 (by decide) (by decide) (by decide) (by decide), om 43 (by decide) (by decide) (by decide) (by decide)]; exact z1
    · rw [oc 10 (by decide) (by decide) (by omega), om 40 (by decide) (by decide) (by decide) (by decide)]; exact e1
    · rw [oc 11 (by decide) (by decide) (by omega)]; exact f1
    · rw [oc 12 (by decide) (by decide) (by omega), om 46 (by decide) (by decide) (by decide) (by decide), om 47 (by decide) (by decide) (by decide) (by decide)]; exact g1
    · rw [oc 12 (by decide) (by decide) (by omega), om 48 (by decide) (by decide) (by decide) (by decide)]; exact g2
    · rw [om 49 (by decide) (by decide) (by decide) (by decide), ← hGC]; exact g3
    · rw [oc 12 (by decide) (by decide) (by omega), oc 11 (by decide) (by decide) (by omega)]; exact g4
    · intro i hi
      by_cases e : i = mc
      · subst e
        unfold kN
        rw [rn.1]
        show nI kk = nI (cN (nI kk)) ∧ cN (nI kk) < 4
        rw [cN_nI (by omega)]
        exact ⟨rfl, hkk⟩
      · rw [rc i (by omega) e]; exact i1 i (by omega)
    · intro i hi k hk
      by_cases e : i = mc
      · subst e
        rw [hmm, va_up_self]
        rcases (show k = 0 ∨ k = 1 ∨ k = 2 by omega) with rfl | rfl | rfl
        · rw [upd_o (by decide), upd_o (by decide), upd_s, rn.1]
        · rw [upd_o (by decide), upd_s, rn.2.1]
        · rw [upd_s, rn.2.2]
      · rw [hmm, va_up_ne _ _ e, rc i (by omega) e]; exact i2 i (by omega) k hk
    · exact i3.c (fun q' y1 y2 => oc q' (by omega) (by omega) (by omega)) (by rw [← hGC]; rfl)
    · exact fun k hk => (i4 k hk).c (i3.1 k) (fun q' y1 y2 => oc q' (by omega) (by omega) (by omega)) (fun q' y1 => om q' (by omega) (by omega) (by omega) (by omega)) hk
    · rw [← hGC, sI_o (by decide), sI_o (by omega), sI_o (by omega), sI_o (by omega), sI_s, upd_s]
    · rw [← hGM, sI_s, upd_s]
    · exact ho.c (fun q' y1 => oc q' (by omega) (by omega) (by omega)) (by rw [← hGC]; rfl) (om 1 (by decide) (by decide) (by decide) (by decide)) (os 2 (by decide) (by decide)) (os 17 (by decide) (by decide)) (by rw [← hGM]; rfl)
  · rw [if_neg hc] at h1 h2
    obtain ⟨rfl, rfl⟩ := h1
    obtain ⟨rfl, rfl⟩ := h2
    exact ⟨rfl, mc, fc, wd, nf, jk, nk, lv, st, n, jr, ht, hr, ho⟩
theorem st_file (ht : told GC GM mc fc wd nf jk nk lv) (hr : ran GC GM mc jk nk st) (ho : oth GC GM n jr jk) {b q : Int32} (h1 : if fc < 6 ∧ ¬ b < nI 1 ∧ ¬ nI 12 < b ∧ ¬ q < -1 ∧ q < nI 6 then (x = nI fc ∧ GC' = sI (sI (sI (sI GC 0 4 (nI 1)) 8 fc b) 9 fc q) 6 4 (nI (fc + 1))) else (x = -1 ∧ GC' = GC)) (h2 : if fc < 6 ∧ ¬ b < nI 1 ∧ ¬ nI 12 < b ∧ ¬ q < -1 ∧ q < nI 6 then (y = nI fc ∧ GM' = sI (sI (sI (sI GM 42 fc b) 43 fc q) 100 41 (nI (fc + 1))) 100 53 (nI 0)) else (y = -1 ∧ GM' = GM)) : x = y ∧ RR GC' GM' := by
  by_cases hc : fc < 6 ∧ ¬ b < nI 1 ∧ ¬ nI 12 < b ∧ ¬ q < -1 ∧ q < nI 6
  · rw [if_pos hc] at h1 h2
    obtain ⟨c0, c1, c2, c3, -⟩ := hc
    obtain ⟨rfl, rfl⟩ := h1
    obtain ⟨rfl, rfl⟩ := h2
    obtain ⟨⟨a1, a2, a3⟩, ⟨b1, b2, b3⟩, z1, ⟨d1, d2, d3, d4⟩, e1, ⟨f1, f2, f3⟩, g1, g2, g3, g4, i1, i2, i3, i4⟩ := ht
    obtain ⟨w, hw, rfl⟩ := nI_of (x := b) (fun z => c1 (Int32.lt_trans z (by decide)))
    have w1 : 1 ≤ w := by
      rcases Nat.lt_or_ge w 1 with g | g
      · exact absurd (nI_lt g (by decide)) c1
      · exact g
    have w12 : w ≤ 12 := by
      rcases Nat.lt_or_ge 12 w with g | g
      · exact absurd (nI_lt g hw) c2
      · exact g
    have hq : q = -1 ∨ 0 ≤ q := by
      by_cases e : q < 0
      · left
        have h1 := Int32.lt_iff_toInt_lt.mp e
        have h2 := mt Int32.lt_iff_toInt_lt.mpr c3
        rw [show (0 : Int32).toInt = 0 from rfl] at h1
        rw [show (-1 : Int32).toInt = -1 from rfl] at h2
        exact Int32.toInt_inj.mp (by rw [show (-1 : Int32).toInt = -1 from rfl]; omega)
      · exact Or.inr (Int32.not_lt.mp e)
    generalize hGC : sI (sI (sI (sI GC 0 4 (nI 1)) 8 fc (nI w)) 9 fc q) 6 4 (nI (fc + 1)) = GC'
    generalize hGM : sI (sI (sI (sI GM 42 fc (nI w)) 43 fc q) 100 41 (nI (fc + 1))) 100 53 (nI 0) = GM'
    have oc : ∀ q', q' ≠ 0 → q' ≠ 6 → q' ≠ 8 → q' ≠ 9 → GC'.1 q' = GC.1 q' := fun q' y1 y2 y3 y4 => by rw [← hGC, sI_o y2, sI_o y4, sI_o y3, sI_o y1]
    have om : ∀ q', q' ≠ 42 → q' ≠ 43 → q' ≠ 100 → GM'.1 q' = GM.1 q' := fun q' y1 y2 y3 => by rw [← hGM, sI_o y3, sI_o y3, sI_o y2, sI_o y1]
    have os : ∀ q', q' ≠ 41 → q' ≠ 53 → GM'.1 100 q' = GM.1 100 q' := fun q' y1 y2 => by rw [← hGM, sI_s, upd_o y2, sI_s, upd_o y1, sI_o (by decide), sI_o (by decide)]
    have o6 : ∀ q', q' ≠ 4 → GC'.1 6 q' = GC.1 6 q' := fun q' y1 => by rw [← hGC, sI_s, upd_o y1, sI_o (by decide), sI_o (by decide), sI_o (by decide)]
    have e8 : GC'.1 8 = upd (GC.1 8) fc (nI w) := by rw [← hGC, sI_o (by decide), sI_o (by decide), sI_s, sI_o (by decide)]
    have e9 : GC'.1 9 = upd (GC.1 9) fc q := by rw [← hGC, sI_o (by decide), sI_s, sI_o (by decide), sI_o (by decide)]
    have e42 : GM'.1 42 = upd (GM.1 42) fc (nI w) := by rw [← hGM, sI_o (by decide), sI_o (by decide), sI_o (by decide), sI_s]
    have e43 : GM'.1 43 = upd (GM.1 43) fc q := by rw [← hGM, sI_o (by decide), sI_o (by decide), sI_s, sI_o (by decide)]
    have hmf : mF GC' = mF GC := by
      funext i
      unfold mF
      by_cases hi : i < 8
      · rw [if_pos hi, if_pos hi, oc (32 + i) (by omega) (by omega) (by omega) (by omega)]
      · rw [if_neg hi, if_neg hi]
    have hmm : mmF GM' = mmF GM := by rw [← hGM, mmF_o (by decide), mmF_o (by decide), mmF_o (by decide), mmF_o (by decide)]
    refine ⟨rfl, mc, fc + 1, wd, nf, jk, nk, lv, true, n, jr, ⟨⟨by rw [o6 1 (by decide)]; exact a1, by rw [os 36 (by decide) (by decide)]; exact a2, a3⟩, ⟨by rw [← hGC, sI_s, upd_s], by rw [← hGM, sI_s, upd_o (by decide), sI_s, upd_s], by omega⟩, ?_, ⟨by rw [o6 5 (by decide)]; exact d1, by rw [os 44 (by decide) (by decide)]; exact d2, d3, d4⟩, ?_, ⟨?_, by rw [os 45 (by decide) (by decide)]; exact f2, f3⟩, ?_, ?_, ?_, ?_, ?_, ?_, ?_, ?_⟩, ran.st ?_ ?_, ?_⟩
    · intro f hf
      rw [e8, e9, e42, e43]
      by_cases e : f = fc
      · subst e
        rw [upd_s, upd_s, upd_s, upd_s, cN_nI hw]
        exact ⟨rfl, w1, w12, rfl, rfl, hq⟩
      · rw [upd_o e, upd_o e, upd_o e, upd_o e]; exact z1 f (by omega)
    · rw [oc 10 (by decide) (by decide) (by decide) (by decide), om 40 (by decide) (by decide) (by decide)]; exact e1
    · rw [oc 11 (by decide) (by decide) (by decide) (by decide)]; exact f1
    · rw [oc 12 (by decide) (by decide) (by decide) (by decide), om 46 (by decide) (by decide) (by decide), om 47 (by decide) (by decide) (by decide)]; exact g1
    · rw [oc 12 (by decide) (by decide) (by decide) (by decide), om 48 (by decide) (by decide) (by decide)]; exact g2
    · rw [om 49 (by decide) (by decide) (by decide), ← hGC]; exact g3
    · rw [oc 12 (by decide) (by decide) (by decide) (by decide), oc 11 (by decide) (by decide) (by decide) (by decide)]; exact g4
    · rw [hmf]; exact i1
    · rw [hmf, hmm]; exact i2
    · exact i3.c (fun q' y1 y2 => oc q' (by omega) (by omega) (by omega) (by omega)) (by rw [← hGC]; rfl)
    · exact fun k hk => (i4 k hk).c (i3.1 k) (fun q' y1 y2 => oc q' (by omega) (by omega) (by omega) (by omega)) (fun q' y1 => om q' (by omega) (by omega) (by omega)) hk
    · rw [← hGC, sI_o (by decide), sI_o (by decide), sI_o (by decide), sI_s, upd_s]
    · rw [← hGM, sI_s, upd_s]
    · exact ho.c (fun q' y1 => oc q' (by omega) (by omega) (by omega) (by omega)) (by rw [← hGC]; rfl) (om 1 (by decide) (by decide) (by decide)) (os 2 (by decide) (by decide)) (os 17 (by decide) (by decide)) (by rw [← hGM]; rfl)
  · rw [if_neg hc] at h1 h2
    obtain ⟨rfl, rfl⟩ := h1
    obtain ⟨rfl, rfl⟩ := h2
    exact ⟨rfl, mc, fc, wd, nf, jk, nk, lv, st, n, jr, ht, hr, ho⟩
theorem st_plan (ht : told GC GM mc fc wd nf jk nk lv) (hr : ran GC GM mc jk nk st) (ho : oth GC GM n jr jk) {s : Int32} (h1 : if ¬ s < nI 1 ∧ ¬ nI 20 < s then (x = (if nI 300 ≤ (plN (hC GC jk nk mc) s (cr (stR GC)) 256).2.2.2 then -1 else (plN (hC GC jk nk mc) s (cr (stR GC)) 256).2.2.2) ∧ Fr (fun q => sP q ∨ q = 0 ∨ q = 10) GC GC' ∧ GC'.1 10 = wkRow (plN (hC GC jk nk mc) s (cr (stR GC)) 256).2.1 s (GC.1 10) 4 ∧ cr (stR GC') = (plN (hC GC jk nk mc) s (cr (stR GC)) 256).1 ∧ GC'.1 0 = upd (GC.1 0) 4 (nI 1)) else (x = -2 ∧ GC' = GC)) (h2 : if ¬ s < nI 1 ∧ ¬ nI 20 < s then (y = (if nI 300 ≤ (plN (hC GC jk nk mc) s (cr (stR GC)) 256).2.2.2 then -1 else (plN (hC GC jk nk mc) s (cr (stR GC)) 256).2.2.2) ∧ Fr plG GM GM' ∧ (∀ q, q ≠ 52 → q ≠ 53 → q ≠ 66 → GM'.1 100 q = GM.1 100 q) ∧ GM'.1 100 53 = nI 0 ∧ (∀ k, k < 4 → GM'.1 40 k = wkRow (plN (hC GC jk nk mc) s (cr (stR GC)) 256).2.1 s (hWk (hC GC jk nk mc)) 4 k) ∧ (∀ i, i < hMc (hC GC jk nk mc) → ∀ k, k < 3 → mmF GM' i k = (plN (hC GC jk nk mc) s (cr (stR GC)) 256).1.1 i k)) else (y = -2 ∧ GM' = GM)) : x = y ∧ RR GC' GM' := by
  by_cases hc : ¬ s < nI 1 ∧ ¬ nI 20 < s
  · rw [if_pos hc] at h1 h2
    obtain ⟨p1, p2, p3, p4, p5⟩ := h1
    obtain ⟨r1, r2, r3, r4, r5, r6⟩ := h2
    refine ⟨p1.trans r1.symm, ?_⟩
    obtain ⟨⟨a1, a2, a3⟩, ⟨b1, b2, b3⟩, z1, ⟨d1, d2, d3, d4⟩, e1, ⟨f1, f2, f3⟩, g1, g2, g3, g4, i1, i2, i3, i4⟩ := ht
    have oc : ∀ q, q ≠ 0 → q ≠ 10 → (q < 15 ∨ (21 < q ∧ q < 32) ∨ (40 ≤ q ∧ q < 100)) → GC'.1 q = GC.1 q := fun q y1 y2 y3 => p2.1 q (fun z => z.elim (sP_no (by omega)) (fun z => by omega))
    have om : ∀ q, (relS q ∨ q = 1) → q ≠ 40 → GM'.1 q = GM.1 q := fun q y1 y2 => r2.1 q (fun z => by
      rcases y1 with y1 | rfl
      · exact relS_pl q y1 y2 z
      · rcases z with z | z
        · revert z; unfold gnS sMM mrL; simp
        · omega)
    have hmf : mF GC' = (plN (hC GC jk nk mc) s (cr (stR GC)) 256).1.1 := congrArg (fun c : rC => c.1) p4
    have hK : K3 (mF GC) (plN (hC GC jk nk mc) s (cr (stR GC)) 256).1.1 := by
      have : ∀ w, K3 (mF GC) (plN (hC GC jk nk mc) s (cr (stR GC)) w).1.1 := by
        intro w
        induction w with
        | zero => exact fun i => k3.refl
        | succ w ih =>
          cases hb : badW (hMc (hC GC jk nk mc)) (cr (stR GC)).1 w 4 with
          | true => rw [plN_bad ih hb]; exact ih
          | false =>
            rw [plN_1 ih hb]
            exact K3_run _ ih 300
      exact this 256
    have hl : GC'.2.1 13 = GC.2.1 13 := p2.2.1 13 (fun z => z.elim (sP_no (by omega)) (fun z => by omega))
    refine ⟨mc, fc, wd, nf, jk, nk, lv, true, n, jr, ⟨⟨by rw [oc 6 (by decide) (by decide) (by omega)]; exact a1, by rw [r3 36 (by decide) (by decide) (by decide)]; exact a2, a3⟩, ⟨by rw [oc 6 (by decide) (by decide) (by omega)]; exact b1, by rw [r3 41 (by decide) (by decide) (by decide)]; exact b2, b3⟩, ?_, ⟨by rw [oc 6 (by decide) (by decide) (by omega)]; exact d1, by rw [r3 44 (by decide) (by decide) (by decide)]; exact d2, d3, d4⟩, ?_, ⟨by rw [oc 11 (by decide) (by decide) (by omega)]; exact f1, by rw [r3 45 (by decide) (by decide) (by decide)]; exact f2, f3⟩, ?_, ?_, ?_, ?_, ?_, ?_, ?_, ?_⟩, ran.st (by rw [p5, upd_s]) r4, ?_⟩
    · rw [oc 8 (by decide) (by decide) (by omega), oc 9 (by decide) (by decide) (by omega), om 42 (Or.inl (by unfold relS; omega)) (by decide), om 43 (Or.inl (by unfold relS; omega)) (by decide)]; exact z1
    · intro k hk
      rw [r5 k hk, p3]
      rfl
    · rw [oc 12 (by decide) (by decide) (by omega), om 46 (Or.inl (by unfold relS; omega)) (by decide), om 47 (Or.inl (by unfold relS; omega)) (by decide)]; exact g1
    · rw [oc 12 (by decide) (by decide) (by omega), om 48 (Or.inl (by unfold relS; omega)) (by decide)]; exact g2
    · intro t ht b hb
      rw [om 49 (Or.inl (by unfold relS; omega)) (by decide), g3 t ht b hb]
      unfold wrC
      rw [hl]
    · rw [oc 12 (by decide) (by decide) (by omega), oc 11 (by decide) (by decide) (by omega)]; exact g4
    · rw [hmf]; exact hK.kok i1
    · intro i hi k hk
      rw [hmf]
      exact r6 i hi k hk
    · exact i3.c (fun q y1 y2 => oc q (by omega) (by omega) (by omega)) p2.2.2
    · exact fun k hk => (i4 k hk).c (i3.1 k) (fun q y1 y2 => oc q (by omega) (by omega) (by omega)) (fun q y1 => om q (Or.inl (by unfold relS; omega)) (by omega)) hk
    · exact ho.c (fun q y1 => oc q (by omega) (by omega) (by omega)) p2.2.2 (om 1 (Or.inr rfl) (by decide)) (r3 2 (by decide) (by decide) (by decide)) (r3 17 (by decide) (by decide) (by decide)) (r2.2.1 9 (by unfold plG gnS sMM mrL; simp))
  · rw [if_neg hc] at h1 h2
    obtain ⟨rfl, rfl⟩ := h1
    obtain ⟨rfl, rfl⟩ := h2
    exact ⟨rfl, mc, fc, wd, nf, jk, nk, lv, st, n, jr, ht, hr, ho⟩
end
