/-! a text is read by both -/
section
variable {GC GM GC' GM' : gS} {mc fc wd nf n jr : Nat} {jk nk lv : Nat → Nat} {st : Bool} {x y : Int32}
theorem told.kp {jk' nk' lv' : Nat → Nat} (h : told GC GM mc fc wd nf jk nk lv) (hc : ∀ q, q = 6 ∨ (8 ≤ q ∧ q ≤ 12) → GC'.1 q = GC.1 q) (hl : GC'.2.1 13 = GC.2.1 13) (hm : ∀ q, q = 40 ∨ q = 42 ∨ q = 43 ∨ (46 ≤ q ∧ q ≤ 49) → GM'.1 q = GM.1 q) (hs : ∀ q, q = 36 ∨ q = 41 ∨ q = 44 ∨ q = 45 → GM'.1 100 q = GM.1 100 q) (hmf : mF GC' = mF GC) (hmm : mmF GM' = mmF GM) (hko : keepOk GC' jk' nk') (hkp : ∀ k, k < 2 → kpR GC' GM' jk' nk' lv' k) : told GC' GM' mc fc wd nf jk' nk' lv' := by
  obtain ⟨a, b, c1, d, e1, f1, g1, g2, g3, g4, i1, i2, -, -⟩ := h
  unfold told
  rw [hc 6 (by omega), hc 8 (by omega), hc 9 (by omega), hc 10 (by omega), hc 11 (by omega), hc 12 (by omega), hs 36 (by omega), hs 41 (by omega), hs 44 (by omega), hs 45 (by omega), hm 40 (by omega), hm 42 (by omega), hm 43 (by omega), hm 46 (by omega), hm 47 (by omega), hm 48 (by omega), hm 49 (by omega), hmf, hmm]
  refine ⟨a, b, c1, d, e1, f1, g1, g2, fun t ht q hq => ?_, g4, i1, i2, hko, hkp⟩
  unfold wrC
  rw [hl]
  exact g3 t ht q hq
theorem hC_kp (hc : ∀ q, q = 6 ∨ (8 ≤ q ∧ q ≤ 12) → GC'.1 q = GC.1 q) (hl : GC'.2.1 13 = GC.2.1 13) (hx : ∀ k b, b = 50 ∨ b = 60 ∨ b = 70 ∨ b = 80 ∨ b = 90 → GC'.1 (b + jk k) = GC.1 (b + jk k)) : hC GC' jk nk mc = hC GC jk nk mc := by
  have e1 : wrC GC' = wrC GC := by
    funext t b
    unfold wrC
    rw [hl]
  have e2 : anC GC' jk nk = anC GC jk nk := by
    funext k v
    unfold anC chC holdC aftC
    rw [hx k 50 (by omega), hx k 60 (by omega), hx k 70 (by omega), hx k 80 (by omega), hx k 90 (by omega), hc 6 (by omega)]
  have e3 : ahF GC' jk nk = ahF GC jk nk := by
    funext k v
    unfold ahF ahC holdC aftC
    rw [hx k 50 (by omega), hx k 60 (by omega), hx k 70 (by omega), hx k 80 (by omega), hx k 90 (by omega)]
  unfold hC
  rw [hc 6 (by omega), hc 8 (by omega), hc 9 (by omega), hc 10 (by omega), hc 12 (by omega), e1, e2, e3]
theorem kpR.r {jk' nk' lv' : Nat → Nat} {k s : Nat} (h : kpR GC GM jk nk lv k) (hk : k < 2) (ej : jk' k = jk k) (en : nk' k = nk k) (el : lv' k = lv k) (hc : ∀ b, b = 40 ∨ b = 50 ∨ b = 60 ∨ b = 70 ∨ b = 80 ∨ b = 90 → GC'.1 (b + jk k) = GC.1 (b + jk k)) (hs : 2 * k + lv k ≠ s) (hm : pgF GM GM' s) (h18 : GM'.1 18 k = GM.1 18 k) : kpR GC' GM' jk' nk' lv' k := by
  obtain ⟨j1, j2, rs, qs, cd, j3, j4, j5, j6, j7, j8, j9, j10, j11⟩ := h
  unfold kpR
  rw [ej, en, el]
  have hl := j4.len
  obtain ⟨m1, m2, m3, m4⟩ := hm
  refine ⟨by rw [h18]; exact j1, j2, rs, qs, cd, ?_, j4, j5, j6, j7, ?_, j9, j10, by rw [(m1 _ hs).1]; exact j11⟩
  · unfold RS
    rw [hc 40 (by omega), hc 50 (by omega), hc 60 (by omega), hc 70 (by omega), hc 80 (by omega), hc 90 (by omega)]
    exact j3
  · exact pgL.ext (Nat.le_refl _) (by omega) (fun j ja jb => m4 j (by omega)) j8 (fun p pa pb j ja jb => m2 p pa pb j (by omega)) (fun p pa pb j ja jb => m3 p pa pb j (by omega))
theorem sT_no {jr q : Nat} (h : q ≠ 3 ∧ q ≠ 4 ∧ q ≠ 5 ∧ (q < 40 ∨ 100 ≤ q)) (hj : jr < 3) : ¬ sT jr q := by
  unfold sT
  omega
theorem st_read (ht : told GC GM mc fc wd nf jk nk lv) (hr : ran GC GM mc jk nk st) (ho : oth GC GM n jr jk) {z : Int32} (h1 : if belB z (nI 2) = true then (∃ G1, (x = (pRun (tB GC) n 401 0 0 pS0).1 ∧ G1.1 3 8 = (pRun (tB GC) n 401 0 0 pS0).2.1 ∧ Fr (sT jr) GC G1 ∧ (x = nI 0 → RS G1 jr true (pRun (tB GC) n 401 0 0 pS0).2.2.2.2.2.2.2 ∧ ∃ k, pInv k (pRun (tB GC) n 401 0 0 pS0).2.2)) ∧ GC' = (if x = 0 then sI (sR (sR (sI G1 1 1 (nI 0)) 3 3 (40 + jk (cN z))) 14 (cN z) (40 + jr)) 0 4 (nI 1) else sI G1 1 1 (nI 0))) else (x = -1 ∧ GC' = GC)) (h2 : if belB z (nI 2) = true then rdP GM GM' (tB GC) n (cN z) (lv (cN z)) y else (y = -1 ∧ GM' = GM)) : x = y ∧ RR GC' GM' := by
  by_cases hc : belB z (nI 2) = true
  · rw [if_pos hc] at h1 h2
    obtain ⟨k, hk, rfl⟩ := belB_t hc (by decide)
    rw [cN_nI (by omega)] at h1 h2
    obtain ⟨G1, ⟨p1, p2, p3, p4⟩, p5⟩ := h1
    obtain ⟨r1, r2, r3, r4, r5⟩ := h2
    refine ⟨p1.trans r1.symm, ?_⟩
    have exy : x = y := p1.trans r1.symm
    obtain ⟨o1, o2, o3, o4, o5, o6⟩ := ho.2.2.2
    have hjk : ∀ q, jr ≠ jk q := fun q => by
      by_cases e : q = 0
      · subst e; exact o3
      · rw [o6 q (by omega)]; exact o4
    have hj3 := ht.2.2.2.2.2.2.2.2.2.2.2.2.1.1
    have lvk := (ht.2.2.2.2.2.2.2.2.2.2.2.2.2 k hk).2.1
    have lvs : ∀ q, q < 2 → lv q < 2 := fun q hq => (ht.2.2.2.2.2.2.2.2.2.2.2.2.2 q hq).2.1
    have oc : ∀ q, q ≠ 3 ∧ q ≠ 4 ∧ q ≠ 5 ∧ (q < 40 ∨ 100 ≤ q) → G1.1 q = GC.1 q := fun q hq => p3.1 q (sT_no hq o2)
    have oj : ∀ q b, b = 40 ∨ b = 50 ∨ b = 60 ∨ b = 70 ∨ b = 80 ∨ b = 90 → G1.1 (b + jk q) = GC.1 (b + jk q) := fun q b hb => p3.1 _ (by have := hjk q; have := hj3 q; unfold sT; omega)
    have om : ∀ q, ¬ rdS q → GM'.1 q = GM.1 q := fun q hq => r4.1.1 q hq
    have hmm : mmF GM' = mmF GM := mmF_fr r4.1 (by intro q hq hz; revert hz; unfold rdS tlS xS; unfold mrL at hq; simp only [List.mem_cons, List.not_mem_nil, or_false] at hq; omega)
    have hmf1 : mF G1 = mF GC := by
      funext i
      unfold mF
      by_cases hi : i < 8
      · rw [if_pos hi, if_pos hi, oc (32 + i) (by omega)]
      · rw [if_neg hi, if_neg hi]
    by_cases h0 : x = 0
    · rw [if_pos h0] at p5
      rw [← exy] at r5
      rcases r5 with ⟨z, -⟩ | ⟨-, s1, s2, qs, cd, s3, s4, s5, s6, s7, s8, s9⟩
      · exact absurd h0 z
      obtain ⟨u1, -⟩ := p4 h0
      have hlen := s3.len
      have gq : ∀ q, q ≠ 0 → q ≠ 1 → GC'.1 q = G1.1 q := fun q y1 y2 => by
        rw [p5, sI_o y1]
        show (sI G1 1 1 (nI 0)).1 q = _
        rw [sI_o y2]
      have gl : GC'.2.1 = G1.2.1 := by rw [p5]; rfl
      have gr : GC'.2.2 = va_up (va_up GC.2.2 3 (va_up (GC.2.2 3) 3 (40 + jk k))) 14 (va_up (GC.2.2 14) k (40 + jr)) := by
        rw [p5]
        funext a
        show (if a = 14 then va_up ((sR (sI G1 1 1 (nI 0)) 3 3 (40 + jk k)).2.2 14) k (40 + jr) else (sR (sI G1 1 1 (nI 0)) 3 3 (40 + jk k)).2.2 a) = _
        by_cases e : a = 14
        · subst e
          rw [if_pos rfl, va_up_self, sR_o (by decide)]
          show va_up (G1.2.2 14) k _ = _
          rw [p3.2.2]
        · rw [if_neg e, va_up_ne _ _ e]
          by_cases e3 : a = 3
          · subst e3
            rw [sR_s, va_up_self]
            show va_up (G1.2.2 3) 3 _ = _
            rw [p3.2.2]
          · rw [sR_o e3, va_up_ne _ _ e3]
            show G1.2.2 a = _
            rw [p3.2.2]
      have hRS : RS GC' jr true (pRun (tB GC) n 401 0 0 pS0).2.2.2.2.2.2.2 := by
        unfold RS
        rw [gq (40 + jr) (by omega) (by omega), gq (50 + jr) (by omega) (by omega), gq (60 + jr) (by omega) (by omega), gq (70 + jr) (by omega) (by omega), gq (80 + jr) (by omega) (by omega), gq (90 + jr) (by omega) (by omega)]
        exact u1
      have hRW : RW GC' jr (pRun (tB GC) n 401 0 0 pS0).2.2.2.2.2.2.2.length := rl_RW hRS s3 (by omega) s8
      have hjj : ∀ q, q < 2 → q ≠ k → (fun j => if j = k ∨ (1 ≤ k ∧ 1 ≤ j) then jr else jk j) q = jk q := fun q hq hne => by
        show (if q = k ∨ (1 ≤ k ∧ 1 ≤ q) then jr else jk q) = _
        rw [if_neg (by omega)]
      have hjk' : (fun j => if j = k ∨ (1 ≤ k ∧ 1 ≤ j) then jr else jk j) k = jr := if_pos (Or.inl rfl)
      refine ⟨mc, fc, wd, nf, fun j => if j = k ∨ (1 ≤ k ∧ 1 ≤ j) then jr else jk j, va_up nk k (pRun (tB GC) n 401 0 0 pS0).2.2.2.2.2.2.2.length, va_up lv k (1 - lv k), true, 0, jk k, ht.kp (fun q hq => by rw [gq q (by omega) (by omega), oc q (by omega)]) (by rw [gl]; exact p3.2.1 13 (sT_no (by omega) o2)) (fun q hq => om q (by unfold rdS tlS xS; omega)) (fun q hq => r4.2.1 q (by unfold slR; omega)) ?_ hmm ⟨fun q => ?_, fun q hq => ?_⟩ (fun q hq => ?_), ran.st (by rw [p5, sI_s, upd_s]) s2, ⟨⟨?_, by omega, fun q hq => absurd hq (Nat.not_lt_zero q)⟩, ?_, r3, fun q hq => absurd hq (Nat.not_lt_zero q)⟩, ?_, ?_, ?_, hj3 k, ?_, ?_, ?_, ?_⟩
      · rw [← hmf1]
        funext i
        unfold mF
        by_cases hi : i < 8
        · rw [if_pos hi, if_pos hi, gq (32 + i) (by omega) (by omega)]
        · rw [if_neg hi, if_neg hi]
      · show (if _ then jr else jk q) < 3
        split
        · exact o2
        · exact hj3 q
      · by_cases e : q = k
        · subst e
          rw [hjk', va_up_self, gr, va_up_self, va_up_self]
          exact ⟨rfl, hRW⟩
        · rw [hjj q hq e, va_up_ne _ _ e, gr, va_up_self, va_up_ne _ _ e]
          obtain ⟨w1, w2⟩ := ht.2.2.2.2.2.2.2.2.2.2.2.2.1.2 q hq
          refine ⟨w1, ?_⟩
          have := hj3 q
          unfold RW
          rw [gq (40 + jk q) (by omega) (by omega), gq (70 + jk q) (by omega) (by omega), gq (80 + jk q) (by omega) (by omega), gq (90 + jk q) (by omega) (by omega), oj q 40 (by omega), oj q 70 (by omega), oj q 80 (by omega), oj q 90 (by omega)]
          exact w2
      · by_cases e : q = k
        · subst e
          unfold kpR
          rw [hjk', va_up_self, va_up_self]
          rw [show 2 * q + (1 - lv q) = 2 * q + 1 - lv q by omega]
          exact ⟨by rw [s1, upd_s], by omega, _, qs, cd, hRS, s3, rfl, by omega, s8, s4, s5, s6, s7⟩
        · exact (ht.2.2.2.2.2.2.2.2.2.2.2.2.2 q hq).r hq (hjj q hq e) (va_up_ne _ _ e) (va_up_ne _ _ e) (fun b hb => by have := hj3 q; rw [gq _ (by omega) (by omega)]; exact oj q b hb) (by have := lvs q hq; omega) r4.2.2 (by rw [s1, upd_o e])
      · rw [p5, sI_o (by decide)]
        show (sI G1 1 1 (nI 0)).1 1 1 = _
        rw [sI_s, upd_s]
      · intro q
        have : tB GC' q = tB GC q := by unfold tB; rw [gq 2 (by decide) (by decide), oc 2 (by omega)]
        rw [this]
        exact ho.1.2.1 q
      · rw [gq 3 (by decide) (by decide), p2, r2]
      · intro q hq
        rw [r4.1.2.1 9 (by unfold rdS tlS xS; omega)]
        exact ho.2.2.1 q hq
      · rw [gr, va_up_ne _ _ (by decide), va_up_self, va_up_self]
      · by_cases e : k = 0
        · subst e; rw [hjk']; exact (hjk 0).symm
        · rw [hjj 0 (by decide) (by omega), show k = 1 by omega]; exact fun w => o5 w.symm
      · show jk k ≠ (if 1 = k ∨ (1 ≤ k ∧ 1 ≤ 1) then jr else jk 1)
        by_cases e : k = 0
        · subst e; rw [if_neg (by omega)]; exact o5
        · rw [if_pos (by omega)]; exact (hjk k).symm
      · show (if 0 = k ∨ (1 ≤ k ∧ 1 ≤ 0) then jr else jk 0) ≠ (if 1 = k ∨ (1 ≤ k ∧ 1 ≤ 1) then jr else jk 1)
        by_cases e : k = 0
        · subst e; rw [if_pos (by omega), if_neg (by omega)]; exact o4
        · rw [if_neg (by omega), if_pos (by omega)]; exact (hjk 0).symm
      · intro q hq
        show (if q = k ∨ (1 ≤ k ∧ 1 ≤ q) then jr else jk q) = (if 1 = k ∨ (1 ≤ k ∧ 1 ≤ 1) then jr else jk 1)
        by_cases e : k = 0
        · subst e; rw [if_neg (by omega), if_neg (by omega)]; exact o6 q hq
        · rw [if_pos (by omega), if_pos (by omega)]
    · rw [if_neg h0] at p5
      rw [← exy] at r5
      obtain ⟨s1, s2⟩ : GM'.1 18 = GM.1 18 ∧ GM'.1 100 53 = GM.1 100 53 := by
        rcases r5 with ⟨-, s1, s2⟩ | ⟨z, -⟩
        · exact ⟨s1, s2⟩
        · exact absurd z h0
      have gq : ∀ q, q ≠ 1 → GC'.1 q = G1.1 q := fun q y1 => by rw [p5, sI_o y1]
      have gl : GC'.2.1 = G1.2.1 := by rw [p5]; rfl
      have gr : GC'.2.2 = GC.2.2 := by
        rw [p5]
        show G1.2.2 = _
        exact p3.2.2
      have hmf : mF GC' = mF GC := by
        rw [← hmf1]
        funext i
        unfold mF
        by_cases hi : i < 8
        · rw [if_pos hi, if_pos hi, gq (32 + i) (by omega)]
        · rw [if_neg hi, if_neg hi]
      have hl : GC'.2.1 13 = GC.2.1 13 := by rw [gl]; exact p3.2.1 13 (sT_no (by omega) o2)
      have hc6 : ∀ q, q = 6 ∨ (8 ≤ q ∧ q ≤ 12) → GC'.1 q = GC.1 q := fun q hq => by rw [gq q (by omega), oc q (by omega)]
      refine ⟨mc, fc, wd, nf, jk, nk, lv, st, 0, jr, ht.kp hc6 hl (fun q hq => om q (by unfold rdS tlS xS; omega)) (fun q hq => r4.2.1 q (by unfold slR; omega)) hmf hmm ⟨hj3, fun q hq => ⟨by rw [gr]; exact (ht.2.2.2.2.2.2.2.2.2.2.2.2.1.2 q hq).1, ?_⟩⟩ (fun q hq => (ht.2.2.2.2.2.2.2.2.2.2.2.2.2 q hq).r hq rfl rfl rfl (fun b hb => by rw [gq _ (by omega)]; exact oj q b hb) (by have := lvs q hq; rcases Nat.lt_trichotomy q k with e | rfl | e <;> omega) r4.2.2 (by rw [s1])), hr.fr (by rw [gq 0 (by decide), oc 0 (by omega)]) ?_ (hC_kp hc6 hl (fun q b hb => by rw [gq _ (by omega)]; exact oj q b (by omega))) (fun q a b => om q (by unfold rdS tlS xS; omega)) hmm s2 (r4.2.1 66 (by unfold slR; omega)), ⟨⟨?_, by omega, fun q hq => absurd hq (Nat.not_lt_zero q)⟩, ?_, r3, fun q hq => absurd hq (Nat.not_lt_zero q)⟩, ?_, ?_, ?_⟩
      · have w2 := (ht.2.2.2.2.2.2.2.2.2.2.2.2.1.2 q hq).2
        unfold RW
        rw [gq (40 + jk q) (by omega), gq (70 + jk q) (by omega), gq (80 + jk q) (by omega), gq (90 + jk q) (by omega), oj q 40 (by omega), oj q 70 (by omega), oj q 80 (by omega), oj q 90 (by omega)]
        exact w2
      · unfold stR
        rw [hmf, gq 17 (by decide), gq 18 (by decide), gq 19 (by decide), gq 15 (by decide), gl, oc 17 (by omega), oc 18 (by omega), oc 19 (by omega), oc 15 (by omega), p3.2.1 16 (sT_no (by omega) o2)]
      · rw [p5, sI_s, upd_s]
      · intro q
        have : tB GC' q = tB GC q := by unfold tB; rw [gq 2 (by decide), oc 2 (by omega)]
        rw [this]
        exact ho.1.2.1 q
      · rw [gq 3 (by decide), p2, r2]
      · intro q hq
        rw [r4.1.2.1 9 (by unfold rdS tlS xS; omega)]
        exact ho.2.2.1 q hq
      · rw [gr]; exact ho.2.2.2
  · rw [if_neg hc] at h1 h2
    obtain ⟨rfl, rfl⟩ := h1
    obtain ⟨rfl, rfl⟩ := h2
    exact ⟨rfl, mc, fc, wd, nf, jk, nk, lv, st, n, jr, ht, hr, ho⟩
end
