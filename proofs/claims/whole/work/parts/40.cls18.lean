theorem hC_fr10 {G G' : gS} {jk nk : Nat → Nat} {mc : Nat} (hF : Fr (fun q => sP q ∨ q = 10) G G') (hj : ∀ k, jk k < 3) : hC G' jk nk mc = hW (hC G jk nk mc) (G'.1 10) := by
  have no : ∀ q, (q < 15 ∨ (21 < q ∧ q < 32) ∨ (40 ≤ q ∧ q < 100) ∨ 103 ≤ q) → q ≠ 10 → ¬ (sP q ∨ q = 10) := fun q h1 h2 h => h.elim (sP_no h1) h2
  have e1 : anC G' jk nk = anC G jk nk := by
    funext k v
    have := hj k
    unfold anC
    rw [hF.1 6 (no _ (by omega) (by omega)), chC_fr hF (no _ (by omega) (by omega)) (no _ (by omega) (by omega)) (no _ (by omega) (by omega)) (no _ (by omega) (by omega)) (no _ (by omega) (by omega))]
  have e2 : ahF G' jk nk = ahF G jk nk := by
    funext k v
    have := hj k
    unfold ahF
    rw [ahC_fr hF (no _ (by omega) (by omega)) (no _ (by omega) (by omega)) (no _ (by omega) (by omega)) (no _ (by omega) (by omega)) (no _ (by omega) (by omega))]
  unfold hC wrC hW
  rw [e1, e2, hF.1 6 (no _ (by omega) (by omega)), hF.1 8 (no _ (by omega) (by omega)), hF.1 9 (no _ (by omega) (by omega)), hF.1 12 (no _ (by omega) (by omega)), hF.2.1 13 (no _ (by omega) (by omega))]
theorem keepOk.fr10 {G G' : gS} {jk nk : Nat → Nat} (h : keepOk G jk nk) (hF : Fr (fun q => sP q ∨ q = 10) G G') : keepOk G' jk nk := by
  have no : ∀ q, (q < 15 ∨ (21 < q ∧ q < 32) ∨ (40 ≤ q ∧ q < 100) ∨ 103 ≤ q) → q ≠ 10 → ¬ (sP q ∨ q = 10) := fun q h1 h2 h => h.elim (sP_no h1) h2
  exact ⟨h.1, fun k hk => ⟨by rw [hF.2.2]; exact (h.2 k hk).1, by
    have := h.1 k
    exact (h.2 k hk).2.fr hF (no _ (by omega) (by omega)) (no _ (by omega) (by omega)) (no _ (by omega) (by omega)) (no _ (by omega) (by omega))⟩⟩
set_option maxHeartbeats 4000000 in
set_option maxRecDepth 100000 in
theorem tX8_plan (Y : gY) (hY : Y.2.2.2 = wC) {G : gS} {mc fc : Nat} {jk nk : Nat → Nat} {st : Bool} {s : Int32} (hro : runOk G mc fc jk nk st) (hLC : ∀ t i, t < 300 → i < 8 → bt (G.1 12 t) (8 + i) = true → ¬ G.1 11 1 < nI t) : ∀ l : Launch, gM Y l yX8_plan cX8_plan 8 (some .int) (6, 143) [.ref (Y.2.1 (0)), .int (s)] G (qi (fun r G' => if ¬ s < nI 1 ∧ ¬ nI 20 < s then (r = (if nI 300 ≤ (itN (plS (hC G jk nk mc) s) 256 (cr (stR G), 0, 1000000000, nI 300)).2.2.2 then -1 else (itN (plS (hC G jk nk mc) s) 256 (cr (stR G), 0, 1000000000, nI 300)).2.2.2) ∧ Fr (fun q => sP q ∨ q = 0 ∨ q = 10) G G' ∧ G'.1 10 = wkRow (itN (plS (hC G jk nk mc) s) 256 (cr (stR G), 0, 1000000000, nI 300)).2.1 s (G.1 10) 4 ∧ cr (stR G') = (itN (plS (hC G jk nk mc) s) 256 (cr (stR G), 0, 1000000000, nI 300)).1 ∧ G'.1 0 = upd (G.1 0) 4 (nI 1)) else (r = -2 ∧ G' = G))) := by
  intro l
  refine gM_of hY rfl (Nat.le_of_ble_eq_true rfl) [some (.ref (Y.2.1 (0))), some (.int (s)), none, none, none, none, none, none] rfl rfl ?_
  rintro Z rfl C
  obtain ⟨hmc, hm8, hK, hko, hh, hst⟩ := hro
  refine r_iload1 (pc := 0) C dX8_plan_0 ?_
  refine r_iconst (pc := 1) (v := nI 1) C dX8_plan_1 (by decide) ?_
  refine r_icmp_lt (pc := 2) 11 C dX8_plan_2 (by decide) (fun c2 => ?_) (fun c2 => ?_)
  · refine r_bipush (pc := 11) (v := (-2)) C dX8_plan_11 (by decide) ?_
    exact r_ireturn (pc := 13) C dX8_plan_13 (by rw [if_neg (fun h => h.1 c2)]; exact ⟨rfl, rfl⟩)
  · refine r_iload1 (pc := 5) C dX8_plan_5 ?_
    refine r_bipush (pc := 6) (v := nI 20) C dX8_plan_6 (by decide) ?_
    refine r_icmp_le (pc := 8) 14 C dX8_plan_8 (by decide) (fun c8 => ?_) (fun c8 => ?_)
    · have hs : ¬ s < nI 1 ∧ ¬ nI 20 < s := ⟨c2, Int32.not_lt.mpr c8⟩
      have loop : ∀ (k0 : Nat) (c : Nat) (p : rC × Nat × Int32 × Int32) (Gx : gS) (o7 : Option Value), k0 = 256 - c → c ≤ 256 → itN (plS (hC G jk nk mc) s) c (cr (stR G), 0, 1000000000, nI 300) = p → Fr (fun q => sP q ∨ q = 10) G Gx → cr (stR Gx) = p.1 → kOk mc (mF Gx) → kin (mF G) (mF Gx) → (∀ k, 4 ≤ k → Gx.1 10 k = G.1 10 k) → badW mc (mF G) p.2.1 4 = false → p.2.1 < 256 → WW Z (qi (fun r G' => if ¬ s < nI 1 ∧ ¬ nI 20 < s then (r = (if nI 300 ≤ (itN (plS (hC G jk nk mc) s) 256 (cr (stR G), 0, 1000000000, nI 300)).2.2.2 then -1 else (itN (plS (hC G jk nk mc) s) 256 (cr (stR G), 0, 1000000000, nI 300)).2.2.2) ∧ Fr (fun q => sP q ∨ q = 0 ∨ q = 10) G G' ∧ G'.1 10 = wkRow (itN (plS (hC G jk nk mc) s) 256 (cr (stR G), 0, 1000000000, nI 300)).2.1 s (G.1 10) 4 ∧ cr (stR G') = (itN (plS (hC G jk nk mc) s) 256 (cr (stR G), 0, 1000000000, nI 300)).1 ∧ G'.1 0 = upd (G.1 0) 4 (nI 1)) else (r = -2 ∧ G' = G))) 32 [some (.ref (ad Z (0))), some (.int (s)), some (.int (nI 256)), some (.int (nI p.2.1)), some (.int (p.2.2.1)), some (.int (p.2.2.2)), some (.int (nI c)), o7] [] Gx := by
        intro k0
        induction k0 using Nat.strongRecOn with
        | _ k0 ih =>
          intro c p Gx o7 hk0 hc hp hFx hcr hKx hkin hbw hbest hb256
          refine r_iload6 (pc := 32) C dX8_plan_32 ?_
          refine r_iload2 (pc := 34) C dX8_plan_34 ?_
          refine r_icmp_ge (pc := 35) 97 C dX8_plan_35 (by decide) (fun c35 => ?_) (fun c35 => ?_)
          · obtain rfl : c = 256 := by have := (nI_leI (by omega) (by omega)).mp c35; omega
            refine r_aload0 (pc := 97) C dX8_plan_97 ?_
            refine gX8_28 (pc := 98) C dX8_plan_98 ?_
            refine r_iload3 (pc := 101) C dX8_plan_101 ?_
            refine r_iload1 (pc := 102) C dX8_plan_102 ?_
            refine r_callVi (pc := 103) C rfl dX8_plan_103 kX8_148 gF1 jC6 (tX1_setWakes Z.1 C.w (mc := mc) (c := p.2.1) (s := s) (by rw [hFx.1 6 (by rintro (h | h); exact absurd h (sP_no (by omega)); omega)]; exact hmc) hm8 hb256) rfl rfl (Nat.le_of_ble_eq_true rfl) (by decide) (fun x103 G103 h103 => ?_)
            refine r_pop (pc := 106) C dX8_plan_106 rfl ?_
            refine r_aload0 (pc := 107) C dX8_plan_107 ?_
            refine r_iconst (pc := 108) (v := nI 1) C dX8_plan_108 (by decide) ?_
            refine pX8_41 (pc := 109) C dX8_plan_109 rfl rfl ?_
            refine r_iload5 (pc := 112) C dX8_plan_112 ?_
            refine r_callSi (pc := 114) C rfl dX8_plan_114 kX8_137 (tX8_endOrNone Z.1 C.w) rfl rfl (Nat.le_of_ble_eq_true rfl) (by decide) (fun x114 G114 h114 => ?_)
            obtain ⟨rfl, h114b⟩ := h114
            have h114b := h114b.symm
            subst h114b
            exact r_ireturn (pc := 117) C dX8_plan_117 (by
            rw [if_pos hs, hp]
            obtain ⟨-, hF103, hw103, hb103⟩ := h103
            have hbad2 : badW mc (mF Gx) p.2.1 4 = false := by rw [← hbest]; exact badW_cong (fun i _ => hkin i) _ 4
            have hFz : Fr (fun q => sP q ∨ q = 10) G G103 := hFx.trans (hF103.mono (fun q h => Or.inr h))
            refine ⟨rfl, (hFz.mono (fun q h => h.elim Or.inl (fun h => Or.inr (Or.inr h)))).sI (Or.inr (Or.inl rfl)), ?_, ?_, ?_⟩
            · rw [sI_o (by decide), hw103 hbad2, wkRow_b hbw]
            · rw [← hcr]
              refine Prod.ext ?_ (Prod.ext ?_ (Prod.ext ?_ (Prod.ext ?_ ?_)))
              · funext i
                simp only [cr, stR, mF]
                by_cases h8 : i < 8
                · rw [if_pos h8, if_pos h8, sI_o (by omega), hF103.1 _ (by omega)]
                · rw [if_neg h8, if_neg h8]
              · show (sI G103 0 4 (nI 1)).1 18 = Gx.1 18; rw [sI_o (by decide), hF103.1 18 (by decide)]
              · show (sI G103 0 4 (nI 1)).1 19 = Gx.1 19; rw [sI_o (by decide), hF103.1 19 (by decide)]
              · show (sI G103 0 4 (nI 1)).1 15 5 = Gx.1 15 5; rw [sI_o (by decide), hF103.1 15 (by decide)]
              · show (sI G103 0 4 (nI 1)).1 15 6 = Gx.1 15 6; rw [sI_o (by decide), hF103.1 15 (by decide)]
            · rw [sI_s, hFz.1 0 (by rintro (h | h); exact absurd h (sP_no (by omega)); omega)])
          · have hc256 : c < 256 := by
              rcases Nat.lt_or_ge c 256 with h | h
              · exact h
              · exact absurd (nI_le h (by omega)) c35
            refine r_aload0 (pc := 38) C dX8_plan_38 ?_
            refine gX8_28 (pc := 39) C dX8_plan_39 ?_
            refine r_iload6 (pc := 42) C dX8_plan_42 ?_
            refine r_iload1 (pc := 44) C dX8_plan_44 ?_
            refine r_callVi (pc := 45) C rfl dX8_plan_45 kX8_148 gF1 jC6 (tX1_setWakes Z.1 C.w (mc := mc) (c := c) (s := s) (by rw [hFx.1 6 (by rintro (h | h); exact absurd h (sP_no (by omega)); omega)]; exact hmc) hm8 hc256) rfl rfl (Nat.le_of_ble_eq_true rfl) (by decide) (fun x45 G45 h45 => ?_)
            obtain ⟨rfl, hF45, hw45, hb45⟩ := h45
            have hF45x : Fr (fun q => sP q ∨ q = 10) Gx G45 := hF45.mono (fun q h => Or.inr h)
            have hM45 : mF G45 = mF Gx := mF_fr hF45 (by intro r h1 h2; omega)
            have hcr45 : cr (stR G45) = p.1 := by
              rw [← hcr]
              refine Prod.ext hM45 (Prod.ext (hF45.1 18 (by decide)) (Prod.ext (hF45.1 19 (by decide)) (Prod.ext ?_ ?_)))
              · show G45.1 15 5 = Gx.1 15 5; rw [hF45.1 15 (by decide)]
              · show G45.1 15 6 = Gx.1 15 6; rw [hF45.1 15 (by decide)]
            have hmF : mF Gx = p.1.1 := by rw [← hcr]; rfl
            refine r_if_eq (pc := 48) 91 C dX8_plan_48 (by decide) (fun c48 => ?_) (fun c48 => ?_)
            · refine r_iinc6 (pc := 91) (nI 1) C dX8_plan_91 (by decide) rfl ?_
              rw [nI_add]
              refine r_goto (pc := 94) 32 C dX8_plan_94 (by decide) ?_
              have hbad : badW mc p.1.1 c 4 = true := by
                have := bI_z.mp c48
                rw [hmF] at this
                simpa using this
              refine ih (256 - (c + 1)) (by omega) (c + 1) p _ _ rfl (by omega) ?_ (hFx.trans hF45x) hcr45 (by rw [hM45]; exact hKx) (by rw [hM45]; exact hkin) (fun k hk => by rw [hb45 k hk]; exact hbw k hk) hbest hb256
              rw [itN_s, hp]
              show (if badW mc p.1.1 c 4 = true then p else _) = p
              rw [if_pos hbad]
            · have hbad : badW mc (mF Gx) c 4 = false := by
                have := bI_n.mp c48
                simpa using this
              have hw := hw45 hbad
              have hFa : Fr (fun q => sP q ∨ q = 10) G G45 := hFx.trans hF45x
              have hwk : G45.1 10 = wkRow c s (G.1 10) 4 := by rw [hw, wkRow_b hbw]
              have hh45 : hC G45 jk nk mc = hW (hC G jk nk mc) (wkRow c s (G.1 10) 4) := by rw [← hwk]; exact hC_fr10 hFa hko.1
              refine r_aload0 (pc := 51) C dX8_plan_51 ?_
              refine gX8_37 (pc := 52) C dX8_plan_52 ?_
              refine r_iconst (pc := 55) (v := nI 0) C dX8_plan_55 (by decide) ?_
              refine r_callVv (pc := 56) C rfl dX8_plan_56 kX8_151 gF5 jC15 (tX5_play Z.1 C.w (mc := mc) (fc := fc) (jk := jk) (nk := nk) (kp := false) (by rw [hFa.1 6 (by rintro (h | h); exact absurd h (sP_no (by omega)); omega)]; exact hmc) hm8 (by rw [hM45]; exact hKx) (hko.fr10 hFa) (by rw [hh45]; exact hW_ok hh)) rfl rfl (Nat.le_of_ble_eq_true rfl) (by decide) (fun G56 h56 => ?_)
              obtain ⟨n, hn, hS, hF56, hend⟩ := h56
              have hcr56 : cr (stR G56) = crun (hW (hC G jk nk mc) (wkRow c s (G.1 10) 4)) (crs (hC G jk nk mc) p.1) := by
                rw [hS, cr_it, cr_rs, hcr45, hh45]
                show itN _ n (crs (hC G jk nk mc) p.1) = itN _ 300 (crs (hC G jk nk mc) p.1)
                rcases hend with h | ⟨-, hn0, hdn, hlc⟩
                · rw [h]
                · have hd2 : doneF mc (itN (crk (hW (hC G jk nk mc) (wkRow c s (G.1 10) 4))) n (crs (hC G jk nk mc) p.1)).1 = true := by
                    rw [← hdn]
                    have e1 : mF G56 = (cr (stR G56)).1 := rfl
                    rw [e1, hS, cr_it, cr_rs, hcr45, hh45]
                    rfl
                  have := itN_stop (h := hW (hC G jk nk mc) (wkRow c s (G.1 10) 4)) hd2 (fun t i h1 h2 h3 => by
                    cases hq : hCut (hW (hC G jk nk mc) (wkRow c s (G.1 10) 4)) t i with
                    | false => rfl
                    | true =>
                      exfalso
                      have h4 := hLC t i h2 (Nat.lt_of_lt_of_le h3 hm8) hq
                      rw [hFa.1 11 (by rintro (h | h); exact absurd h (sP_no (by omega)); omega)] at hlc
                      have h5 := Int32.le_trans (Int32.not_lt.mp h4) (Int32.not_lt.mp hlc)
                      have h6 := (nI_leI (by omega) (by omega)).mp h5
                      omega) (300 - n) (by omega)
                  rw [← this]
                  congr 1
                  omega
              have hFn : Fr (fun q => sP q ∨ q = 10) G G56 := hFa.trans (hF56.mono (fun q h => Or.inl h))
              have hmF56 : mF G56 = (crun (hW (hC G jk nk mc) (wkRow c s (G.1 10) 4)) (crs (hC G jk nk mc) p.1)).1 := by rw [← hcr56]; rfl
              have hK56 : kOk mc (mF G56) := by rw [hmF56]; exact (inF_crun (h := hW (hC G jk nk mc) (wkRow c s (G.1 10) 4)) (fc := fc) (hW_ok hh) (c := p.1) (by rw [← hmF]; exact hKx) 300).1
              have hkin56 : kin (mF G) (mF G56) := by rw [hmF56]; exact kin_run (hW (hC G jk nk mc) (wkRow c s (G.1 10) 4)) (c := p.1) (by rw [← hmF]; exact hkin) 300
              have e6 : G56.1 6 = G.1 6 := hFn.1 6 (by rintro (h | h); exact absurd h (sP_no (by omega)); omega)
              refine r_aload0 (pc := 59) C dX8_plan_59 ?_
              refine gX8_37 (pc := 60) C dX8_plan_60 ?_
              refine r_callVi (pc := 63) C rfl dX8_plan_63 kX8_155 gF5 jC15 (tX5_cost Z.1 C.w (mc := mc) (by rw [e6]; exact hmc) hm8) rfl rfl (Nat.le_of_ble_eq_true rfl) (by decide) (fun x63 G63 h63 => ?_)
              obtain ⟨rfl, h63b⟩ := h63
              have h63b := h63b.symm
              subst h63b
              refine r_eqi (y := costF mc (crun (hW (hC G jk nk mc) (wkRow c s (G.1 10) 4)) (crs (hC G jk nk mc) p.1))) (by rw [← hcr56, e6, hmc]; rfl) ?_
              refine r_istore7 (pc := 66) C dX8_plan_66 rfl ?_
              refine r_iload7 (pc := 68) C dX8_plan_68 ?_
              refine r_iload4 (pc := 70) C dX8_plan_70 ?_
              refine r_icmp_ge (pc := 72) 91 C dX8_plan_72 (by decide) (fun c72 => ?_) (fun c72 => ?_)
              · refine r_iinc6 (pc := 91) (nI 1) C dX8_plan_91 (by decide) rfl ?_
                rw [nI_add]
                refine r_goto (pc := 94) 32 C dX8_plan_94 (by decide) ?_
                refine ih (256 - (c + 1)) (by omega) (c + 1) (crun (hW (hC G jk nk mc) (wkRow c s (G.1 10) 4)) (crs (hC G jk nk mc) p.1), p.2) _ _ rfl (by omega) ?_ hFn hcr56 hK56 hkin56 (fun k hk => by rw [hF56.1 10 (sP_no (by omega)), hb45 k hk]; exact hbw k hk) hbest hb256
                rw [itN_s, hp]
                show (if badW mc p.1.1 c 4 = true then p else if costF mc (crun (hW (hC G jk nk mc) (wkRow c s (G.1 10) 4)) (crs (hC G jk nk mc) p.1)) < p.2.2.1 then _ else _) = _
                rw [if_neg (by rw [← hmF, hbad]; decide), if_neg (Int32.not_lt.mpr c72)]
                rfl
              · refine r_iload6 (pc := 75) C dX8_plan_75 ?_
                refine r_istore3 (pc := 77) C dX8_plan_77 rfl ?_
                refine r_iload7 (pc := 78) C dX8_plan_78 ?_
                refine r_istore4 (pc := 80) C dX8_plan_80 rfl ?_
                refine r_aload0 (pc := 82) C dX8_plan_82 ?_
                refine gX8_37 (pc := 83) C dX8_plan_83 ?_
                refine r_callVi (pc := 86) C rfl dX8_plan_86 kX8_134 gF5 jC15 (tX5_settledFrom Z.1 C.w) rfl rfl (Nat.le_of_ble_eq_true rfl) (by decide) (fun x86 G86 h86 => ?_)
                obtain ⟨rfl, h86b⟩ := h86
                have h86b := h86b.symm
                subst h86b
                refine r_eqi (y := endF mc (crun (hW (hC G jk nk mc) (wkRow c s (G.1 10) 4)) (crs (hC G jk nk mc) p.1))) (by rw [← hcr56, e6, hmc]; rfl) ?_
                refine r_istore5 (pc := 89) C dX8_plan_89 rfl ?_
                refine r_iinc6 (pc := 91) (nI 1) C dX8_plan_91 (by decide) rfl ?_
                rw [nI_add]
                refine r_goto (pc := 94) 32 C dX8_plan_94 (by decide) ?_
                refine ih (256 - (c + 1)) (by omega) (c + 1) (crun (hW (hC G jk nk mc) (wkRow c s (G.1 10) 4)) (crs (hC G jk nk mc) p.1), c, costF mc (crun (hW (hC G jk nk mc) (wkRow c s (G.1 10) 4)) (crs (hC G jk nk mc) p.1)), endF mc (crun (hW (hC G jk nk mc) (wkRow c s (G.1 10) 4)) (crs (hC G jk nk mc) p.1))) _ _ rfl (by omega) ?_ hFn hcr56 hK56 hkin56 (fun k hk => by rw [hF56.1 10 (sP_no (by omega)), hb45 k hk]; exact hbw k hk) ?_ (by omega)
                · rw [itN_s, hp]
                  show (if badW mc p.1.1 c 4 = true then p else if costF mc (crun (hW (hC G jk nk mc) (wkRow c s (G.1 10) 4)) (crs (hC G jk nk mc) p.1)) < p.2.2.1 then _ else _) = _
                  rw [if_neg (by rw [← hmF, hbad]; decide), if_pos (Int32.not_le.mp c72)]
                  rfl
                · show badW mc (mF G) c 4 = false
                  rw [← hbad]
                  exact badW_cong (fun i _ => (hkin i).symm) c 4
      refine r_sipush (pc := 14) (v := nI 256) C dX8_plan_14 (by decide) ?_
      refine r_istore2 (pc := 17) C dX8_plan_17 rfl ?_
      refine r_iconst (pc := 18) (v := nI 0) C dX8_plan_18 (by decide) ?_
      refine r_istore3 (pc := 19) C dX8_plan_19 rfl ?_
      refine r_ldc (pc := 20) C dX8_plan_20 ctX8_147 ?_
      refine r_istore4 (pc := 22) C dX8_plan_22 rfl ?_
      refine r_sipush (pc := 24) (v := nI 300) C dX8_plan_24 (by decide) ?_
      refine r_istore5 (pc := 27) C dX8_plan_27 rfl ?_
      refine r_iconst (pc := 29) (v := nI 0) C dX8_plan_29 (by decide) ?_
      refine r_istore6 (pc := 30) C dX8_plan_30 rfl ?_
      exact loop _ 0 (cr (stR G), 0, 1000000000, nI 300) G none rfl (by omega) rfl Fr.refl rfl hK (fun _ => rfl) (fun _ _ => rfl) (badW_0 _ _) (show 0 < 256 by decide)
    · refine r_bipush (pc := 11) (v := (-2)) C dX8_plan_11 (by decide) ?_
      exact r_ireturn (pc := 13) C dX8_plan_13 (by rw [if_neg (fun h => c8 (Int32.not_lt.mp h.2))]; exact ⟨rfl, rfl⟩)
