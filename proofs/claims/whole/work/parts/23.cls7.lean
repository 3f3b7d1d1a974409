set_option maxHeartbeats 4000000 in
set_option maxRecDepth 100000 in
theorem tX5_receive (Y : gY) (hY : Y.2.2.2 = wC) {G : gS} {i t fc : Nat} (hi : i < 8) (ht : t < 300) (hfc : fc ≤ 6) (hO : fOk fc (G.1 8) (G.1 (32 + i))) (hph : G.1 (32 + i) 3 = nI 2) : ∀ l : Launch, gM Y l yX5_receive cX5_receive 5 none (3, 68) [.ref (Y.2.1 (15)), .int (nI i), .int (nI t)] G (qv (fun G' => G' = sW G (32 + i) (rcvF (G.1 6 4) (G.1 8) (G.1 9) (nI t) (decide (G.1 19 (blkN (G.1 (32 + i))) = nI t)) (bt (G.1 12 t) i) (btL (G.2.1 13 (2 * t + blkN (G.1 (32 + i)) / 36)) (blkN (G.1 (32 + i)) % 36)) (G.1 (32 + i))))) := by
  intro l
  refine gM_of hY rfl (Nat.le_of_ble_eq_true rfl) [some (.ref (Y.2.1 (15))), some (.int (nI i)), some (.int (nI t)), none, none] rfl rfl ?_
  rintro Z rfl C
  obtain ⟨o1, o2, o3, o4, o5⟩ := hO.1 hph
  have hbk : (G.1 (32 + i)) 4 * nI 12 + (G.1 (32 + i)) 5 = nI (blkN (G.1 (32 + i))) := by
    rw [o1, o3, pk_mul, nI_add]
    unfold blkN
    rw [o1, o3, cN_nI (by omega), cN_nI (by omega), Nat.mul_comm]
  have hb72 : blkN (G.1 (32 + i)) < 72 := by unfold blkN; omega
  refine r_aload0 (pc := 0) C dX5_receive_0 ?_
  refine gX5_31 (pc := 1) C dX5_receive_1 ?_
  refine gX5_85 (pc := 4) C dX5_receive_4 ?_
  refine r_iload1 (pc := 7) C dX5_receive_7 ?_
  refine r_aald (pc := 8) (i) C dX5_receive_8 aC7 (fun _ => rfl) (rfl) (by omega) (rfl) ?_
  refine r_astore3 (pc := 9) C dX5_receive_9 rfl ?_
  refine r_aload3 (pc := 10) C dX5_receive_10 ?_
  refine r_callSi (pc := 11) C rfl dX5_receive_11 kX5_181 (tX5_wantedBlock Z.1 C.w (by omega)) rfl rfl (Nat.le_of_ble_eq_true rfl) (by decide) (fun x11 G11 h11 => ?_)
  obtain ⟨rfl, h11b⟩ := h11
  have h11b := h11b.symm
  subst h11b
  refine r_eqi hbk ?_
  refine r_istore4 (pc := 14) C dX5_receive_14 rfl ?_
  refine r_aload0 (pc := 16) C dX5_receive_16 ?_
  refine gX5_22 (pc := 17) C dX5_receive_17 ?_
  refine r_iload4 (pc := 20) C dX5_receive_20 ?_
  refine r_iald (pc := 22) (_) C dX5_receive_22 aC19 (rfl) (by omega) ?_
  refine r_iload2 (pc := 23) C dX5_receive_23 ?_
  refine r_icmp_ne (pc := 24) 42 C dX5_receive_24 (by decide) (fun c24 => ?_) (fun c24 => ?_)
  · refine r_aload3 (pc := 42) C dX5_receive_42 ?_
    refine r_callVv (pc := 43) C rfl dX5_receive_43 kX5_197 gF2 (jCm (by omega)) (tX2_getNone Z.1 C.w (by omega)) rfl rfl (Nat.le_of_ble_eq_true rfl) (by decide) (fun G43 h43 => ?_)
    subst h43
    refine r_goto (pc := 46) 114 C dX5_receive_46 (by decide) ?_
    exact r_return (pc := 114) C dX5_receive_114 (by rw [rcvF, if_pos (by rw [decide_eq_false c24]; rfl)])
  · refine r_aload0 (pc := 27) C dX5_receive_27 ?_
    refine gX5_31 (pc := 28) C dX5_receive_28 ?_
    refine gX5_59 (pc := 31) C dX5_receive_31 ?_
    refine r_iload1 (pc := 34) C dX5_receive_34 ?_
    refine r_iload2 (pc := 35) C dX5_receive_35 ?_
    refine r_callVi (pc := 36) C rfl dX5_receive_36 kX5_121 gF0 jC11 (tX0_isLost Z.1 C.w (m := i) (t := t) (by omega) ht) rfl rfl (Nat.le_of_ble_eq_true rfl) (by decide) (fun x36 G36 h36 => ?_)
    obtain ⟨rfl, h36b⟩ := h36
    have h36b := h36b.symm
    subst h36b
    refine r_if_eq (pc := 39) 49 C dX5_receive_39 (by decide) (fun c39 => ?_) (fun c39 => ?_)
    · refine r_aload0 (pc := 49) C dX5_receive_49 ?_
      refine gX5_31 (pc := 50) C dX5_receive_50 ?_
      refine gX5_59 (pc := 53) C dX5_receive_53 ?_
      refine r_iload4 (pc := 56) C dX5_receive_56 ?_
      refine r_iload2 (pc := 58) C dX5_receive_58 ?_
      refine r_callVi (pc := 59) C rfl dX5_receive_59 kX5_200 gF0 jC11 (tX0_isWrong Z.1 C.w (b := blkN (G.1 (32 + i))) (t := t) hb72 ht) rfl rfl (Nat.le_of_ble_eq_true rfl) (by decide) (fun x59 G59 h59 => ?_)
      obtain ⟨rfl, h59b⟩ := h59
      have h59b := h59b.symm
      subst h59b
      refine r_if_eq (pc := 62) 72 C dX5_receive_62 (by decide) (fun c62 => ?_) (fun c62 => ?_)
      · refine r_aload3 (pc := 72) C dX5_receive_72 ?_
        refine r_iconst (pc := 73) (v := nI 0) C dX5_receive_73 (by decide) ?_
        refine pX5_206 (pc := 74) C (by omega) dX5_receive_74 ?_
        refine r_aload3 (pc := 77) C dX5_receive_77 ?_
        refine r_dup (pc := 78) C dX5_receive_78 rfl ?_
        refine gX5_194 (pc := 79) C (by omega) dX5_receive_79 ?_
        refine r_iconst (pc := 82) (v := nI 1) C dX5_receive_82 (by decide) ?_
        refine r_iadd (pc := 83) C dX5_receive_83 ?_
        refine pX5_194 (pc := 84) C (by omega) dX5_receive_84 ?_
        refine r_G (show _ = sW G (32 + i) (upd (upd (G.1 (32 + i)) 10 (nI 0)) 5 ((G.1 (32 + i)) 5 + nI 1)) from by simp only [sI0, sW_s, sW_W, upd_s]; rfl) ?_
        refine r_aload3 (pc := 87) C dX5_receive_87 ?_
        refine gX5_194 (pc := 88) C (by omega) dX5_receive_88 ?_
        refine r_eqi (y := (G.1 (32 + i)) 5 + nI 1) (by rw [sW_s, upd_s]) ?_
        refine r_aload0 (pc := 91) C dX5_receive_91 ?_
        refine gX5_31 (pc := 92) C dX5_receive_92 ?_
        refine gX5_209 (pc := 95) C dX5_receive_95 ?_
        refine r_aload3 (pc := 98) C dX5_receive_98 ?_
        refine gX5_191 (pc := 99) C (by omega) dX5_receive_99 ?_
        refine r_eqi (y := nI (cN ((G.1 (32 + i)) 4))) (by rw [sW_s]; exact o1) ?_
        refine r_iald (pc := 102) (_) C dX5_receive_102 aC8 (rfl) (by omega) ?_
        refine r_eqi (y := G.1 8 (cN ((G.1 (32 + i)) 4))) (by rw [sW_o _ _ _ (by omega)]) ?_
        refine r_icmp_lt (pc := 103) 114 C dX5_receive_103 (by decide) (fun c103 => ?_) (fun c103 => ?_)
        · exact r_return (pc := 114) C dX5_receive_114 (by rw [rcvF, if_neg (by rw [decide_eq_true c24, bI_z.mp c39]; decide), if_neg (by rw [bI_z.mp c62]; decide), if_pos c103])
        · refine r_aload0 (pc := 106) C dX5_receive_106 ?_
          refine r_aload3 (pc := 107) C dX5_receive_107 ?_
          refine r_iload2 (pc := 108) C dX5_receive_108 ?_
          refine r_iconst (pc := 109) (v := nI 1) C dX5_receive_109 (by decide) ?_
          refine r_iadd (pc := 110) C dX5_receive_110 ?_
          refine r_callVv (pc := 111) C rfl dX5_receive_111 kX5_212 gF5 jC15 (tX5_goOn Z.1 C.w (a := cN ((G.1 (32 + i)) 4)) (by omega) (by rw [sW_s]; exact o1) (by omega)) rfl rfl (Nat.le_of_ble_eq_true rfl) (by decide) (fun G111 h111 => ?_)
          subst h111
          exact r_return (pc := 114) C dX5_receive_114 (by rw [rcvF, if_neg (by rw [decide_eq_true c24, bI_z.mp c39]; decide), if_neg (by rw [bI_z.mp c62]; decide), if_neg c103, sW_s, sW_W, sW_o _ _ _ (by omega), sW_o _ _ _ (by omega)])
      · refine r_aload3 (pc := 65) C dX5_receive_65 ?_
        refine r_callVv (pc := 66) C rfl dX5_receive_66 kX5_203 gF2 (jCm (by omega)) (tX2_getWrong Z.1 C.w (by omega)) rfl rfl (Nat.le_of_ble_eq_true rfl) (by decide) (fun G66 h66 => ?_)
        subst h66
        refine r_goto (pc := 69) 114 C dX5_receive_69 (by decide) ?_
        exact r_return (pc := 114) C dX5_receive_114 (by rw [rcvF, if_neg (by rw [decide_eq_true c24, bI_z.mp c39]; decide), if_pos (bI_n.mp c62)])
    · refine r_aload3 (pc := 42) C dX5_receive_42 ?_
      refine r_callVv (pc := 43) C rfl dX5_receive_43 kX5_197 gF2 (jCm (by omega)) (tX2_getNone Z.1 C.w (by omega)) rfl rfl (Nat.le_of_ble_eq_true rfl) (by decide) (fun G43 h43 => ?_)
      subst h43
      refine r_goto (pc := 46) 114 C dX5_receive_46 (by decide) ?_
      exact r_return (pc := 114) C dX5_receive_114 (by rw [rcvF, if_pos (by rw [bI_n.mp c39]; simp)])
set_option maxHeartbeats 4000000 in
set_option maxRecDepth 100000 in
theorem tX5_lineUp (Y : gY) (hY : Y.2.2.2 = wC) {G : gS} {mc t : Nat} (hmc : G.1 6 1 = nI mc) (hm8 : mc ≤ 8) (ht : t < 300) : ∀ l : Launch, gM Y l yX5_lineUp cX5_lineUp 6 (some .int) (0, 0) [.ref (Y.2.1 (15)), .int (nI t)] G (qi (fun r G' => ∃ L : List Nat, r = nI L.length ∧ Fr (fun q => q = 20) G G' ∧ lineOk (nI t) mc (mF G) L ∧ L.length ≤ mc ∧ ∀ k, k < L.length → G'.1 20 k = nI (L.getD k 0))) := by
  intro l
  refine gM_of hY rfl (Nat.le_of_ble_eq_true rfl) [some (.ref (Y.2.1 (15))), some (.int (nI t)), none, none, none, none] rfl rfl ?_
  rintro Z rfl C
  have loop : ∀ (k0 : Nat) (x : Nat) (L : List Nat) (Gx : gS) (o4 o5 : Option Value), k0 = mc - x → x ≤ mc → Fr (fun q => q = 20) G Gx → lineOk (nI t) x (mF G) L → L.length ≤ x → (∀ k, k < L.length → Gx.1 20 k = nI (L.getD k 0)) → WW Z (qi (fun r G' => ∃ L : List Nat, r = nI L.length ∧ Fr (fun q => q = 20) G G' ∧ lineOk (nI t) mc (mF G) L ∧ L.length ≤ mc ∧ ∀ k, k < L.length → G'.1 20 k = nI (L.getD k 0))) 4 [some (.ref (ad Z (15))), some (.int (nI t)), some (.int (nI L.length)), some (.int (nI x)), o4, o5] [] Gx := by
    intro k0
    induction k0 using Nat.strongRecOn with
    | _ k0 ih =>
      intro x L Gx o4 o5 hk0 hx hF hL hLx hR
      have e6 : Gx.1 6 1 = nI mc := by rw [hF.1 _ (by omega)]; exact hmc
      refine r_iload3 (pc := 4) C dX5_lineUp_4 ?_
      refine r_aload0 (pc := 5) C dX5_lineUp_5 ?_
      refine gX5_31 (pc := 6) C dX5_lineUp_6 ?_
      refine gX5_82 (pc := 9) C dX5_lineUp_9 ?_
      refine r_eqi e6 ?_
      refine r_icmp_ge (pc := 12) 119 C dX5_lineUp_12 (by decide) (fun c12 => ?_) (fun c12 => ?_)
      · obtain rfl : x = mc := by have := (nI_leI (by omega) (by omega)).mp c12; omega
        refine r_iload2 (pc := 119) C dX5_lineUp_119 ?_
        exact r_ireturn (pc := 120) C dX5_lineUp_120 (⟨L, rfl, hF, hL, by omega, hR⟩)
      · have hlt12 : x < mc := by
          rcases Nat.lt_or_ge x mc with h | h
          · exact h
          · exact absurd (nI_le h (by omega)) c12
        refine r_aload0 (pc := 15) C dX5_lineUp_15 ?_
        refine gX5_31 (pc := 16) C dX5_lineUp_16 ?_
        refine gX5_85 (pc := 19) C dX5_lineUp_19 ?_
        refine r_iload3 (pc := 22) C dX5_lineUp_22 ?_
        refine r_aald (pc := 23) (x) C dX5_lineUp_23 aC7 (fun _ => rfl) (rfl) (by omega) (rfl) ?_
        refine r_astore4 (pc := 24) C dX5_lineUp_24 rfl ?_
        refine r_aload4 (pc := 26) C dX5_lineUp_26 ?_
        refine gX5_99 (pc := 28) C (by omega) dX5_lineUp_28 ?_
        refine r_iconst (pc := 31) (v := nI 2) C dX5_lineUp_31 (by decide) ?_
        refine r_icmp_ne (pc := 32) 113 C dX5_lineUp_32 (by decide) (fun c32 => ?_) (fun c32 => ?_)
        · refine r_iinc3 (pc := 113) (nI 1) C dX5_lineUp_113 (by decide) rfl ?_
          rw [nI_add]
          refine r_goto (pc := 116) 4 C dX5_lineUp_116 (by decide) ?_
          refine ih (mc - (x + 1)) (by omega) (x + 1) L _ _ _ rfl (by omega) hF (line_skip hL ?_) (by omega) hR
          rw [mF_i (show x < 8 by omega)]
          exact decide_eq_false (fun h => by rw [hF.1 _ (by omega)] at c32; exact c32 h.1)
        · refine r_aload4 (pc := 35) C dX5_lineUp_35 ?_
          refine gX5_188 (pc := 37) C (by omega) dX5_lineUp_37 ?_
          refine r_iload1 (pc := 40) C dX5_lineUp_40 ?_
          refine r_icmp_gt (pc := 41) 113 C dX5_lineUp_41 (by decide) (fun c41 => ?_) (fun c41 => ?_)
          · refine r_iinc3 (pc := 113) (nI 1) C dX5_lineUp_113 (by decide) rfl ?_
            rw [nI_add]
            refine r_goto (pc := 116) 4 C dX5_lineUp_116 (by decide) ?_
            refine ih (mc - (x + 1)) (by omega) (x + 1) L _ _ _ rfl (by omega) hF (line_skip hL ?_) (by omega) hR
            rw [mF_i (show x < 8 by omega)]
            exact decide_eq_false (fun h => by rw [hF.1 _ (by omega)] at c41; exact h.2 c41)
          · have hw : wantB (nI t) (mF G x) = true := by
              rw [mF_i (show x < 8 by omega)]
              rw [hF.1 _ (by omega)] at c32 c41
              exact decide_eq_true ⟨c32, c41⟩
            refine r_iload2 (pc := 44) C dX5_lineUp_44 ?_
            refine r_istore5 (pc := 45) C dX5_lineUp_45 rfl ?_
            have done : ∀ (M : List Nat) (Gy : gS), nI (L.length + 1) = nI M.length → Fr (fun q => q = 20) G Gy → lineOk (nI t) (x + 1) (mF G) M → M.length ≤ x + 1 → (∀ k, k < M.length → Gy.1 20 k = nI (M.getD k 0)) → ∀ o5 : Option Value, WW Z (qi (fun r G' => ∃ L : List Nat, r = nI L.length ∧ Fr (fun q => q = 20) G G' ∧ lineOk (nI t) mc (mF G) L ∧ L.length ≤ mc ∧ ∀ k, k < L.length → G'.1 20 k = nI (L.getD k 0))) 113 [some (.ref (ad Z 15)), some (.int (nI t)), some (.int (nI (L.length + 1))), some (.int (nI x)), some (.ref (ad Z (32 + x))), o5] [] Gy := by
              intro M Gy hlen hFy hM hMx hRy o5
              refine r_iinc3 (pc := 113) (nI 1) C dX5_lineUp_113 (by decide) rfl ?_
              rw [nI_add, hlen]
              refine r_goto (pc := 116) 4 C dX5_lineUp_116 (by decide) ?_
              exact ih (mc - (x + 1)) (by omega) (x + 1) M _ _ _ rfl (by omega) hFy hM hMx hRy
            have inn : ∀ (k2 a : Nat) (Gx : gS), k2 = a → a ≤ L.length → Fr (fun q => q = 20) G Gx → (∀ k, k < a → Gx.1 20 k = nI (L.getD k 0)) → (∀ k, a < k → k ≤ L.length → Gx.1 20 k = nI (L.getD (k - 1) 0)) → (∀ k, a ≤ k → k < L.length → mF G x 14 < mF G (L.getD k 0) 14) → WW Z (qi (fun r G' => ∃ L : List Nat, r = nI L.length ∧ Fr (fun q => q = 20) G G' ∧ lineOk (nI t) mc (mF G) L ∧ L.length ≤ mc ∧ ∀ k, k < L.length → G'.1 20 k = nI (L.getD k 0))) 47 [some (.ref (ad Z (15))), some (.int (nI t)), some (.int (nI L.length)), some (.int (nI x)), some (.ref (ad Z (32 + x))), some (.int (nI a))] [] Gx := by
              intro k2
              induction k2 using Nat.strongRecOn with
              | _ k2 ih2 =>
                intro a Gx hk2 haL hF2 hlo hhi hsi
                refine r_iload5 (pc := 47) C dX5_lineUp_47 ?_
                refine r_if_le (pc := 49) 102 C dX5_lineUp_49 (by decide) (fun c49 => ?_) (fun c49 => ?_)
                · obtain rfl : a = 0 := by
                    rcases Nat.eq_zero_or_pos a with h | h
                    · exact h
                    · exact absurd c49 (nI_nle h (by omega))
                  have hlast : ∀ k, k < 0 → ¬ mF G x 14 < mF G (L.getD k 0) 14 := fun k hk => absurd hk (Nat.not_lt_zero k)
                  refine r_aload0 (pc := 102) C dX5_lineUp_102 ?_
                  refine gX5_25 (pc := 103) C dX5_lineUp_103 ?_
                  refine r_iload5 (pc := 106) C dX5_lineUp_106 ?_
                  refine r_iload3 (pc := 108) C dX5_lineUp_108 ?_
                  refine r_iast (pc := 109) (_) C dX5_lineUp_109 aC20 (rfl) (by omega) ?_
                  refine r_iinc2 (pc := 110) (nI 1) C dX5_lineUp_110 (by decide) rfl ?_
                  rw [nI_add]
                  have hins := line_ins hL hw (show 0 ≤ L.length by omega) hlast hsi
                  refine done _ _ (by rw [insAt_len (by omega)]) (hF2.sI rfl) hins (by rw [insAt_len (by omega)]; omega) ?_ _
                  intro k hk
                  rw [insAt_len (by omega)] at hk
                  rw [insAt_getD (by omega), sI_s]
                  by_cases e1 : k < 0
                  · rw [if_pos e1, upd_o (by omega)]; exact hlo k e1
                  · rw [if_neg e1]
                    by_cases e2 : k = 0
                    · rw [if_pos e2, e2, upd_s]
                    · rw [if_neg e2, upd_o e2]; exact hhi k (by omega) (by omega)
                · have ha0 : 0 < a := by
                    rcases Nat.eq_zero_or_pos a with h | h
                    · exact absurd (by rw [h]; decide) c49
                    · exact h
                  have hu : L.getD (a - 1) 0 < x := ((hL.1 _).mp (getD_mem (by omega))).1
                  refine r_aload0 (pc := 52) C dX5_lineUp_52 ?_
                  refine gX5_31 (pc := 53) C dX5_lineUp_53 ?_
                  refine gX5_85 (pc := 56) C dX5_lineUp_56 ?_
                  refine r_aload0 (pc := 59) C dX5_lineUp_59 ?_
                  refine gX5_25 (pc := 60) C dX5_lineUp_60 ?_
                  refine r_iload5 (pc := 63) C dX5_lineUp_63 ?_
                  refine r_iconst (pc := 65) (v := nI 1) C dX5_lineUp_65 (by decide) ?_
                  refine r_isub (pc := 66) C dX5_lineUp_66 ?_
                  refine r_eqi (pk_sub (a := a) (b := 1) (by omega)) ?_
                  refine r_iald (pc := 67) (_) C dX5_lineUp_67 aC20 (rfl) (by omega) ?_
                  refine r_eqi (y := nI (L.getD (a - 1) 0)) (hlo (a - 1) (by omega)) ?_
                  refine r_aald (pc := 68) (L.getD (a - 1) 0) C dX5_lineUp_68 aC7 (fun _ => rfl) (rfl) (by omega) (rfl) ?_
                  refine gX5_188 (pc := 69) C (by omega) dX5_lineUp_69 ?_
                  refine r_eqi (y := mF G (L.getD (a - 1) 0) 14) (by rw [hF2.1 _ (by omega), mF_i (show L.getD (a - 1) 0 < 8 by omega)]) ?_
                  refine r_aload4 (pc := 72) C dX5_lineUp_72 ?_
                  refine gX5_188 (pc := 74) C (by omega) dX5_lineUp_74 ?_
                  refine r_eqi (y := mF G x 14) (by rw [hF2.1 _ (by omega), mF_i (show x < 8 by omega)]) ?_
                  refine r_icmp_le (pc := 77) 102 C dX5_lineUp_77 (by decide) (fun c77 => ?_) (fun c77 => ?_)
                  · have hlast : ∀ k, k < a → ¬ mF G x 14 < mF G (L.getD k 0) 14 := by
                      intro k hk
                      by_cases e : k = a - 1
                      · subst e; exact Int32.not_lt.mpr c77
                      · have h1 := line_le hL.2 (k := k) (m := a - 1) (by omega) (by omega)
                        exact Int32.not_lt.mpr (Int32.le_trans (Int32.not_lt.mp h1) c77)
                    refine r_aload0 (pc := 102) C dX5_lineUp_102 ?_
                    refine gX5_25 (pc := 103) C dX5_lineUp_103 ?_
                    refine r_iload5 (pc := 106) C dX5_lineUp_106 ?_
                    refine r_iload3 (pc := 108) C dX5_lineUp_108 ?_
                    refine r_iast (pc := 109) (_) C dX5_lineUp_109 aC20 (rfl) (by omega) ?_
                    refine r_iinc2 (pc := 110) (nI 1) C dX5_lineUp_110 (by decide) rfl ?_
                    rw [nI_add]
                    have hins := line_ins hL hw (show a ≤ L.length by omega) hlast hsi
                    refine done _ _ (by rw [insAt_len (by omega)]) (hF2.sI rfl) hins (by rw [insAt_len (by omega)]; omega) ?_ _
                    intro k hk
                    rw [insAt_len (by omega)] at hk
                    rw [insAt_getD (by omega), sI_s]
                    by_cases e1 : k < a
                    · rw [if_pos e1, upd_o (by omega)]; exact hlo k e1
                    · rw [if_neg e1]
                      by_cases e2 : k = a
                      · rw [if_pos e2, e2, upd_s]
                      · rw [if_neg e2, upd_o e2]; exact hhi k (by omega) (by omega)
                  · have hgt : mF G x 14 < mF G (L.getD (a - 1) 0) 14 := Int32.not_le.mp c77
                    refine r_aload0 (pc := 80) C dX5_lineUp_80 ?_
                    refine gX5_25 (pc := 81) C dX5_lineUp_81 ?_
                    refine r_iload5 (pc := 84) C dX5_lineUp_84 ?_
                    refine r_aload0 (pc := 86) C dX5_lineUp_86 ?_
                    refine gX5_25 (pc := 87) C dX5_lineUp_87 ?_
                    refine r_iload5 (pc := 90) C dX5_lineUp_90 ?_
                    refine r_iconst (pc := 92) (v := nI 1) C dX5_lineUp_92 (by decide) ?_
                    refine r_isub (pc := 93) C dX5_lineUp_93 ?_
                    refine r_eqi (pk_sub (a := a) (b := 1) (by omega)) ?_
                    refine r_iald (pc := 94) (_) C dX5_lineUp_94 aC20 (rfl) (by omega) ?_
                    refine r_iast (pc := 95) (_) C dX5_lineUp_95 aC20 (rfl) (by omega) ?_
                    refine r_iinc5 (pc := 96) ((-1)) C dX5_lineUp_96 (by decide) rfl ?_
                    rw [show nI a + (-1) = nI (a - 1) from by obtain ⟨q, rfl⟩ : ∃ q, a = q + 1 := ⟨a - 1, by omega⟩; exact pk_m1 q]
                    refine r_goto (pc := 99) 47 C dX5_lineUp_99 (by decide) ?_
                    refine ih2 (a - 1) (by omega) (a - 1) _ rfl (by omega) (hF2.sI rfl) ?_ ?_ ?_
                    · intro k hk
                      rw [sI_s, upd_o (by omega)]
                      exact hlo k (by omega)
                    · intro k hk1 hk2
                      rw [sI_s]
                      by_cases e : k = a
                      · subst e
                        rw [upd_s, hlo (k - 1) (by omega)]
                      · rw [upd_o e]
                        exact hhi k (by omega) hk2
                    · intro k hk1 hk2
                      by_cases e : k = a - 1
                      · subst e; exact hgt
                      · exact hsi k (by omega) hk2
            exact inn _ L.length Gx rfl (Nat.le_refl _) hF hR (fun k h1 h2 => by omega) (fun k h1 h2 => by omega)
  refine r_iconst (pc := 0) (v := nI 0) C dX5_lineUp_0 (by decide) ?_
  refine r_istore2 (pc := 1) C dX5_lineUp_1 rfl ?_
  refine r_iconst (pc := 2) (v := nI 0) C dX5_lineUp_2 (by decide) ?_
  refine r_istore3 (pc := 3) C dX5_lineUp_3 rfl ?_
  exact loop _ 0 [] G none none rfl (Nat.zero_le _) Fr.refl ⟨fun i => ⟨fun h => absurd h List.not_mem_nil, fun h => by omega⟩, List.Pairwise.nil⟩ (Nat.le_refl _) (fun k hk => absurd hk (Nat.not_lt_zero k))
