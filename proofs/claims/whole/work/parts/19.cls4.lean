set_option maxHeartbeats 4000000 in
set_option maxRecDepth 100000 in
theorem tX1_hasKind (Y : gY) (hY : Y.2.2.2 = wC) {G : gS} {mc : Nat} (hmc : G.1 6 1 = nI mc) (hm8 : mc ≤ 8) {k : Int32} : ∀ l : Launch, gM Y l yX1_hasKind cX1_hasKind 3 (some .boolean) (0, 0) [.ref (Y.2.1 (6)), .int (k)] G (qi (fun r G' => r = bI (hasK mc (mF G) k) ∧ G' = G)) := by
  intro l
  refine gM_of hY rfl (Nat.le_of_ble_eq_true rfl) [some (.ref (Y.2.1 (6))), some (.int (k)), none] rfl rfl ?_
  rintro Z rfl C
  have loop : ∀ (k0 : Nat) (x : Nat), k0 = mc - x → x ≤ mc → anyN (fun i => mF G i 0 == k) x = false → WW Z (qi (fun r G' => r = bI (hasK mc (mF G) k) ∧ G' = G)) 2 [some (.ref (ad Z (6))), some (.int (k)), some (.int (nI x))] [] G := by
    intro k0
    induction k0 using Nat.strongRecOn with
    | _ k0 ih =>
      intro x hk0 hx hp
      refine r_iload2 (pc := 2) C dX1_hasKind_2 ?_
      refine r_aload0 (pc := 3) C dX1_hasKind_3 ?_
      refine gX1_46 (pc := 4) C dX1_hasKind_4 ?_
      refine r_eqi hmc ?_
      refine r_icmp_ge (pc := 7) 31 C dX1_hasKind_7 (by decide) (fun c7 => ?_) (fun c7 => ?_)
      · obtain rfl : x = mc := by have := (nI_leI (by omega) (by omega)).mp c7; omega
        refine r_iconst (pc := 31) (v := nI 0) C dX1_hasKind_31 (by decide) ?_
        exact r_zreturn (pc := 32) C dX1_hasKind_32 (rfl) (⟨by rw [hasK, hp]; rfl, rfl⟩)
      · have hlt7 : x < mc := by
          rcases Nat.lt_or_ge x mc with h | h
          · exact h
          · exact absurd (nI_le h (by omega)) c7
        refine r_aload0 (pc := 10) C dX1_hasKind_10 ?_
        refine gX1_11 (pc := 11) C dX1_hasKind_11 ?_
        refine r_iload2 (pc := 14) C dX1_hasKind_14 ?_
        refine r_aald (pc := 15) (x) C dX1_hasKind_15 aC7 (fun _ => rfl) (rfl) (by omega) (rfl) ?_
        refine gX1_49 (pc := 16) C (by omega) dX1_hasKind_16 ?_
        refine r_iload1 (pc := 19) C dX1_hasKind_19 ?_
        refine r_icmp_ne (pc := 20) 25 C dX1_hasKind_20 (by decide) (fun c20 => ?_) (fun c20 => ?_)
        · refine r_iinc2 (pc := 25) (nI 1) C dX1_hasKind_25 (by decide) rfl ?_
          rw [nI_add]
          refine r_goto (pc := 28) 2 C dX1_hasKind_28 (by decide) ?_
          exact ih (mc - (x + 1)) (by omega) (x + 1) rfl (by omega) (anyN_f hp (by rw [mF_i (by omega)]; simp [c20]))
        · refine r_iconst (pc := 23) (v := nI 1) C dX1_hasKind_23 (by decide) ?_
          exact r_zreturn (pc := 24) C dX1_hasKind_24 (rfl) (⟨by rw [hasK, anyN_t (x := x) (by rw [mF_i (by omega)]; simp [c20]) hlt7]; rfl, rfl⟩)
  refine r_iconst (pc := 0) (v := nI 0) C dX1_hasKind_0 (by decide) ?_
  refine r_istore2 (pc := 1) C dX1_hasKind_1 rfl ?_
  exact loop _ 0 rfl (Nat.zero_le _) rfl
set_option maxHeartbeats 4000000 in
set_option maxRecDepth 100000 in
theorem tX1_mustWait (Y : gY) (hY : Y.2.2.2 = wC) {G : gS} {mc m : Nat} (hmc : G.1 6 1 = nI mc) (hm8 : mc ≤ 8) (hm : m < 8) (hK : kOk mc (mF G)) {ks : Int32} : ∀ l : Launch, gM Y l yX1_mustWait cX1_mustWait 5 (some .boolean) (0, 0) [.ref (Y.2.1 (6)), .int (nI m), .int (ks)] G (qi (fun r G' => r = bI (waitsF mc (mF G) m ks) ∧ G' = G)) := by
  intro l
  refine gM_of hY rfl (Nat.le_of_ble_eq_true rfl) [some (.ref (Y.2.1 (6))), some (.int (nI m)), some (.int (ks)), none, none] rfl rfl ?_
  rintro Z rfl C
  have loop : ∀ (k0 : Nat) (x : Nat) (o4 : Option Value), k0 = mc - x → x ≤ mc → anyN (fun i => decide (i ≠ m) && bt ks (kN (mF G i)) && !(mF G i 3 == nI 4)) x = false → WW Z (qi (fun r G' => r = bI (waitsF mc (mF G) m ks) ∧ G' = G)) 2 [some (.ref (ad Z (6))), some (.int (nI m)), some (.int (ks)), some (.int (nI x)), o4] [] G := by
    intro k0
    induction k0 using Nat.strongRecOn with
    | _ k0 ih =>
      intro x o4 hk0 hx hp
      refine r_iload3 (pc := 2) C dX1_mustWait_2 ?_
      refine r_aload0 (pc := 3) C dX1_mustWait_3 ?_
      refine gX1_46 (pc := 4) C dX1_mustWait_4 ?_
      refine r_eqi hmc ?_
      refine r_icmp_ge (pc := 7) 52 C dX1_mustWait_7 (by decide) (fun c7 => ?_) (fun c7 => ?_)
      · obtain rfl : x = mc := by have := (nI_leI (by omega) (by omega)).mp c7; omega
        refine r_iconst (pc := 52) (v := nI 0) C dX1_mustWait_52 (by decide) ?_
        exact r_zreturn (pc := 53) C dX1_mustWait_53 (rfl) (⟨by rw [waitsF, hp]; rfl, rfl⟩)
      · have hlt7 : x < mc := by
          rcases Nat.lt_or_ge x mc with h | h
          · exact h
          · exact absurd (nI_le h (by omega)) c7
        obtain ⟨k1, k2⟩ := kOk_i hK hlt7 (by omega)
        refine r_aload0 (pc := 10) C dX1_mustWait_10 ?_
        refine gX1_11 (pc := 11) C dX1_mustWait_11 ?_
        refine r_iload3 (pc := 14) C dX1_mustWait_14 ?_
        refine r_aald (pc := 15) (x) C dX1_mustWait_15 aC7 (fun _ => rfl) (rfl) (by omega) (rfl) ?_
        refine r_astore4 (pc := 16) C dX1_mustWait_16 rfl ?_
        refine r_iload3 (pc := 18) C dX1_mustWait_18 ?_
        refine r_iload1 (pc := 19) C dX1_mustWait_19 ?_
        refine r_icmp_eq (pc := 20) 46 C dX1_mustWait_20 (by decide) (fun c20 => ?_) (fun c20 => ?_)
        · refine r_iinc3 (pc := 46) (nI 1) C dX1_mustWait_46 (by decide) rfl ?_
          rw [nI_add]
          refine r_goto (pc := 49) 2 C dX1_mustWait_49 (by decide) ?_
          have hxm : x = m := (nI_eq (by omega) (by omega)).mp c20
          refine ih (mc - (x + 1)) (by omega) (x + 1) _ rfl (by omega) (anyN_f hp (by simp [hxm]))
        · refine r_iload2 (pc := 23) C dX1_mustWait_23 ?_
          refine r_aload4 (pc := 24) C dX1_mustWait_24 ?_
          refine gX1_49 (pc := 26) C (by omega) dX1_mustWait_26 ?_
          refine r_eqi k1 ?_
          refine r_iushr (pc := 29) C dX1_mustWait_29 ?_
          refine r_iconst (pc := 30) (v := nI 1) C dX1_mustWait_30 (by decide) ?_
          refine r_iand (pc := 31) C dX1_mustWait_31 ?_
          refine r_eqi (bt_get ks (by omega)) ?_
          refine r_if_eq (pc := 32) 46 C dX1_mustWait_32 (by decide) (fun c32 => ?_) (fun c32 => ?_)
          · refine r_iinc3 (pc := 46) (nI 1) C dX1_mustWait_46 (by decide) rfl ?_
            rw [nI_add]
            refine r_goto (pc := 49) 2 C dX1_mustWait_49 (by decide) ?_
            refine ih (mc - (x + 1)) (by omega) (x + 1) _ rfl (by omega) (anyN_f hp (by rw [mF_i (by omega), bI_z.mp c32]; simp))
          · refine r_aload4 (pc := 35) C dX1_mustWait_35 ?_
            refine gX1_69 (pc := 37) C (by omega) dX1_mustWait_37 ?_
            refine r_iconst (pc := 40) (v := nI 4) C dX1_mustWait_40 (by decide) ?_
            refine r_icmp_eq (pc := 41) 46 C dX1_mustWait_41 (by decide) (fun c41 => ?_) (fun c41 => ?_)
            · refine r_iinc3 (pc := 46) (nI 1) C dX1_mustWait_46 (by decide) rfl ?_
              rw [nI_add]
              refine r_goto (pc := 49) 2 C dX1_mustWait_49 (by decide) ?_
              refine ih (mc - (x + 1)) (by omega) (x + 1) _ rfl (by omega) (anyN_f hp (by rw [mF_i (by omega)]; simp [c41]))
            · refine r_iconst (pc := 44) (v := nI 1) C dX1_mustWait_44 (by decide) ?_
              exact r_zreturn (pc := 45) C dX1_mustWait_45 (rfl) (⟨by rw [waitsF, anyN_t (x := x) (by rw [mF_i (by omega), bI_n.mp c32]; simp [c41]; exact fun e => c20 (congrArg nI e)) hlt7]; rfl, rfl⟩)
  refine r_iconst (pc := 0) (v := nI 0) C dX1_mustWait_0 (by decide) ?_
  refine r_istore3 (pc := 1) C dX1_mustWait_1 rfl ?_
  exact loop _ 0 none rfl (Nat.zero_le _) rfl
theorem mF_fr {S : Nat → Prop} {G G' : gS} (hF : Fr S G G') (h : ∀ r, 32 ≤ r → r < 40 → ¬ S r) : mF G' = mF G := by
  funext i
  simp only [mF]
  by_cases h8 : i < 8
  · rw [if_pos h8, if_pos h8, hF.1 _ (h _ (by omega) (by omega))]
  · rw [if_neg h8, if_neg h8]
set_option maxHeartbeats 4000000 in
set_option maxRecDepth 100000 in
theorem tX1_setWakes (Y : gY) (hY : Y.2.2.2 = wC) {G : gS} {mc c : Nat} (hmc : G.1 6 1 = nI mc) (hm8 : mc ≤ 8) (hc : c < 256) {s : Int32} : ∀ l : Launch, gM Y l yX1_setWakes cX1_setWakes 5 (some .boolean) (1, 22) [.ref (Y.2.1 (6)), .int (nI c), .int (s)] G (qi (fun r G' => r = bI (!badW mc (mF G) c 4) ∧ Fr (fun q => q = 10) G G' ∧ (badW mc (mF G) c 4 = false → G'.1 10 = wkRow c s (G.1 10) 4) ∧ ∀ k, 4 ≤ k → G'.1 10 k = G.1 10 k)) := by
  intro l
  refine gM_of hY rfl (Nat.le_of_ble_eq_true rfl) [some (.ref (Y.2.1 (6))), some (.int (nI c)), some (.int (s)), none, none] rfl rfl ?_
  rintro Z rfl C
  have loop : ∀ (k0 : Nat) (x : Nat) (Gx : gS) (o4 : Option Value), k0 = 4 - x → x ≤ 4 → Fr (fun q => q = 10) G Gx → anyN (fun k => decide (stp c k ≠ 0) && !hasK mc (mF G) (nI k)) x = false → Gx.1 10 = wkRow c s (G.1 10) x → WW Z (qi (fun r G' => r = bI (!badW mc (mF G) c 4) ∧ Fr (fun q => q = 10) G G' ∧ (badW mc (mF G) c 4 = false → G'.1 10 = wkRow c s (G.1 10) 4) ∧ ∀ k, 4 ≤ k → G'.1 10 k = G.1 10 k)) 2 [some (.ref (ad Z (6))), some (.int (nI c)), some (.int (s)), some (.int (nI x)), o4] [] Gx := by
    intro k0
    induction k0 using Nat.strongRecOn with
    | _ k0 ih =>
      intro x Gx o4 hk0 hx hF hp hR
      refine r_iload3 (pc := 2) C dX1_setWakes_2 ?_
      refine r_iconst (pc := 3) (v := nI 4) C dX1_setWakes_3 (by decide) ?_
      refine r_icmp_ge (pc := 4) 49 C dX1_setWakes_4 (by decide) (fun c4 => ?_) (fun c4 => ?_)
      · obtain rfl : x = 4 := by have := (nI_leI (by omega) (by omega)).mp c4; omega
        refine r_iconst (pc := 49) (v := nI 1) C dX1_setWakes_49 (by decide) ?_
        exact r_zreturn (pc := 50) C dX1_setWakes_50 (rfl) (⟨by rw [badW, hp]; rfl, hF, (fun _ => hR), fun k hk => by rw [hR]; exact if_neg (by omega)⟩)
      · have hlt4 : x < 4 := by
          rcases Nat.lt_or_ge x 4 with h | h
          · exact h
          · exact absurd (nI_le h (by omega)) c4
        refine r_iload1 (pc := 7) C dX1_setWakes_7 ?_
        refine r_iconst (pc := 8) (v := nI 2) C dX1_setWakes_8 (by decide) ?_
        refine r_iconst (pc := 9) (v := nI 3) C dX1_setWakes_9 (by decide) ?_
        refine r_iload3 (pc := 10) C dX1_setWakes_10 ?_
        refine r_isub (pc := 11) C dX1_setWakes_11 ?_
        refine r_eqi (pk_sub (a := 3) (b := x) (by omega)) ?_
        refine r_imul (pc := 12) C dX1_setWakes_12 ?_
        refine r_eqi (pk_mul 2 (3 - x)) ?_
        refine r_iushr (pc := 13) C dX1_setWakes_13 ?_
        refine r_eqi (pk_ushrN (by omega) _ (2 * (3 - x)) (uand31 (by omega))) ?_
        refine r_iconst (pc := 14) (v := nI 3) C dX1_setWakes_14 (by decide) ?_
        refine r_iand (pc := 15) C dX1_setWakes_15 ?_
        refine r_eqi (y := nI (stp c x)) (by rw [show (nI 3) = nI (2 ^ 2 - 1) from rfl, pk_andN (Nat.lt_of_le_of_lt (Nat.div_le_self _ _) (by omega)) 2 (by decide), stp, Nat.pow_mul]) ?_
        refine r_istore4 (pc := 16) C dX1_setWakes_16 rfl ?_
        refine r_iload4 (pc := 18) C dX1_setWakes_18 ?_
        refine r_if_eq (pc := 20) 33 C dX1_setWakes_20 (by decide) (fun c20 => ?_) (fun c20 => ?_)
        · have hz : stp c x = 0 := (nI_eq (by have : stp c x < 4 := Nat.mod_lt _ (by decide); omega) (by decide)).mp c20
          refine r_aload0 (pc := 33) C dX1_setWakes_33 ?_
          refine gX1_28 (pc := 34) C dX1_setWakes_34 ?_
          refine r_iload3 (pc := 37) C dX1_setWakes_37 ?_
          refine r_iload4 (pc := 38) C dX1_setWakes_38 ?_
          refine r_iload2 (pc := 40) C dX1_setWakes_40 ?_
          refine r_imul (pc := 41) C dX1_setWakes_41 ?_
          refine r_iast (pc := 42) (_) C dX1_setWakes_42 aC10 (rfl) (by omega) ?_
          refine r_iinc3 (pc := 43) (nI 1) C dX1_setWakes_43 (by decide) rfl ?_
          rw [nI_add]
          refine r_goto (pc := 46) 2 C dX1_setWakes_46 (by decide) ?_
          refine ih (4 - (x + 1)) (by omega) (x + 1) _ _ rfl (by omega) (hF.sI rfl) (anyN_f hp (by simp [hz])) ?_
          rw [sI_s, hR, wkRow_s]
        · refine r_aload0 (pc := 23) C dX1_setWakes_23 ?_
          refine r_iload3 (pc := 24) C dX1_setWakes_24 ?_
          refine r_callVi (pc := 25) C rfl dX1_setWakes_25 kX1_65 gF1 jC6 (tX1_hasKind Z.1 C.w (mc := mc) (by rw [hF.1 _ (by omega)]; exact hmc) hm8) rfl rfl (Nat.le_of_ble_eq_true rfl) (by decide) (fun x25 G25 h25 => ?_)
          obtain ⟨rfl, rfl⟩ := h25
          refine r_eqi (y := bI (hasK mc (mF G) (nI x))) (by rw [mF_fr hF (by intro r h1 h2; omega)]) ?_
          refine r_if_ne (pc := 28) 33 C dX1_setWakes_28 (by decide) (fun c28 => ?_) (fun c28 => ?_)
          · refine r_aload0 (pc := 33) C dX1_setWakes_33 ?_
            refine gX1_28 (pc := 34) C dX1_setWakes_34 ?_
            refine r_iload3 (pc := 37) C dX1_setWakes_37 ?_
            refine r_iload4 (pc := 38) C dX1_setWakes_38 ?_
            refine r_iload2 (pc := 40) C dX1_setWakes_40 ?_
            refine r_imul (pc := 41) C dX1_setWakes_41 ?_
            refine r_iast (pc := 42) (_) C dX1_setWakes_42 aC10 (rfl) (by omega) ?_
            refine r_iinc3 (pc := 43) (nI 1) C dX1_setWakes_43 (by decide) rfl ?_
            rw [nI_add]
            refine r_goto (pc := 46) 2 C dX1_setWakes_46 (by decide) ?_
            refine ih (4 - (x + 1)) (by omega) (x + 1) _ _ rfl (by omega) (hF.sI rfl) (anyN_f hp (by simp [bI_n.mp c28])) ?_
            rw [sI_s, hR, wkRow_s]
          · have hnz : stp c x ≠ 0 := fun e => c20 (by rw [e]; rfl)
            have hbad : badW mc (mF G) c 4 = true := anyN_t (x := x) (by simp [hnz, bI_z.mp c28]) hlt4
            refine r_iconst (pc := 31) (v := nI 0) C dX1_setWakes_31 (by decide) ?_
            exact r_zreturn (pc := 32) C dX1_setWakes_32 (rfl) (⟨by rw [hbad]; rfl, hF, (fun h => by rw [hbad] at h; cases h), fun k hk => by rw [hR]; exact if_neg (by omega)⟩)
  refine r_iconst (pc := 0) (v := nI 0) C dX1_setWakes_0 (by decide) ?_
  refine r_istore3 (pc := 1) C dX1_setWakes_1 rfl ?_
  exact loop _ 0 G none rfl (Nat.zero_le _) Fr.refl rfl (by funext k; simp [wkRow])
set_option maxHeartbeats 4000000 in
set_option maxRecDepth 100000 in
theorem tX5_reset (Y : gY) (hY : Y.2.2.2 = wC) {G : gS} {mc : Nat} (hmc : G.1 6 1 = nI mc) (hm8 : mc ≤ 8) : ∀ l : Launch, gM Y l yX5_reset cX5_reset 2 none (2, 41) [.ref (Y.2.1 (15))] G (qv (fun G' => Fr (fun q => sMr q ∨ q = 15 ∨ q = 18 ∨ q = 19) G G' ∧ mF G' = itN (fun i F => va_up F i (mReset (F i))) mc (mF G) ∧ G'.1 15 = upd (upd (G.1 15) 5 (nI 0)) 6 (-1) ∧ G'.1 18 = fillR (G.1 18) (nI 0) 72 ∧ G'.1 19 = fillR (G.1 19) (-1) 72)) := by
  intro l
  refine gM_of hY rfl (Nat.le_of_ble_eq_true rfl) [some (.ref (Y.2.1 (15))), none] rfl rfl ?_
  rintro Z rfl C
  have loopR : ∀ G0 : gS, Fr (fun q => sMr q ∨ q = 15 ∨ q = 18 ∨ q = 19) G G0 → mF G0 = mF G → G0.1 15 = upd (upd (G.1 15) 5 (nI 0)) 6 (-1) → G0.1 18 = fillR (G.1 18) (nI 0) 72 → G0.1 19 = fillR (G.1 19) (-1) 72 → WW Z (qv (fun G' => Fr (fun q => sMr q ∨ q = 15 ∨ q = 18 ∨ q = 19) G G' ∧ mF G' = itN (fun i F => va_up F i (mReset (F i))) mc (mF G) ∧ G'.1 15 = upd (upd (G.1 15) 5 (nI 0)) 6 (-1) ∧ G'.1 18 = fillR (G.1 18) (nI 0) 72 ∧ G'.1 19 = fillR (G.1 19) (-1) 72)) 28 [some (.ref (ad Z 15)), some (.int (nI 0))] [] G0 := by
    intro G0 hF0 hM0 h15 h18 h19
    have loop : ∀ (k0 : Nat) (x : Nat) (Gx : gS), k0 = mc - x → x ≤ mc → Fr sMr G0 Gx → mF Gx = itN (fun i F => va_up F i (mReset (F i))) x (mF G0) → WW Z (qv (fun G' => Fr (fun q => sMr q ∨ q = 15 ∨ q = 18 ∨ q = 19) G G' ∧ mF G' = itN (fun i F => va_up F i (mReset (F i))) mc (mF G) ∧ G'.1 15 = upd (upd (G.1 15) 5 (nI 0)) 6 (-1) ∧ G'.1 18 = fillR (G.1 18) (nI 0) 72 ∧ G'.1 19 = fillR (G.1 19) (-1) 72)) 28 [some (.ref (ad Z (15))), some (.int (nI x))] [] Gx := by
      intro k0
      induction k0 using Nat.strongRecOn with
      | _ k0 ih =>
        intro x Gx hk0 hx hF hM
        have e6 : Gx.1 6 1 = nI mc := by rw [hF.1 _ (by intro h; have := h.1; omega), hF0.1 _ (by rintro (h | h | h | h); exact absurd h.1 (by omega); all_goals omega)]; exact hmc
        refine r_iload1 (pc := 28) C dX5_reset_28 ?_
        refine r_aload0 (pc := 29) C dX5_reset_29 ?_
        refine gX5_31 (pc := 30) C dX5_reset_30 ?_
        refine gX5_82 (pc := 33) C dX5_reset_33 ?_
        refine r_eqi e6 ?_
        refine r_icmp_ge (pc := 36) 57 C dX5_reset_36 (by decide) (fun c36 => ?_) (fun c36 => ?_)
        · obtain rfl : x = mc := by have := (nI_leI (by omega) (by omega)).mp c36; omega
          exact r_return (pc := 57) C dX5_reset_57 (⟨hF0.trans (hF.mono (fun r h => Or.inl h)), by rw [hM, hM0], by rw [hF.1 _ (by intro h; have := h.1; omega)]; exact h15, by rw [hF.1 _ (by intro h; have := h.1; omega)]; exact h18, by rw [hF.1 _ (by intro h; have := h.1; omega)]; exact h19⟩)
        · have hlt36 : x < mc := by
            rcases Nat.lt_or_ge x mc with h | h
            · exact h
            · exact absurd (nI_le h (by omega)) c36
          refine r_aload0 (pc := 39) C dX5_reset_39 ?_
          refine gX5_31 (pc := 40) C dX5_reset_40 ?_
          refine gX5_85 (pc := 43) C dX5_reset_43 ?_
          refine r_iload1 (pc := 46) C dX5_reset_46 ?_
          refine r_aald (pc := 47) (x) C dX5_reset_47 aC7 (fun _ => rfl) (rfl) (by omega) (rfl) ?_
          refine r_callVv (pc := 48) C rfl dX5_reset_48 kX5_89 gF2 (jCm (by omega)) (tX2_reset Z.1 C.w (by omega)) rfl rfl (Nat.le_of_ble_eq_true rfl) (by decide) (fun G48 h48 => ?_)
          subst h48
          refine r_iinc1 (pc := 51) (nI 1) C dX5_reset_51 (by decide) rfl ?_
          rw [nI_add]
          refine r_goto (pc := 54) 28 C dX5_reset_54 (by decide) ?_
          refine ih (mc - (x + 1)) (by omega) (x + 1) _ rfl (by omega) (hF.sW (sMr_i (by omega))) ?_
          rw [mF_W (by omega), itN_s, ← hM, mF_i (by omega)]
    exact loop _ 0 G0 rfl (Nat.zero_le _) Fr.refl rfl
  refine r_aload0 (pc := 0) C dX5_reset_0 ?_
  refine gX5_19 (pc := 1) C dX5_reset_1 ?_
  refine r_iconst (pc := 4) (v := nI 0) C dX5_reset_4 (by decide) ?_
  refine r_callSv (pc := 5) C rfl dX5_reset_5 kX5_73 (tJ7_fill_53178 Z.1 C.w aC18) rfl rfl (Nat.le_of_ble_eq_true rfl) (by decide) (fun G5 h5 => ?_)
  subst h5
  refine r_aload0 (pc := 8) C dX5_reset_8 ?_
  refine gX5_22 (pc := 9) C dX5_reset_9 ?_
  refine r_iconst (pc := 12) (v := (-1)) C dX5_reset_12 (by decide) ?_
  refine r_callSv (pc := 13) C rfl dX5_reset_13 kX5_73 (tJ7_fill_53178 Z.1 C.w aC19) rfl rfl (Nat.le_of_ble_eq_true rfl) (by decide) (fun G13 h13 => ?_)
  subst h13
  refine r_aload0 (pc := 16) C dX5_reset_16 ?_
  refine r_iconst (pc := 17) (v := nI 0) C dX5_reset_17 (by decide) ?_
  refine pX5_79 (pc := 18) C dX5_reset_18 ?_
  refine r_aload0 (pc := 21) C dX5_reset_21 ?_
  refine r_iconst (pc := 22) (v := (-1)) C dX5_reset_22 (by decide) ?_
  refine pX5_55 (pc := 23) C dX5_reset_23 ?_
  refine r_iconst (pc := 26) (v := nI 0) C dX5_reset_26 (by decide) ?_
  refine r_istore1 (pc := 27) C dX5_reset_27 rfl ?_
  refine loopR _ (((((Fr.refl.sW (Or.inr (Or.inr (Or.inl rfl)))).sW (Or.inr (Or.inr (Or.inr rfl))))).sI (Or.inr (Or.inl rfl))).sI (Or.inr (Or.inl rfl))) ?_ ?_ ?_ ?_
  · funext i
    simp only [mF]
    by_cases h8 : i < 8
    · rw [if_pos h8, if_pos h8, sI_o (by omega), sI_o (by omega), sW_o _ _ _ (by omega), sW_o _ _ _ (by omega)]
    · rw [if_neg h8, if_neg h8]
  · rfl
  · rfl
  · rfl
set_option maxHeartbeats 4000000 in
set_option maxRecDepth 100000 in
theorem tX5_power (Y : gY) (hY : Y.2.2.2 = wC) {G : gS} {mc t : Nat} (hmc : G.1 6 1 = nI mc) (hm8 : mc ≤ 8) (ht : t < 300) (hK : kOk mc (mF G)) : ∀ l : Launch, gM Y l yX5_power cX5_power 4 none (2, 42) [.ref (Y.2.1 (15)), .int (nI t)] G (qv (fun G' => Fr sMr G G' ∧ mF G' = itN (pwS (fun i => bt (G.1 12 t) (8 + i)) (G.1 10) (nI t)) mc (mF G) ∧ kOk mc (mF G'))) := by
  intro l
  refine gM_of hY rfl (Nat.le_of_ble_eq_true rfl) [some (.ref (Y.2.1 (15))), some (.int (nI t)), none, none] rfl rfl ?_
  rintro Z rfl C
  have loop : ∀ (k0 : Nat) (x : Nat) (Gx : gS) (o3 : Option Value), k0 = mc - x → x ≤ mc → Fr sMr G Gx → mF Gx = itN (pwS (fun i => bt (G.1 12 t) (8 + i)) (G.1 10) (nI t)) x (mF G) → kOk mc (mF Gx) → WW Z (qv (fun G' => Fr sMr G G' ∧ mF G' = itN (pwS (fun i => bt (G.1 12 t) (8 + i)) (G.1 10) (nI t)) mc (mF G) ∧ kOk mc (mF G'))) 2 [some (.ref (ad Z (15))), some (.int (nI t)), some (.int (nI x)), o3] [] Gx := by
    intro k0
    induction k0 using Nat.strongRecOn with
    | _ k0 ih =>
      intro x Gx o3 hk0 hx hF hM hK
      have e6 : Gx.1 6 1 = nI mc := by rw [hF.1 _ (by intro h; have := h.1; omega)]; exact hmc
      refine r_iload2 (pc := 2) C dX5_power_2 ?_
      refine r_aload0 (pc := 3) C dX5_power_3 ?_
      refine gX5_31 (pc := 4) C dX5_power_4 ?_
      refine gX5_82 (pc := 7) C dX5_power_7 ?_
      refine r_eqi e6 ?_
      refine r_icmp_ge (pc := 10) 88 C dX5_power_10 (by decide) (fun c10 => ?_) (fun c10 => ?_)
      · obtain rfl : x = mc := by have := (nI_leI (by omega) (by omega)).mp c10; omega
        exact r_return (pc := 88) C dX5_power_88 (⟨hF, hM, hK⟩)
      · have hlt10 : x < mc := by
          rcases Nat.lt_or_ge x mc with h | h
          · exact h
          · exact absurd (nI_le h (by omega)) c10
        obtain ⟨k1, k2⟩ := kOk_i hK hlt10 (by omega)
        refine r_aload0 (pc := 13) C dX5_power_13 ?_
        refine gX5_31 (pc := 14) C dX5_power_14 ?_
        refine gX5_85 (pc := 17) C dX5_power_17 ?_
        refine r_iload2 (pc := 20) C dX5_power_20 ?_
        refine r_aald (pc := 21) (x) C dX5_power_21 aC7 (fun _ => rfl) (rfl) (by omega) (rfl) ?_
        refine r_astore3 (pc := 22) C dX5_power_22 rfl ?_
        refine r_aload0 (pc := 23) C dX5_power_23 ?_
        refine gX5_31 (pc := 24) C dX5_power_24 ?_
        refine gX5_59 (pc := 27) C dX5_power_27 ?_
        refine r_iload2 (pc := 30) C dX5_power_30 ?_
        refine r_iload1 (pc := 31) C dX5_power_31 ?_
        refine r_callVi (pc := 32) C rfl dX5_power_32 kX5_92 gF0 jC11 (tX0_isCut Z.1 C.w (m := x) (t := t) (by omega) ht) rfl rfl (Nat.le_of_ble_eq_true rfl) (by decide) (fun x32 G32 h32 => ?_)
        obtain ⟨rfl, h32b⟩ := h32
        have h32b := h32b.symm
        subst h32b
        refine r_eqi (y := bI (bt (G.1 12 t) (8 + x))) (by rw [hF.1 _ (by intro h; have := h.1; omega)]) ?_
        refine r_if_eq (pc := 35) 46 C dX5_power_35 (by decide) (fun c35 => ?_) (fun c35 => ?_)
        · refine r_aload3 (pc := 46) C dX5_power_46 ?_
          refine gX5_99 (pc := 47) C (by omega) dX5_power_47 ?_
          refine r_if_ne (pc := 50) 82 C dX5_power_50 (by decide) (fun c50 => ?_) (fun c50 => ?_)
          · refine r_iinc2 (pc := 82) (nI 1) C dX5_power_82 (by decide) rfl ?_
            rw [nI_add]
            refine r_goto (pc := 85) 2 C dX5_power_85 (by decide) ?_
            have hp : pw1 (bt (G.1 12 t) (8 + x)) (G.1 10 (kN (Gx.1 (32 + x)))) (nI t) (Gx.1 (32 + x)) = Gx.1 (32 + x) := by rw [pw1, if_neg (by rw [bI_z.mp c35]; simp), if_neg (fun h => c50 h.1)]
            refine ih (mc - (x + 1)) (by omega) (x + 1) _ _ rfl (by omega) hF ?_ hK
            rw [itN_s, ← hM, pwS, mF_i (by omega), hp]
            have e8 := va_up_id (mF Gx) x
            rw [mF_i (by omega)] at e8
            exact e8.symm
          · refine r_iload1 (pc := 53) C dX5_power_53 ?_
            refine r_aload3 (pc := 54) C dX5_power_54 ?_
            refine gX5_102 (pc := 55) C (by omega) dX5_power_55 ?_
            refine r_icmp_lt (pc := 58) 82 C dX5_power_58 (by decide) (fun c58 => ?_) (fun c58 => ?_)
            · refine r_iinc2 (pc := 82) (nI 1) C dX5_power_82 (by decide) rfl ?_
              rw [nI_add]
              refine r_goto (pc := 85) 2 C dX5_power_85 (by decide) ?_
              have hp : pw1 (bt (G.1 12 t) (8 + x)) (G.1 10 (kN (Gx.1 (32 + x)))) (nI t) (Gx.1 (32 + x)) = Gx.1 (32 + x) := by rw [pw1, if_neg (by rw [bI_z.mp c35]; simp), if_neg (fun h => h.2.1 c58)]
              refine ih (mc - (x + 1)) (by omega) (x + 1) _ _ rfl (by omega) hF ?_ hK
              rw [itN_s, ← hM, pwS, mF_i (by omega), hp]
              have e8 := va_up_id (mF Gx) x
              rw [mF_i (by omega)] at e8
              exact e8.symm
            · refine r_iload1 (pc := 61) C dX5_power_61 ?_
              refine r_aload0 (pc := 62) C dX5_power_62 ?_
              refine gX5_31 (pc := 63) C dX5_power_63 ?_
              refine gX5_105 (pc := 66) C dX5_power_66 ?_
              refine r_aload3 (pc := 69) C dX5_power_69 ?_
              refine gX5_108 (pc := 70) C (by omega) dX5_power_70 ?_
              refine r_iald (pc := 73) (_) C dX5_power_73 aC10 (k1) (by omega) ?_
              refine r_eqi (y := G.1 10 (kN (Gx.1 (32 + x)))) (by rw [hF.1 _ (by intro h; have := h.1; omega)]) ?_
              refine r_icmp_lt (pc := 74) 82 C dX5_power_74 (by decide) (fun c74 => ?_) (fun c74 => ?_)
              · refine r_iinc2 (pc := 82) (nI 1) C dX5_power_82 (by decide) rfl ?_
                rw [nI_add]
                refine r_goto (pc := 85) 2 C dX5_power_85 (by decide) ?_
                have hp : pw1 (bt (G.1 12 t) (8 + x)) (G.1 10 (kN (Gx.1 (32 + x)))) (nI t) (Gx.1 (32 + x)) = Gx.1 (32 + x) := by rw [pw1, if_neg (by rw [bI_z.mp c35]; simp), if_neg (fun h => h.2.2 c74)]
                refine ih (mc - (x + 1)) (by omega) (x + 1) _ _ rfl (by omega) hF ?_ hK
                rw [itN_s, ← hM, pwS, mF_i (by omega), hp]
                have e8 := va_up_id (mF Gx) x
                rw [mF_i (by omega)] at e8
                exact e8.symm
              · refine r_aload3 (pc := 77) C dX5_power_77 ?_
                refine r_iload1 (pc := 78) C dX5_power_78 ?_
                refine r_callVv (pc := 79) C rfl dX5_power_79 kX5_111 gF2 (jCm (by omega)) (tX2_begin Z.1 C.w (by omega)) rfl rfl (Nat.le_of_ble_eq_true rfl) (by decide) (fun G79 h79 => ?_)
                subst h79
                refine r_iinc2 (pc := 82) (nI 1) C dX5_power_82 (by decide) rfl ?_
                rw [nI_add]
                refine r_goto (pc := 85) 2 C dX5_power_85 (by decide) ?_
                have hp : pw1 (bt (G.1 12 t) (8 + x)) (G.1 10 (kN (Gx.1 (32 + x)))) (nI t) (Gx.1 (32 + x)) = mBegin (nI t) (Gx.1 (32 + x)) := by rw [pw1, if_neg (by rw [bI_z.mp c35]; simp), if_pos ⟨c50, c58, c74⟩]
                refine ih (mc - (x + 1)) (by omega) (x + 1) _ _ rfl (by omega) (hF.sW (sMr_i (by omega))) ?_ ?_
                · rw [itN_s, ← hM, pwS, mF_i (by omega), hp, mF_W (by omega)]
                · rw [mF_W (by omega)]; exact kOk_up hK (by rw [mF_i (by omega)]; rfl)
        · refine r_aload3 (pc := 38) C dX5_power_38 ?_
          refine r_iload1 (pc := 39) C dX5_power_39 ?_
          refine r_callVv (pc := 40) C rfl dX5_power_40 kX5_96 gF2 (jCm (by omega)) (tX2_losePower Z.1 C.w (by omega)) rfl rfl (Nat.le_of_ble_eq_true rfl) (by decide) (fun G40 h40 => ?_)
          subst h40
          refine r_goto (pc := 43) 82 C dX5_power_43 (by decide) ?_
          refine r_iinc2 (pc := 82) (nI 1) C dX5_power_82 (by decide) rfl ?_
          rw [nI_add]
          refine r_goto (pc := 85) 2 C dX5_power_85 (by decide) ?_
          have hp : pw1 (bt (G.1 12 t) (8 + x)) (G.1 10 (kN (Gx.1 (32 + x)))) (nI t) (Gx.1 (32 + x)) = mLose (nI t) (Gx.1 (32 + x)) := by rw [pw1, if_pos (bI_n.mp c35)]
          refine ih (mc - (x + 1)) (by omega) (x + 1) _ _ rfl (by omega) (hF.sW (sMr_i (by omega))) ?_ ?_
          · rw [itN_s, ← hM, pwS, mF_i (by omega), hp, mF_W (by omega)]
          · rw [mF_W (by omega)]; exact kOk_up hK (by rw [mF_i (by omega)]; rfl)
  refine r_iconst (pc := 0) (v := nI 0) C dX5_power_0 (by decide) ?_
  refine r_istore2 (pc := 1) C dX5_power_1 rfl ?_
  exact loop _ 0 G none rfl (Nat.zero_le _) Fr.refl rfl hK
