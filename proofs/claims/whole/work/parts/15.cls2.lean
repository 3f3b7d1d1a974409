set_option maxHeartbeats 4000000 in
set_option maxRecDepth 100000 in
theorem tJ7_fill_53178 (Y : gY) (hY : Y.2.2.2 = wC) {G : gS} {rr n : Nat} {v : Int32} {fs : Nat → Nat × Nat} (hR : gA wC rr 1 0 n fs) : ∀ l : Launch, gM Y l yJ7_fill_53178 cJ7_fill_53178 4 none (0, 0) [.ref (Y.2.1 (rr)), .int (v)] G (qv (fun G' => G' = sW G rr (fillR (G.1 rr) v n))) := by
  intro l
  refine gM_of hY rfl (Nat.le_of_ble_eq_true rfl) [some (.ref (Y.2.1 (rr))), some (.int (v)), none, none] rfl rfl ?_
  rintro Z rfl C
  have hn31 := hR.2.2
  have loop : ∀ (k0 : Nat) (x : Nat) (Gx : gS), k0 = n - x → x ≤ n → Gx = sW G rr (fillR (G.1 rr) v x) → WW Z (qv (fun G' => G' = sW G rr (fillR (G.1 rr) v n))) 5 [some (.ref (ad Z (rr))), some (.int (v)), some (.int (nI x)), some (.int (nI n))] [] Gx := by
    intro k0
    induction k0 using Nat.strongRecOn with
    | _ k0 ih =>
      intro x Gx hk hx hG
      refine r_iload2 (pc := 5) C dJ7_fill_53178_5 ?_
      refine r_iload3 (pc := 6) C dJ7_fill_53178_6 ?_
      refine r_icmp_ge (pc := 7) 20 C dJ7_fill_53178_7 (by decide) (fun c7 => ?_) (fun c7 => ?_)
      · obtain rfl : x = n := by have := (nI_leI (by omega) (by omega)).mp c7; omega
        exact r_return (pc := 20) C dJ7_fill_53178_20 (hG)
      · have hlt7 : x < n := by
          rcases Nat.lt_or_ge x n with h | h
          · exact h
          · exact absurd (nI_le h (by omega)) c7
        refine r_aload0 (pc := 10) C dJ7_fill_53178_10 ?_
        refine r_iload2 (pc := 11) C dJ7_fill_53178_11 ?_
        refine r_iload1 (pc := 12) C dJ7_fill_53178_12 ?_
        refine r_iast (pc := 13) (_) C dJ7_fill_53178_13 hR (rfl) (by omega) ?_
        refine r_iinc2 (pc := 14) (nI 1) C dJ7_fill_53178_14 (by decide) rfl ?_
        rw [nI_add]
        refine r_goto (pc := 17) 5 C dJ7_fill_53178_17 (by decide) ?_
        exact ih (n - (x + 1)) (by omega) (x + 1) _ rfl (by omega) (by rw [hG, sI0, sW_s, sW_W, fillR_s])
  refine r_iconst (pc := 0) (v := nI 0) C dJ7_fill_53178_0 (by decide) ?_
  refine r_istore2 (pc := 1) C dJ7_fill_53178_1 rfl ?_
  refine r_aload0 (pc := 2) C dJ7_fill_53178_2 ?_
  refine r_alen (pc := 3) C dJ7_fill_53178_3 hR (fun _ => rfl) ?_
  refine r_istore3 (pc := 4) C dJ7_fill_53178_4 rfl ?_
  exact loop _ 0 G rfl (Nat.zero_le _) (by rw [fillR_0, sW_id])
set_option maxHeartbeats 4000000 in
set_option maxRecDepth 100000 in
theorem tX7_append (Y : gY) (hY : Y.2.2.2 = wC) {G : gS} {n : Nat} {x : Int32} (hl : G.1 1 1 = nI n) (hn : n + 4 ≤ 2000) : ∀ l : Launch, gM Y l yX7_append cX7_append 3 none (0, 0) [.ref (Y.2.1 (1)), .int (x)] G (qv (fun G' => G' = ap x n G 4)) := by
  intro l
  refine gM_of hY rfl (Nat.le_of_ble_eq_true rfl) [some (.ref (Y.2.1 (1))), some (.int (x)), none] rfl rfl ?_
  rintro Z rfl C
  have step : ∀ j, j < 4 → WW Z (qv (fun G' => G' = ap x n G 4)) 3 [some (.ref (ad Z 1)), some (.int x), some (.int (shA (j + 1)))] [] (ap x n G (j + 1)) → WW Z (qv (fun G' => G' = ap x n G 4)) 3 [some (.ref (ad Z 1)), some (.int x), some (.int (shA j))] [] (ap x n G j) := by
    intro j hj K
    refine r_iload2 (pc := 3) C dX7_append_3 ?_
    refine r_if_lt (pc := 4) 49 C dX7_append_4 (by decide) (fun c4 => ?_) (fun c4 => ?_)
    · exact absurd c4 (shA_p j hj)
    refine r_aload0 (pc := 7) C dX7_append_7 ?_
    refine gX7_15 (pc := 8) C dX7_append_8 ?_
    refine r_eqi ap_len ?_
    refine r_sipush (pc := 11) (v := nI 2000) C dX7_append_11 (by decide) ?_
    refine r_icmp_ge (pc := 14) 49 C dX7_append_14 (by decide) (fun c14 => ?_) (fun c14 => ?_)
    · exact absurd c14 (nI_ge (by omega) (by omega))
    refine r_aload0 (pc := 17) C dX7_append_17 ?_
    refine gX7_9 (pc := 18) C dX7_append_18 ?_
    refine r_aload0 (pc := 21) C dX7_append_21 ?_
    refine gX7_15 (pc := 22) C dX7_append_22 ?_
    refine r_eqi ap_len ?_
    refine r_iload1 (pc := 25) C dX7_append_25 ?_
    refine r_iload2 (pc := 26) C dX7_append_26 ?_
    refine r_iushr (pc := 27) C dX7_append_27 ?_
    refine r_sipush (pc := 28) (v := nI 255) C dX7_append_28 (by decide) ?_
    refine r_iand (pc := 31) C dX7_append_31 ?_
    refine r_eqi (wb_get x hj) ?_
    refine r_iast (pc := 32) (_) C dX7_append_32 aC2 (rfl) (by omega) ?_
    refine r_aload0 (pc := 33) C dX7_append_33 ?_
    refine r_dup (pc := 34) C dX7_append_34 rfl ?_
    refine gX7_15 (pc := 35) C dX7_append_35 ?_
    refine r_iconst (pc := 38) (v := nI 1) C dX7_append_38 (by decide) ?_
    refine r_iadd (pc := 39) C dX7_append_39 ?_
    refine r_eqi (y := nI (n + j + 1)) (by show (ap x n G j).1 1 1 + nI 1 = _; rw [ap_len, nI_add]) ?_
    refine pX7_15 (pc := 40) C dX7_append_40 ?_
    refine r_G ap_s ?_
    refine r_iinc2 (pc := 43) ((-8)) C dX7_append_43 (by decide) rfl ?_
    rw [shA_n j hj]
    refine r_goto (pc := 46) 3 C dX7_append_46 (by decide) ?_
    exact K
  refine r_bipush (pc := 0) (v := nI 24) C dX7_append_0 (by decide) ?_
  refine r_istore2 (pc := 2) C dX7_append_2 rfl ?_
  have K4 : WW Z (qv (fun G' => G' = ap x n G 4)) 3 [some (.ref (ad Z 1)), some (.int x), some (.int (shA 4))] [] (ap x n G 4) := by
    refine r_iload2 (pc := 3) C dX7_append_3 ?_
    refine r_if_lt (pc := 4) 49 C dX7_append_4 (by decide) (fun c => ?_) (fun c => absurd (by decide) c)
    exact r_return (pc := 49) C dX7_append_49 rfl
  have K0 := step 0 (by decide) (step 1 (by decide) (step 2 (by decide) (step 3 (by decide) K4)))
  rw [ap_0 hl] at K0
  exact K0
set_option maxHeartbeats 4000000 in
set_option maxRecDepth 100000 in
theorem tX0_addDown (Y : gY) (hY : Y.2.2.2 = wC) {G : gS} {k a b : Nat} (hk : k < 2) (hab : a < b) (hb : b ≤ 300) : ∀ l : Launch, gM Y l yX0_addDown cX0_addDown 5 (some .int) (0, 0) [.ref (Y.2.1 (11)), .int (nI k), .int (nI a), .int (nI b)] G (qi (fun r G' => r = G.1 11 0 ∧ Fr (fun r => r = 11 ∨ r = 12) G G' ∧ G'.1 11 = upd (G.1 11) 0 (G.1 11 0 + nI 1) ∧ ∀ t j, bt (G'.1 12 t) j = (bt (G.1 12 t) j || decide (a ≤ t ∧ t < b ∧ j = 16 + k)))) := by
  intro l
  refine gM_of hY rfl (Nat.le_of_ble_eq_true rfl) [some (.ref (Y.2.1 (11))), some (.int (nI k)), some (.int (nI a)), some (.int (nI b)), none] rfl rfl ?_
  rintro Z rfl C
  have loop : ∀ (k0 : Nat) (x : Nat) (Gx : gS), k0 = b - x → a ≤ x → x ≤ b → Fr (fun r => r = 11 ∨ r = 12) G Gx → Gx.1 11 = G.1 11 → (∀ t j, bt (Gx.1 12 t) j = (bt (G.1 12 t) j || decide (a ≤ t ∧ t < x ∧ j = 16 + k))) → WW Z (qi (fun r G' => r = G.1 11 0 ∧ Fr (fun r => r = 11 ∨ r = 12) G G' ∧ G'.1 11 = upd (G.1 11) 0 (G.1 11 0 + nI 1) ∧ ∀ t j, bt (G'.1 12 t) j = (bt (G.1 12 t) j || decide (a ≤ t ∧ t < b ∧ j = 16 + k)))) 3 [some (.ref (ad Z (11))), some (.int (nI k)), some (.int (nI a)), some (.int (nI b)), some (.int (nI x))] [] Gx := by
    intro k0
    induction k0 using Nat.strongRecOn with
    | _ k0 ih =>
      intro x Gx hk0 hax hxb hF h11 hB
      refine r_iload4 (pc := 3) C dX0_addDown_3 ?_
      refine r_iload3 (pc := 5) C dX0_addDown_5 ?_
      refine r_icmp_ge (pc := 6) 31 C dX0_addDown_6 (by decide) (fun c6 => ?_) (fun c6 => ?_)
      · obtain rfl : x = b := by have := (nI_leI (by omega) (by omega)).mp c6; omega
        refine r_aload0 (pc := 31) C dX0_addDown_31 ?_
        refine r_dup (pc := 32) C dX0_addDown_32 rfl ?_
        refine gX0_23 (pc := 33) C dX0_addDown_33 ?_
        refine r_eqi (by rw [h11]) ?_
        refine r_dup_x1 (pc := 36) C dX0_addDown_36 rfl rfl ?_
        refine r_iconst (pc := 37) (v := nI 1) C dX0_addDown_37 (by decide) ?_
        refine r_iadd (pc := 38) C dX0_addDown_38 ?_
        refine pX0_23 (pc := 39) C dX0_addDown_39 ?_
        exact r_ireturn (pc := 42) C dX0_addDown_42 (⟨rfl, hF.sI (Or.inl rfl), by rw [sI_s, h11], fun t j => by rw [sI_o (by decide)]; exact hB t j⟩)
      · have hlt6 : x < b := by
          rcases Nat.lt_or_ge x b with h | h
          · exact h
          · exact absurd (nI_le h (by omega)) c6
        refine r_aload0 (pc := 9) C dX0_addDown_9 ?_
        refine gX0_15 (pc := 10) C dX0_addDown_10 ?_
        refine r_iload4 (pc := 13) C dX0_addDown_13 ?_
        refine r_dup2 (pc := 15) C dX0_addDown_15 rfl rfl ?_
        refine r_iald (pc := 16) (_) C dX0_addDown_16 aC12 (rfl) (by omega) ?_
        refine r_iconst (pc := 17) (v := nI 1) C dX0_addDown_17 (by decide) ?_
        refine r_bipush (pc := 18) (v := nI 16) C dX0_addDown_18 (by decide) ?_
        refine r_iload1 (pc := 20) C dX0_addDown_20 ?_
        refine r_iadd (pc := 21) C dX0_addDown_21 ?_
        refine r_eqi (nI_add 16 k) ?_
        refine r_ishl (pc := 22) C dX0_addDown_22 ?_
        refine r_ior (pc := 23) C dX0_addDown_23 ?_
        refine r_iast (pc := 24) (_) C dX0_addDown_24 aC12 (rfl) (by omega) ?_
        refine r_iinc4 (pc := 25) (nI 1) C dX0_addDown_25 (by decide) rfl ?_
        rw [nI_add]
        refine r_goto (pc := 28) 3 C dX0_addDown_28 (by decide) ?_
        refine ih (b - (x + 1)) (by omega) (x + 1) _ rfl (by omega) (by omega) (hF.sI (Or.inr rfl)) ((sI_o (by decide)).trans h11) (fun t j => ?_)
        rw [sI_s]
        by_cases e : t = x
        · subst e
          rw [upd_s, bt_set _ (by omega), hB]
          by_cases e2 : j = 16 + k
          · simp [e2]; omega
          · simp [e2]
        · rw [upd_o e, hB]
          congr 1
          have : (a ≤ t ∧ t < x ∧ j = 16 + k) ↔ (a ≤ t ∧ t < x + 1 ∧ j = 16 + k) := by omega
          simp [this]
  refine r_iload2 (pc := 0) C dX0_addDown_0 ?_
  refine r_istore4 (pc := 1) C dX0_addDown_1 rfl ?_
  exact loop _ a G rfl (Nat.le_refl _) (by omega) Fr.refl rfl (fun t j => by simp; omega)
set_option maxHeartbeats 4000000 in
set_option maxRecDepth 100000 in
theorem tX0_addWrong (Y : gY) (hY : Y.2.2.2 = wC) {G : gS} {b t : Nat} (hb : b < 72) (ht : t < 300) : ∀ l : Launch, gM Y l yX0_addWrong cX0_addWrong 3 (some .int) (0, 0) [.ref (Y.2.1 (11)), .int (nI b), .int (nI t)] G (qi (fun r G' => r = G.1 11 0 ∧ G' = sI (sL G 13 (2 * t + b / 36) (G.2.1 13 (2 * t + b / 36) ||| ((1 : Int64) <<< ((nI (b % 36)).toInt64 &&& 63)))) 11 0 (G.1 11 0 + nI 1))) := by
  intro l
  refine gM_of hY rfl (Nat.le_of_ble_eq_true rfl) [some (.ref (Y.2.1 (11))), some (.int (nI b)), some (.int (nI t))] rfl rfl ?_
  rintro Z rfl C
  refine r_aload0 (pc := 0) C dX0_addWrong_0 ?_
  refine gX0_19 (pc := 1) C dX0_addWrong_1 ?_
  refine r_iconst (pc := 4) (v := nI 2) C dX0_addWrong_4 (by decide) ?_
  refine r_iload2 (pc := 5) C dX0_addWrong_5 ?_
  refine r_imul (pc := 6) C dX0_addWrong_6 ?_
  refine r_eqi (pk_mul 2 t) ?_
  refine r_iload1 (pc := 7) C dX0_addWrong_7 ?_
  refine r_bipush (pc := 8) (v := nI 36) C dX0_addWrong_8 (by decide) ?_
  refine r_idiv (pc := 10) C dX0_addWrong_10 (by decide) ?_
  refine r_eqi (pk_div (d := 36) (by omega) (by decide) (by decide)) ?_
  refine r_iadd (pc := 11) C dX0_addWrong_11 ?_
  refine r_eqi (nI_add (2 * t) (b / 36)) ?_
  refine r_dup2 (pc := 12) C dX0_addWrong_12 rfl rfl ?_
  refine r_lald (pc := 13) (_) C dX0_addWrong_13 aC13 (rfl) (by omega) ?_
  refine r_lconst (pc := 14) (v := 1) C dX0_addWrong_14 (by decide) ?_
  refine r_iload1 (pc := 15) C dX0_addWrong_15 ?_
  refine r_bipush (pc := 16) (v := nI 36) C dX0_addWrong_16 (by decide) ?_
  refine r_irem (pc := 18) C dX0_addWrong_18 (by decide) ?_
  refine r_eqi (pk_rem (d := 36) (by omega) (by decide) (by decide)) ?_
  refine r_lshl (pc := 19) C dX0_addWrong_19 ?_
  refine r_lor (pc := 20) C dX0_addWrong_20 ?_
  refine r_last (pc := 21) (_) C dX0_addWrong_21 aC13 (rfl) (by omega) ?_
  refine r_aload0 (pc := 22) C dX0_addWrong_22 ?_
  refine r_dup (pc := 23) C dX0_addWrong_23 rfl ?_
  refine gX0_23 (pc := 24) C dX0_addWrong_24 ?_
  refine r_dup_x1 (pc := 27) C dX0_addWrong_27 rfl rfl ?_
  refine r_iconst (pc := 28) (v := nI 1) C dX0_addWrong_28 (by decide) ?_
  refine r_iadd (pc := 29) C dX0_addWrong_29 ?_
  refine pX0_23 (pc := 30) C dX0_addWrong_30 ?_
  exact r_ireturn (pc := 33) C dX0_addWrong_33 (⟨rfl, rfl⟩)
set_option maxHeartbeats 4000000 in
set_option maxRecDepth 100000 in
theorem tX0_isWrong (Y : gY) (hY : Y.2.2.2 = wC) {G : gS} {b t : Nat} (hb : b < 72) (ht : t < 300) : ∀ l : Launch, gM Y l yX0_isWrong cX0_isWrong 3 (some .boolean) (0, 0) [.ref (Y.2.1 (11)), .int (nI b), .int (nI t)] G (qi (fun r G' => r = bI (btL (G.2.1 13 (2 * t + b / 36)) (b % 36)) ∧ G' = G)) := by
  intro l
  refine gM_of hY rfl (Nat.le_of_ble_eq_true rfl) [some (.ref (Y.2.1 (11))), some (.int (nI b)), some (.int (nI t))] rfl rfl ?_
  rintro Z rfl C
  refine r_aload0 (pc := 0) C dX0_isWrong_0 ?_
  refine gX0_19 (pc := 1) C dX0_isWrong_1 ?_
  refine r_iconst (pc := 4) (v := nI 2) C dX0_isWrong_4 (by decide) ?_
  refine r_iload2 (pc := 5) C dX0_isWrong_5 ?_
  refine r_imul (pc := 6) C dX0_isWrong_6 ?_
  refine r_eqi (pk_mul 2 t) ?_
  refine r_iload1 (pc := 7) C dX0_isWrong_7 ?_
  refine r_bipush (pc := 8) (v := nI 36) C dX0_isWrong_8 (by decide) ?_
  refine r_idiv (pc := 10) C dX0_isWrong_10 (by decide) ?_
  refine r_eqi (pk_div (d := 36) (by omega) (by decide) (by decide)) ?_
  refine r_iadd (pc := 11) C dX0_isWrong_11 ?_
  refine r_eqi (nI_add (2 * t) (b / 36)) ?_
  refine r_lald (pc := 12) (_) C dX0_isWrong_12 aC13 (rfl) (by omega) ?_
  refine r_iload1 (pc := 13) C dX0_isWrong_13 ?_
  refine r_bipush (pc := 14) (v := nI 36) C dX0_isWrong_14 (by decide) ?_
  refine r_irem (pc := 16) C dX0_isWrong_16 (by decide) ?_
  refine r_eqi (pk_rem (d := 36) (by omega) (by decide) (by decide)) ?_
  refine r_lushr (pc := 17) C dX0_isWrong_17 ?_
  refine r_lconst (pc := 18) (v := 1) C dX0_isWrong_18 (by decide) ?_
  refine r_land (pc := 19) C dX0_isWrong_19 ?_
  refine r_eql (btL_get _ (by omega)) ?_
  refine r_lconst (pc := 20) (v := 0) C dX0_isWrong_20 (by decide) ?_
  refine r_lcmp (pc := 21) C dX0_isWrong_21 ?_
  refine r_eqi (lcmp_b _) ?_
  refine r_if_eq (pc := 22) 29 C dX0_isWrong_22 (by decide) (fun c22 => ?_) (fun c22 => ?_)
  · refine r_iconst (pc := 29) (v := nI 0) C dX0_isWrong_29 (by decide) ?_
    exact r_zreturn (pc := 30) C dX0_isWrong_30 (rfl) (by first | exact ⟨by rw [bI_n.mp c22]; rfl, rfl⟩ | exact ⟨by rw [bI_z.mp c22]; rfl, rfl⟩)
  · refine r_iconst (pc := 25) (v := nI 1) C dX0_isWrong_25 (by decide) ?_
    refine r_goto (pc := 26) 30 C dX0_isWrong_26 (by decide) ?_
    exact r_zreturn (pc := 30) C dX0_isWrong_30 (rfl) (by first | exact ⟨by rw [bI_n.mp c22]; rfl, rfl⟩ | exact ⟨by rw [bI_z.mp c22]; rfl, rfl⟩)
set_option maxHeartbeats 4000000 in
set_option maxRecDepth 100000 in
theorem tX1_addMachine (Y : gY) (hY : Y.2.2.2 = wC) {G : gS} {mc : Nat} (hmc : G.1 6 1 = nI mc) (hc : mc < 8) {k p q : Int32} : ∀ l : Launch, gM Y l yX1_addMachine cX1_addMachine 5 (some .int) (0, 0) [.ref (Y.2.1 (6)), .int (k), .int (p), .int (q)] G (qi (fun r G' => r = (sI (sI (sI G (32 + mc) 0 k) (32 + mc) 1 p) (32 + mc) 2 q).1 6 1 ∧ G' = sI (sI (sI (sI G (32 + mc) 0 k) (32 + mc) 1 p) (32 + mc) 2 q) 6 1 ((sI (sI (sI G (32 + mc) 0 k) (32 + mc) 1 p) (32 + mc) 2 q).1 6 1 + nI 1))) := by
  intro l
  refine gM_of hY rfl (Nat.le_of_ble_eq_true rfl) [some (.ref (Y.2.1 (6))), some (.int (k)), some (.int (p)), some (.int (q)), none] rfl rfl ?_
  rintro Z rfl C
  refine r_aload0 (pc := 0) C dX1_addMachine_0 ?_
  refine gX1_11 (pc := 1) C dX1_addMachine_1 ?_
  refine r_aload0 (pc := 4) C dX1_addMachine_4 ?_
  refine gX1_46 (pc := 5) C dX1_addMachine_5 ?_
  refine r_aald (pc := 8) (mc) C dX1_addMachine_8 aC7 (fun _ => rfl) (hmc) (by omega) (rfl) ?_
  refine r_astore4 (pc := 9) C dX1_addMachine_9 rfl ?_
  refine r_aload4 (pc := 11) C dX1_addMachine_11 ?_
  refine r_iload1 (pc := 13) C dX1_addMachine_13 ?_
  refine pX1_49 (pc := 14) C (by omega) dX1_addMachine_14 ?_
  refine r_aload4 (pc := 17) C dX1_addMachine_17 ?_
  refine r_iload2 (pc := 19) C dX1_addMachine_19 ?_
  refine pX1_52 (pc := 20) C (by omega) dX1_addMachine_20 ?_
  refine r_aload4 (pc := 23) C dX1_addMachine_23 ?_
  refine r_iload3 (pc := 25) C dX1_addMachine_25 ?_
  refine pX1_55 (pc := 26) C (by omega) dX1_addMachine_26 ?_
  refine r_aload0 (pc := 29) C dX1_addMachine_29 ?_
  refine r_dup (pc := 30) C dX1_addMachine_30 rfl ?_
  refine gX1_46 (pc := 31) C dX1_addMachine_31 ?_
  refine r_dup_x1 (pc := 34) C dX1_addMachine_34 rfl rfl ?_
  refine r_iconst (pc := 35) (v := nI 1) C dX1_addMachine_35 (by decide) ?_
  refine r_iadd (pc := 36) C dX1_addMachine_36 ?_
  refine pX1_46 (pc := 37) C dX1_addMachine_37 ?_
  exact r_ireturn (pc := 40) C dX1_addMachine_40 (⟨rfl, rfl⟩)
set_option maxHeartbeats 4000000 in
set_option maxRecDepth 100000 in
theorem tX1_addFile (Y : gY) (hY : Y.2.2.2 = wC) {G : gS} {fc : Nat} (hfc : G.1 6 4 = nI fc) (hc : fc < 6) {b q : Int32} : ∀ l : Launch, gM Y l yX1_addFile cX1_addFile 3 (some .int) (0, 0) [.ref (Y.2.1 (6)), .int (b), .int (q)] G (qi (fun r G' => r = G.1 6 4 ∧ G' = sI (sI (sI G 8 fc b) 9 fc q) 6 4 (G.1 6 4 + nI 1))) := by
  intro l
  refine gM_of hY rfl (Nat.le_of_ble_eq_true rfl) [some (.ref (Y.2.1 (6))), some (.int (b)), some (.int (q))] rfl rfl ?_
  rintro Z rfl C
  refine r_aload0 (pc := 0) C dX1_addFile_0 ?_
  refine gX1_17 (pc := 1) C dX1_addFile_1 ?_
  refine r_aload0 (pc := 4) C dX1_addFile_4 ?_
  refine gX1_58 (pc := 5) C dX1_addFile_5 ?_
  refine r_iload1 (pc := 8) C dX1_addFile_8 ?_
  refine r_iast (pc := 9) (fc) C dX1_addFile_9 aC8 (hfc) (by omega) ?_
  refine r_aload0 (pc := 10) C dX1_addFile_10 ?_
  refine gX1_21 (pc := 11) C dX1_addFile_11 ?_
  refine r_aload0 (pc := 14) C dX1_addFile_14 ?_
  refine gX1_58 (pc := 15) C dX1_addFile_15 ?_
  refine r_iload2 (pc := 18) C dX1_addFile_18 ?_
  refine r_iast (pc := 19) (fc) C dX1_addFile_19 aC9 (hfc) (by omega) ?_
  refine r_aload0 (pc := 20) C dX1_addFile_20 ?_
  refine r_dup (pc := 21) C dX1_addFile_21 rfl ?_
  refine gX1_58 (pc := 22) C dX1_addFile_22 ?_
  refine r_dup_x1 (pc := 25) C dX1_addFile_25 rfl rfl ?_
  refine r_iconst (pc := 26) (v := nI 1) C dX1_addFile_26 (by decide) ?_
  refine r_iadd (pc := 27) C dX1_addFile_27 ?_
  refine pX1_58 (pc := 28) C dX1_addFile_28 ?_
  exact r_ireturn (pc := 31) C dX1_addFile_31 (⟨rfl, rfl⟩)
set_option maxHeartbeats 4000000 in
set_option maxRecDepth 100000 in
theorem tX1_hasBlock (Y : gY) (hY : Y.2.2.2 = wC) {G : gS} {fc : Nat} (hfc : G.1 6 4 = nI fc) (hc : fc ≤ 6) {f b : Int32} : ∀ l : Launch, gM Y l yX1_hasBlock cX1_hasBlock 3 (some .boolean) (1, 21) [.ref (Y.2.1 (6)), .int (f), .int (b)] G (qi (fun r G' => r = bI (decide (¬ f < 0 ∧ ¬ G.1 6 4 ≤ f ∧ ¬ b < 0 ∧ ¬ G.1 8 f.toNatClampNeg ≤ b)) ∧ G' = G)) := by
  intro l
  refine gM_of hY rfl (Nat.le_of_ble_eq_true rfl) [some (.ref (Y.2.1 (6))), some (.int (f)), some (.int (b))] rfl rfl ?_
  rintro Z rfl C
  refine r_iload1 (pc := 0) C dX1_hasBlock_0 ?_
  refine r_aload0 (pc := 1) C dX1_hasBlock_1 ?_
  refine gX1_58 (pc := 2) C dX1_hasBlock_2 ?_
  refine r_callSNi (pc := 5) C rfl dX1_hasBlock_5 rfl rfl cdX8_isBelow inRX8 stX8_isBelow (tX8_isBelow Z.1 C.w) rfl rfl (Nat.le_of_ble_eq_true rfl) (by decide) (fun x5 G5 h5 => ?_)
  obtain ⟨rfl, rfl⟩ := h5
  refine r_if_eq (pc := 8) 28 C dX1_hasBlock_8 (by decide) (fun c8 => ?_) (fun c8 => ?_)
  · refine r_iconst (pc := 28) (v := nI 0) C dX1_hasBlock_28 (by decide) ?_
    exact r_zreturn (pc := 29) C dX1_hasBlock_29 (rfl) (by first | exact ⟨bI_dn (fun h => of_decide_eq_false (bI_z.mp c8) ⟨h.1, h.2.1⟩), rfl⟩ | (refine ⟨?_, rfl⟩; rw [nI_clamp (by omega)]; first | exact bI_d ⟨h8.1, h8.2, of_decide_eq_true (bI_n.mp c21)⟩ | exact bI_dn (fun h => of_decide_eq_false (bI_z.mp c21) h.2.2)))
  · have h8 := of_decide_eq_true (bI_n.mp c8)
    obtain ⟨j, hj, rfl⟩ : ∃ j : Nat, j < fc ∧ f = nI j := by
      rw [hfc] at h8
      obtain ⟨j, hj, rfl⟩ := nI_of h8.1
      exact ⟨j, (nI_ltI hj (by omega)).mp (by simpa using h8.2), rfl⟩
    refine r_iload2 (pc := 11) C dX1_hasBlock_11 ?_
    refine r_aload0 (pc := 12) C dX1_hasBlock_12 ?_
    refine gX1_17 (pc := 13) C dX1_hasBlock_13 ?_
    refine r_iload1 (pc := 16) C dX1_hasBlock_16 ?_
    refine r_iald (pc := 17) (_) C dX1_hasBlock_17 aC8 (rfl) (by omega) ?_
    refine r_callSNi (pc := 18) C rfl dX1_hasBlock_18 rfl rfl cdX8_isBelow inRX8 stX8_isBelow (tX8_isBelow Z.1 C.w) rfl rfl (Nat.le_of_ble_eq_true rfl) (by decide) (fun x18 G18 h18 => ?_)
    obtain ⟨rfl, rfl⟩ := h18
    refine r_if_eq (pc := 21) 28 C dX1_hasBlock_21 (by decide) (fun c21 => ?_) (fun c21 => ?_)
    · refine r_iconst (pc := 28) (v := nI 0) C dX1_hasBlock_28 (by decide) ?_
      exact r_zreturn (pc := 29) C dX1_hasBlock_29 (rfl) (by first | exact ⟨bI_dn (fun h => of_decide_eq_false (bI_z.mp c8) ⟨h.1, h.2.1⟩), rfl⟩ | (refine ⟨?_, rfl⟩; rw [nI_clamp (by omega)]; first | exact bI_d ⟨h8.1, h8.2, of_decide_eq_true (bI_n.mp c21)⟩ | exact bI_dn (fun h => of_decide_eq_false (bI_z.mp c21) h.2.2)))
    · refine r_iconst (pc := 24) (v := nI 1) C dX1_hasBlock_24 (by decide) ?_
      refine r_goto (pc := 25) 29 C dX1_hasBlock_25 (by decide) ?_
      exact r_zreturn (pc := 29) C dX1_hasBlock_29 (rfl) (by first | exact ⟨bI_dn (fun h => of_decide_eq_false (bI_z.mp c8) ⟨h.1, h.2.1⟩), rfl⟩ | (refine ⟨?_, rfl⟩; rw [nI_clamp (by omega)]; first | exact bI_d ⟨h8.1, h8.2, of_decide_eq_true (bI_n.mp c21)⟩ | exact bI_dn (fun h => of_decide_eq_false (bI_z.mp c21) h.2.2)))
