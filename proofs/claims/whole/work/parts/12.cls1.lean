set_option maxHeartbeats 4000000 in
set_option maxRecDepth 100000 in
theorem tX8_isBelow (Y : gY) (hY : Y.2.2.2 = wC) {G : gS} {n b : Int32} : ∀ l : Launch, gM Y l yX8_isBelow cX8_isBelow 2 (some .boolean) (0, 0) [.int (n), .int (b)] G (qi (fun r G' => r = bI (decide (¬ n < 0 ∧ ¬ b ≤ n)) ∧ G' = G)) := by
  intro l
  refine gM_of hY rfl (Nat.le_of_ble_eq_true rfl) [some (.int (n)), some (.int (b))] rfl rfl ?_
  rintro Z rfl C
  refine r_iload0 (pc := 0) C dX8_isBelow_0 ?_
  refine r_if_lt (pc := 1) 13 C dX8_isBelow_1 (by decide) (fun c1 => ?_) (fun c1 => ?_)
  · refine r_iconst (pc := 13) (v := nI 0) C dX8_isBelow_13 (by decide) ?_
    exact r_zreturn (pc := 14) C dX8_isBelow_14 (rfl) (by first | exact ⟨bI_d ⟨by assumption, by assumption⟩, rfl⟩ | exact ⟨bI_dn (fun h => by first | exact h.1 (by assumption) | exact h.2 (by assumption)), rfl⟩)
  · refine r_iload0 (pc := 4) C dX8_isBelow_4 ?_
    refine r_iload1 (pc := 5) C dX8_isBelow_5 ?_
    refine r_icmp_ge (pc := 6) 13 C dX8_isBelow_6 (by decide) (fun c6 => ?_) (fun c6 => ?_)
    · refine r_iconst (pc := 13) (v := nI 0) C dX8_isBelow_13 (by decide) ?_
      exact r_zreturn (pc := 14) C dX8_isBelow_14 (rfl) (by first | exact ⟨bI_d ⟨by assumption, by assumption⟩, rfl⟩ | exact ⟨bI_dn (fun h => by first | exact h.1 (by assumption) | exact h.2 (by assumption)), rfl⟩)
    · refine r_iconst (pc := 9) (v := nI 1) C dX8_isBelow_9 (by decide) ?_
      refine r_goto (pc := 10) 14 C dX8_isBelow_10 (by decide) ?_
      exact r_zreturn (pc := 14) C dX8_isBelow_14 (rfl) (by first | exact ⟨bI_d ⟨by assumption, by assumption⟩, rfl⟩ | exact ⟨bI_dn (fun h => by first | exact h.1 (by assumption) | exact h.2 (by assumption)), rfl⟩)
set_option maxHeartbeats 4000000 in
set_option maxRecDepth 100000 in
theorem tX8_endOrNone (Y : gY) (hY : Y.2.2.2 = wC) {G : gS} {n : Int32} : ∀ l : Launch, gM Y l yX8_endOrNone cX8_endOrNone 1 (some .int) (0, 0) [.int (n)] G (qi (fun r G' => r = (if nI 300 ≤ n then -1 else n) ∧ G' = G)) := by
  intro l
  refine gM_of hY rfl (Nat.le_of_ble_eq_true rfl) [some (.int (n))] rfl rfl ?_
  rintro Z rfl C
  refine r_iload0 (pc := 0) C dX8_endOrNone_0 ?_
  refine r_sipush (pc := 1) (v := nI 300) C dX8_endOrNone_1 (by decide) ?_
  refine r_icmp_ge (pc := 4) 11 C dX8_endOrNone_4 (by decide) (fun c4 => ?_) (fun c4 => ?_)
  · refine r_iconst (pc := 11) (v := (-1)) C dX8_endOrNone_11 (by decide) ?_
    exact r_ireturn (pc := 12) C dX8_endOrNone_12 (by first | exact ⟨(if_pos c4).symm, rfl⟩ | exact ⟨(if_neg c4).symm, rfl⟩)
  · refine r_iload0 (pc := 7) C dX8_endOrNone_7 ?_
    refine r_goto (pc := 8) 12 C dX8_endOrNone_8 (by decide) ?_
    exact r_ireturn (pc := 12) C dX8_endOrNone_12 (by first | exact ⟨(if_pos c4).symm, rfl⟩ | exact ⟨(if_neg c4).symm, rfl⟩)
section R
variable {Z : gO} {w : gU} {cc : ByteArray} {own : String} {ret : Option FieldType} {nL : Nat} {rm : Nat × Nat} {post : Option Value → gS → Prop} {pc : Nat} {ls : List (Option Value)} {st : List Value} {G : gS}
theorem r_mmax {idx : Nat} {x y : Int32} (C : gC Z w cc own ret nL rm) (hlen : ls.length = nL) (d : decode cc pc = .ok (.invokestatic idx, 3)) (hl : Cond.methodLink own idx yJ9_max_7cf53 ∈ lw_g) (hcat : (st.map fun v => v.category).sum ≤ 8) (hrm : 1 ≤ rm.1 ∧ 21 ≤ rm.2) (kk : WW Z post (pc + 3) ls (.int (if x < y then y else x) :: st) G) : WW Z post pc ls (.int y :: .int x :: st) G := by
  obtain ⟨Y, ⟨p, l, e, s, m, args, below, meth, c⟩, rm0, A⟩ := Z
  obtain ⟨⟨hx, hb⟩, hrr, ⟨hml, hown⟩, hts, hK, hD, hA, hw, hrm0, hZ, hN⟩ := C
  subst hrm0
  intro H locs la hP hS hlh
  have h2 : (st.map fun v => v.category).sum + 13 ≤ rm0.2 := by omega
  exact va_mmax hx hb (by rw [hml, ← hlen]; exact hlh.1.symm) hown (hts _ hl) (hts _ stJ9_max_7cf53) (hts _ inRJ9) (hts _ cdJ9_max_7cf53) hrm.1 h2 (Nat.zero_le _) (Nat.zero_le _) d (kk H locs la hP hS hlh)
end R
set_option maxHeartbeats 4000000 in
set_option maxRecDepth 100000 in
theorem tX0_isFull (Y : gY) (hY : Y.2.2.2 = wC) {G : gS} : ∀ l : Launch, gM Y l yX0_isFull cX0_isFull 1 (some .boolean) (0, 0) [.ref (Y.2.1 (11))] G (qi (fun r G' => r = (if G.1 11 0 < nI 200 then nI 0 else nI 1) ∧ G' = G)) := by
  intro l
  refine gM_of hY rfl (Nat.le_of_ble_eq_true rfl) [some (.ref (Y.2.1 (11)))] rfl rfl ?_
  rintro Z rfl C
  refine r_aload0 (pc := 0) C dX0_isFull_0 ?_
  refine gX0_23 (pc := 1) C dX0_isFull_1 ?_
  refine r_sipush (pc := 4) (v := nI 200) C dX0_isFull_4 (by decide) ?_
  refine r_icmp_lt (pc := 7) 14 C dX0_isFull_7 (by decide) (fun c7 => ?_) (fun c7 => ?_)
  · refine r_iconst (pc := 14) (v := nI 0) C dX0_isFull_14 (by decide) ?_
    exact r_zreturn (pc := 15) C dX0_isFull_15 (rfl) (by first | exact ⟨(if_pos c7).symm, rfl⟩ | exact ⟨(if_neg c7).symm, rfl⟩)
  · refine r_iconst (pc := 10) (v := nI 1) C dX0_isFull_10 (by decide) ?_
    refine r_goto (pc := 11) 15 C dX0_isFull_11 (by decide) ?_
    exact r_zreturn (pc := 15) C dX0_isFull_15 (rfl) (by first | exact ⟨(if_pos c7).symm, rfl⟩ | exact ⟨(if_neg c7).symm, rfl⟩)
set_option maxHeartbeats 4000000 in
set_option maxRecDepth 100000 in
theorem tX0_isLost (Y : gY) (hY : Y.2.2.2 = wC) {G : gS} {m t : Nat} (hm : m < 8) (ht : t < 300) : ∀ l : Launch, gM Y l yX0_isLost cX0_isLost 3 (some .boolean) (0, 0) [.ref (Y.2.1 (11)), .int (nI m), .int (nI t)] G (qi (fun r G' => r = bI (bt (G.1 12 t) (m)) ∧ G' = G)) := by
  intro l
  refine gM_of hY rfl (Nat.le_of_ble_eq_true rfl) [some (.ref (Y.2.1 (11))), some (.int (nI m)), some (.int (nI t))] rfl rfl ?_
  rintro Z rfl C
  refine r_aload0 (pc := 0) C dX0_isLost_0 ?_
  refine gX0_15 (pc := 1) C dX0_isLost_1 ?_
  refine r_iload2 (pc := 4) C dX0_isLost_4 ?_
  refine r_iald (pc := 5) (_) C dX0_isLost_5 aC12 (rfl) (by omega) ?_
  refine r_iload1 (pc := 6) C dX0_isLost_6 ?_
  refine r_iushr (pc := 7) C dX0_isLost_7 ?_
  refine r_iconst (pc := 8) (v := nI 1) C dX0_isLost_8 (by decide) ?_
  refine r_iand (pc := 9) C dX0_isLost_9 ?_
  refine r_eqi (bt_get _ (m := m) (by omega)) ?_
  refine r_if_eq (pc := 10) 17 C dX0_isLost_10 (by decide) (fun c10 => ?_) (fun c10 => ?_)
  · refine r_iconst (pc := 17) (v := nI 0) C dX0_isLost_17 (by decide) ?_
    exact r_zreturn (pc := 18) C dX0_isLost_18 (rfl) (by first | exact ⟨by rw [bI_n.mp c10]; rfl, rfl⟩ | exact ⟨by rw [bI_z.mp c10]; rfl, rfl⟩)
  · refine r_iconst (pc := 13) (v := nI 1) C dX0_isLost_13 (by decide) ?_
    refine r_goto (pc := 14) 18 C dX0_isLost_14 (by decide) ?_
    exact r_zreturn (pc := 18) C dX0_isLost_18 (rfl) (by first | exact ⟨by rw [bI_n.mp c10]; rfl, rfl⟩ | exact ⟨by rw [bI_z.mp c10]; rfl, rfl⟩)
set_option maxHeartbeats 4000000 in
set_option maxRecDepth 100000 in
theorem tX0_isCut (Y : gY) (hY : Y.2.2.2 = wC) {G : gS} {m t : Nat} (hm : m < 8) (ht : t < 300) : ∀ l : Launch, gM Y l yX0_isCut cX0_isCut 3 (some .boolean) (0, 0) [.ref (Y.2.1 (11)), .int (nI m), .int (nI t)] G (qi (fun r G' => r = bI (bt (G.1 12 t) (8 + m)) ∧ G' = G)) := by
  intro l
  refine gM_of hY rfl (Nat.le_of_ble_eq_true rfl) [some (.ref (Y.2.1 (11))), some (.int (nI m)), some (.int (nI t))] rfl rfl ?_
  rintro Z rfl C
  refine r_aload0 (pc := 0) C dX0_isCut_0 ?_
  refine gX0_15 (pc := 1) C dX0_isCut_1 ?_
  refine r_iload2 (pc := 4) C dX0_isCut_4 ?_
  refine r_iald (pc := 5) (_) C dX0_isCut_5 aC12 (rfl) (by omega) ?_
  refine r_bipush (pc := 6) (v := nI 8) C dX0_isCut_6 (by decide) ?_
  refine r_iload1 (pc := 8) C dX0_isCut_8 ?_
  refine r_iadd (pc := 9) C dX0_isCut_9 ?_
  refine r_eqi (nI_add 8 m) ?_
  refine r_iushr (pc := 10) C dX0_isCut_10 ?_
  refine r_iconst (pc := 11) (v := nI 1) C dX0_isCut_11 (by decide) ?_
  refine r_iand (pc := 12) C dX0_isCut_12 ?_
  refine r_eqi (bt_get _ (m := 8 + m) (by omega)) ?_
  refine r_if_eq (pc := 13) 20 C dX0_isCut_13 (by decide) (fun c13 => ?_) (fun c13 => ?_)
  · refine r_iconst (pc := 20) (v := nI 0) C dX0_isCut_20 (by decide) ?_
    exact r_zreturn (pc := 21) C dX0_isCut_21 (rfl) (by first | exact ⟨by rw [bI_n.mp c13]; rfl, rfl⟩ | exact ⟨by rw [bI_z.mp c13]; rfl, rfl⟩)
  · refine r_iconst (pc := 16) (v := nI 1) C dX0_isCut_16 (by decide) ?_
    refine r_goto (pc := 17) 21 C dX0_isCut_17 (by decide) ?_
    exact r_zreturn (pc := 21) C dX0_isCut_21 (rfl) (by first | exact ⟨by rw [bI_n.mp c13]; rfl, rfl⟩ | exact ⟨by rw [bI_z.mp c13]; rfl, rfl⟩)
set_option maxHeartbeats 4000000 in
set_option maxRecDepth 100000 in
theorem tX0_isDown (Y : gY) (hY : Y.2.2.2 = wC) {G : gS} {m t : Nat} (hm : m < 2) (ht : t < 300) : ∀ l : Launch, gM Y l yX0_isDown cX0_isDown 3 (some .boolean) (0, 0) [.ref (Y.2.1 (11)), .int (nI m), .int (nI t)] G (qi (fun r G' => r = bI (bt (G.1 12 t) (16 + m)) ∧ G' = G)) := by
  intro l
  refine gM_of hY rfl (Nat.le_of_ble_eq_true rfl) [some (.ref (Y.2.1 (11))), some (.int (nI m)), some (.int (nI t))] rfl rfl ?_
  rintro Z rfl C
  refine r_aload0 (pc := 0) C dX0_isDown_0 ?_
  refine gX0_15 (pc := 1) C dX0_isDown_1 ?_
  refine r_iload2 (pc := 4) C dX0_isDown_4 ?_
  refine r_iald (pc := 5) (_) C dX0_isDown_5 aC12 (rfl) (by omega) ?_
  refine r_bipush (pc := 6) (v := nI 16) C dX0_isDown_6 (by decide) ?_
  refine r_iload1 (pc := 8) C dX0_isDown_8 ?_
  refine r_iadd (pc := 9) C dX0_isDown_9 ?_
  refine r_eqi (nI_add 16 m) ?_
  refine r_iushr (pc := 10) C dX0_isDown_10 ?_
  refine r_iconst (pc := 11) (v := nI 1) C dX0_isDown_11 (by decide) ?_
  refine r_iand (pc := 12) C dX0_isDown_12 ?_
  refine r_eqi (bt_get _ (m := 16 + m) (by omega)) ?_
  refine r_if_eq (pc := 13) 20 C dX0_isDown_13 (by decide) (fun c13 => ?_) (fun c13 => ?_)
  · refine r_iconst (pc := 20) (v := nI 0) C dX0_isDown_20 (by decide) ?_
    exact r_zreturn (pc := 21) C dX0_isDown_21 (rfl) (by first | exact ⟨by rw [bI_n.mp c13]; rfl, rfl⟩ | exact ⟨by rw [bI_z.mp c13]; rfl, rfl⟩)
  · refine r_iconst (pc := 16) (v := nI 1) C dX0_isDown_16 (by decide) ?_
    refine r_goto (pc := 17) 21 C dX0_isDown_17 (by decide) ?_
    exact r_zreturn (pc := 21) C dX0_isDown_21 (rfl) (by first | exact ⟨by rw [bI_n.mp c13]; rfl, rfl⟩ | exact ⟨by rw [bI_z.mp c13]; rfl, rfl⟩)
set_option maxHeartbeats 4000000 in
set_option maxRecDepth 100000 in
theorem tX0_addLost (Y : gY) (hY : Y.2.2.2 = wC) {G : gS} {m t : Nat} (hm : m < 8) (ht : t < 300) : ∀ l : Launch, gM Y l yX0_addLost cX0_addLost 3 (some .int) (0, 0) [.ref (Y.2.1 (11)), .int (nI m), .int (nI t)] G (qi (fun r G' => r = G.1 11 0 ∧ G' = sI (sI G 12 t (G.1 12 t ||| (nI 1 <<< (nI m &&& 31)))) 11 0 (G.1 11 0 + nI 1))) := by
  intro l
  refine gM_of hY rfl (Nat.le_of_ble_eq_true rfl) [some (.ref (Y.2.1 (11))), some (.int (nI m)), some (.int (nI t))] rfl rfl ?_
  rintro Z rfl C
  refine r_aload0 (pc := 0) C dX0_addLost_0 ?_
  refine gX0_15 (pc := 1) C dX0_addLost_1 ?_
  refine r_iload2 (pc := 4) C dX0_addLost_4 ?_
  refine r_dup2 (pc := 5) C dX0_addLost_5 rfl rfl ?_
  refine r_iald (pc := 6) (_) C dX0_addLost_6 aC12 (rfl) (by omega) ?_
  refine r_iconst (pc := 7) (v := nI 1) C dX0_addLost_7 (by decide) ?_
  refine r_iload1 (pc := 8) C dX0_addLost_8 ?_
  refine r_ishl (pc := 9) C dX0_addLost_9 ?_
  refine r_ior (pc := 10) C dX0_addLost_10 ?_
  refine r_iast (pc := 11) (_) C dX0_addLost_11 aC12 (rfl) (by omega) ?_
  refine r_aload0 (pc := 12) C dX0_addLost_12 ?_
  refine r_dup (pc := 13) C dX0_addLost_13 rfl ?_
  refine gX0_23 (pc := 14) C dX0_addLost_14 ?_
  refine r_dup_x1 (pc := 17) C dX0_addLost_17 rfl rfl ?_
  refine r_iconst (pc := 18) (v := nI 1) C dX0_addLost_18 (by decide) ?_
  refine r_iadd (pc := 19) C dX0_addLost_19 ?_
  refine pX0_23 (pc := 20) C dX0_addLost_20 ?_
  exact r_ireturn (pc := 23) C dX0_addLost_23 (⟨rfl, rfl⟩)
set_option maxHeartbeats 4000000 in
set_option maxRecDepth 100000 in
theorem tX0_addCut (Y : gY) (hY : Y.2.2.2 = wC) {G : gS} {m t : Nat} (hm : m < 8) (ht : t < 300) : ∀ l : Launch, gM Y l yX0_addCut cX0_addCut 3 (some .int) (1, 21) [.ref (Y.2.1 (11)), .int (nI m), .int (nI t)] G (qi (fun r G' => r = G.1 11 0 ∧ G' = sI (sI (sI G 12 t (G.1 12 t ||| (nI 1 <<< (nI (8 + m) &&& 31)))) 11 1 (if G.1 11 1 < nI t then nI t else G.1 11 1)) 11 0 (G.1 11 0 + nI 1))) := by
  intro l
  refine gM_of hY rfl (Nat.le_of_ble_eq_true rfl) [some (.ref (Y.2.1 (11))), some (.int (nI m)), some (.int (nI t))] rfl rfl ?_
  rintro Z rfl C
  refine r_aload0 (pc := 0) C dX0_addCut_0 ?_
  refine gX0_15 (pc := 1) C dX0_addCut_1 ?_
  refine r_iload2 (pc := 4) C dX0_addCut_4 ?_
  refine r_dup2 (pc := 5) C dX0_addCut_5 rfl rfl ?_
  refine r_iald (pc := 6) (_) C dX0_addCut_6 aC12 (rfl) (by omega) ?_
  refine r_iconst (pc := 7) (v := nI 1) C dX0_addCut_7 (by decide) ?_
  refine r_bipush (pc := 8) (v := nI 8) C dX0_addCut_8 (by decide) ?_
  refine r_iload1 (pc := 10) C dX0_addCut_10 ?_
  refine r_iadd (pc := 11) C dX0_addCut_11 ?_
  refine r_eqi (nI_add 8 m) ?_
  refine r_ishl (pc := 12) C dX0_addCut_12 ?_
  refine r_ior (pc := 13) C dX0_addCut_13 ?_
  refine r_iast (pc := 14) (_) C dX0_addCut_14 aC12 (rfl) (by omega) ?_
  refine r_aload0 (pc := 15) C dX0_addCut_15 ?_
  refine r_aload0 (pc := 16) C dX0_addCut_16 ?_
  refine gX0_9 (pc := 17) C dX0_addCut_17 ?_
  refine r_iload2 (pc := 20) C dX0_addCut_20 ?_
  refine r_mmax (pc := 21) C rfl dX0_addCut_21 kX0_26.1.2.1 (Nat.le_of_ble_eq_true rfl) (by decide) ?_
  refine pX0_9 (pc := 24) C dX0_addCut_24 ?_
  refine r_aload0 (pc := 27) C dX0_addCut_27 ?_
  refine r_dup (pc := 28) C dX0_addCut_28 rfl ?_
  refine gX0_23 (pc := 29) C dX0_addCut_29 ?_
  refine r_dup_x1 (pc := 32) C dX0_addCut_32 rfl rfl ?_
  refine r_iconst (pc := 33) (v := nI 1) C dX0_addCut_33 (by decide) ?_
  refine r_iadd (pc := 34) C dX0_addCut_34 ?_
  refine pX0_23 (pc := 35) C dX0_addCut_35 ?_
  exact r_ireturn (pc := 38) C dX0_addCut_38 (⟨rfl, rfl⟩)
set_option maxHeartbeats 4000000 in
set_option maxRecDepth 100000 in
theorem tX2_enter (Y : gY) (hY : Y.2.2.2 = wC) {G : gS} {i : Nat} (hi : i < 8) {p : Int32} : ∀ l : Launch, gM Y l yX2_enter cX2_enter 2 none (0, 0) [.ref (Y.2.1 (32 + i)), .int (p)] G (qv (fun G' => G' = sW G (32 + i) (mEnter p (G.1 (32 + i))))) := by
  intro l
  refine gM_of hY rfl (Nat.le_of_ble_eq_true rfl) [some (.ref (Y.2.1 (32 + i))), some (.int (p))] rfl rfl ?_
  rintro Z rfl C
  refine r_aload0 (pc := 0) C dX2_enter_0 ?_
  refine r_iload1 (pc := 1) C dX2_enter_1 ?_
  refine pX2_55 (pc := 2) C (by omega) dX2_enter_2 ?_
  refine r_aload0 (pc := 5) C dX2_enter_5 ?_
  refine r_iconst (pc := 6) (v := (-1)) C dX2_enter_6 (by decide) ?_
  refine pX2_37 (pc := 7) C (by omega) dX2_enter_7 ?_
  refine r_aload0 (pc := 10) C dX2_enter_10 ?_
  refine r_iconst (pc := 11) (v := (-1)) C dX2_enter_11 (by decide) ?_
  refine pX2_40 (pc := 12) C (by omega) dX2_enter_12 ?_
  refine r_aload0 (pc := 15) C dX2_enter_15 ?_
  refine r_iconst (pc := 16) (v := nI 0) C dX2_enter_16 (by decide) ?_
  refine pX2_58 (pc := 17) C (by omega) dX2_enter_17 ?_
  refine r_aload0 (pc := 20) C dX2_enter_20 ?_
  refine r_iconst (pc := 21) (v := nI 0) C dX2_enter_21 (by decide) ?_
  refine pX2_43 (pc := 22) C (by omega) dX2_enter_22 ?_
  exact r_return (pc := 25) C dX2_enter_25 (by simp only [sI0, sW_s, sW_W, upd_s, mEnter])
set_option maxHeartbeats 4000000 in
set_option maxRecDepth 100000 in
theorem tX2_clearTallies (Y : gY) (hY : Y.2.2.2 = wC) {G : gS} {i : Nat} (hi : i < 8) : ∀ l : Launch, gM Y l yX2_clearTallies cX2_clearTallies 1 none (0, 0) [.ref (Y.2.1 (32 + i))] G (qv (fun G' => G' = sW G (32 + i) (mClear (G.1 (32 + i))))) := by
  intro l
  refine gM_of hY rfl (Nat.le_of_ble_eq_true rfl) [some (.ref (Y.2.1 (32 + i)))] rfl rfl ?_
  rintro Z rfl C
  refine r_aload0 (pc := 0) C dX2_clearTallies_0 ?_
  refine r_iconst (pc := 1) (v := nI 0) C dX2_clearTallies_1 (by decide) ?_
  refine pX2_31 (pc := 2) C (by omega) dX2_clearTallies_2 ?_
  refine r_aload0 (pc := 5) C dX2_clearTallies_5 ?_
  refine r_iconst (pc := 6) (v := nI 0) C dX2_clearTallies_6 (by decide) ?_
  refine pX2_52 (pc := 7) C (by omega) dX2_clearTallies_7 ?_
  refine r_aload0 (pc := 10) C dX2_clearTallies_10 ?_
  refine r_iconst (pc := 11) (v := nI 0) C dX2_clearTallies_11 (by decide) ?_
  refine pX2_49 (pc := 12) C (by omega) dX2_clearTallies_12 ?_
  exact r_return (pc := 15) C dX2_clearTallies_15 (by simp only [sI0, sW_s, sW_W, upd_s, mClear])
set_option maxHeartbeats 4000000 in
set_option maxRecDepth 100000 in
theorem tX2_reset (Y : gY) (hY : Y.2.2.2 = wC) {G : gS} {i : Nat} (hi : i < 8) : ∀ l : Launch, gM Y l yX2_reset cX2_reset 1 none (1, 21) [.ref (Y.2.1 (32 + i))] G (qv (fun G' => G' = sW G (32 + i) (mReset (G.1 (32 + i))))) := by
  intro l
  refine gM_of hY rfl (Nat.le_of_ble_eq_true rfl) [some (.ref (Y.2.1 (32 + i)))] rfl rfl ?_
  rintro Z rfl C
  refine r_aload0 (pc := 0) C dX2_reset_0 ?_
  refine r_iconst (pc := 1) (v := nI 0) C dX2_reset_1 (by decide) ?_
  refine pX2_9 (pc := 2) C (by omega) dX2_reset_2 ?_
  refine r_aload0 (pc := 5) C dX2_reset_5 ?_
  refine r_iconst (pc := 6) (v := (-1)) C dX2_reset_6 (by decide) ?_
  refine pX2_15 (pc := 7) C (by omega) dX2_reset_7 ?_
  refine r_aload0 (pc := 10) C dX2_reset_10 ?_
  refine r_iconst (pc := 11) (v := nI 0) C dX2_reset_11 (by decide) ?_
  refine pX2_18 (pc := 12) C (by omega) dX2_reset_12 ?_
  refine r_aload0 (pc := 15) C dX2_reset_15 ?_
  refine r_iconst (pc := 16) (v := nI 0) C dX2_reset_16 (by decide) ?_
  refine r_callVv (pc := 17) C rfl dX2_reset_17 kX2_21 gF2 (jCm (by omega)) (tX2_enter Z.1 C.w hi) rfl rfl (Nat.le_of_ble_eq_true rfl) (by decide) (fun G17 h17 => ?_)
  subst h17
  refine r_aload0 (pc := 20) C dX2_reset_20 ?_
  refine r_callVv (pc := 21) C rfl dX2_reset_21 kX2_25 gF2 (jCm (by omega)) (tX2_clearTallies Z.1 C.w hi) rfl rfl (Nat.le_of_ble_eq_true rfl) (by decide) (fun G21 h21 => ?_)
  subst h21
  exact r_return (pc := 24) C dX2_reset_24 (by simp only [sI0, sW_s, sW_W, upd_s, mReset])
set_option maxHeartbeats 4000000 in
set_option maxRecDepth 100000 in
theorem tX2_losePower (Y : gY) (hY : Y.2.2.2 = wC) {G : gS} {i : Nat} (hi : i < 8) {t : Int32} : ∀ l : Launch, gM Y l yX2_losePower cX2_losePower 2 none (1, 21) [.ref (Y.2.1 (32 + i)), .int (t)] G (qv (fun G' => G' = sW G (32 + i) (mLose t (G.1 (32 + i))))) := by
  intro l
  refine gM_of hY rfl (Nat.le_of_ble_eq_true rfl) [some (.ref (Y.2.1 (32 + i))), some (.int (t))] rfl rfl ?_
  rintro Z rfl C
  refine r_aload0 (pc := 0) C dX2_losePower_0 ?_
  refine r_iconst (pc := 1) (v := nI 0) C dX2_losePower_1 (by decide) ?_
  refine r_callVv (pc := 2) C rfl dX2_losePower_2 kX2_21 gF2 (jCm (by omega)) (tX2_enter Z.1 C.w hi) rfl rfl (Nat.le_of_ble_eq_true rfl) (by decide) (fun G2 h2 => ?_)
  subst h2
  refine r_aload0 (pc := 5) C dX2_losePower_5 ?_
  refine r_callVv (pc := 6) C rfl dX2_losePower_6 kX2_25 gF2 (jCm (by omega)) (tX2_clearTallies Z.1 C.w hi) rfl rfl (Nat.le_of_ble_eq_true rfl) (by decide) (fun G6 h6 => ?_)
  subst h6
  refine r_aload0 (pc := 9) C dX2_losePower_9 ?_
  refine r_iload1 (pc := 10) C dX2_losePower_10 ?_
  refine r_iconst (pc := 11) (v := nI 3) C dX2_losePower_11 (by decide) ?_
  refine r_iadd (pc := 12) C dX2_losePower_12 ?_
  refine pX2_18 (pc := 13) C (by omega) dX2_losePower_13 ?_
  exact r_return (pc := 16) C dX2_losePower_16 (by simp only [sI0, sW_s, sW_W, upd_s, mLose])
set_option maxHeartbeats 4000000 in
set_option maxRecDepth 100000 in
theorem tX2_begin (Y : gY) (hY : Y.2.2.2 = wC) {G : gS} {i : Nat} (hi : i < 8) {t : Int32} : ∀ l : Launch, gM Y l yX2_begin cX2_begin 2 none (1, 21) [.ref (Y.2.1 (32 + i)), .int (t)] G (qv (fun G' => G' = sW G (32 + i) (mBegin t (G.1 (32 + i))))) := by
  intro l
  refine gM_of hY rfl (Nat.le_of_ble_eq_true rfl) [some (.ref (Y.2.1 (32 + i))), some (.int (t))] rfl rfl ?_
  rintro Z rfl C
  refine r_aload0 (pc := 0) C dX2_begin_0 ?_
  refine r_iconst (pc := 1) (v := nI 1) C dX2_begin_1 (by decide) ?_
  refine r_callVv (pc := 2) C rfl dX2_begin_2 kX2_21 gF2 (jCm (by omega)) (tX2_enter Z.1 C.w hi) rfl rfl (Nat.le_of_ble_eq_true rfl) (by decide) (fun G2 h2 => ?_)
  subst h2
  refine r_aload0 (pc := 5) C dX2_begin_5 ?_
  refine r_callVv (pc := 6) C rfl dX2_begin_6 kX2_25 gF2 (jCm (by omega)) (tX2_clearTallies Z.1 C.w hi) rfl rfl (Nat.le_of_ble_eq_true rfl) (by decide) (fun G6 h6 => ?_)
  subst h6
  refine r_aload0 (pc := 9) C dX2_begin_9 ?_
  refine r_dup (pc := 10) C dX2_begin_10 rfl ?_
  refine gX2_9 (pc := 11) C (by omega) dX2_begin_11 ?_
  refine r_iconst (pc := 14) (v := nI 1) C dX2_begin_14 (by decide) ?_
  refine r_iadd (pc := 15) C dX2_begin_15 ?_
  refine pX2_9 (pc := 16) C (by omega) dX2_begin_16 ?_
  refine r_aload0 (pc := 19) C dX2_begin_19 ?_
  refine r_iload1 (pc := 20) C dX2_begin_20 ?_
  refine pX2_28 (pc := 21) C (by omega) dX2_begin_21 ?_
  exact r_return (pc := 24) C dX2_begin_24 (by simp only [sI0, sW_s, sW_W, upd_s, mBegin]; rfl)
set_option maxHeartbeats 4000000 in
set_option maxRecDepth 100000 in
theorem tX2_enterRescue (Y : gY) (hY : Y.2.2.2 = wC) {G : gS} {i : Nat} (hi : i < 8) {y : Int32} : ∀ l : Launch, gM Y l yX2_enterRescue cX2_enterRescue 2 none (1, 21) [.ref (Y.2.1 (32 + i)), .int (y)] G (qv (fun G' => G' = sW G (32 + i) (mRescue y (G.1 (32 + i))))) := by
  intro l
  refine gM_of hY rfl (Nat.le_of_ble_eq_true rfl) [some (.ref (Y.2.1 (32 + i))), some (.int (y))] rfl rfl ?_
  rintro Z rfl C
  refine r_aload0 (pc := 0) C dX2_enterRescue_0 ?_
  refine r_iconst (pc := 1) (v := nI 5) C dX2_enterRescue_1 (by decide) ?_
  refine r_callVv (pc := 2) C rfl dX2_enterRescue_2 kX2_21 gF2 (jCm (by omega)) (tX2_enter Z.1 C.w hi) rfl rfl (Nat.le_of_ble_eq_true rfl) (by decide) (fun G2 h2 => ?_)
  subst h2
  refine r_aload0 (pc := 5) C dX2_enterRescue_5 ?_
  refine r_iload1 (pc := 6) C dX2_enterRescue_6 ?_
  refine pX2_58 (pc := 7) C (by omega) dX2_enterRescue_7 ?_
  exact r_return (pc := 10) C dX2_enterRescue_10 (by simp only [sI0, sW_s, sW_W, upd_s, mRescue])
set_option maxHeartbeats 4000000 in
set_option maxRecDepth 100000 in
theorem tX2_failToAsk (Y : gY) (hY : Y.2.2.2 = wC) {G : gS} {i : Nat} (hi : i < 8) {y t : Int32} : ∀ l : Launch, gM Y l yX2_failToAsk cX2_failToAsk 3 none (2, 42) [.ref (Y.2.1 (32 + i)), .int (y), .int (t)] G (qv (fun G' => G' = sW G (32 + i) (mFail y t (G.1 (32 + i))))) := by
  intro l
  refine gM_of hY rfl (Nat.le_of_ble_eq_true rfl) [some (.ref (Y.2.1 (32 + i))), some (.int (y)), some (.int (t))] rfl rfl ?_
  rintro Z rfl C
  refine r_aload0 (pc := 0) C dX2_failToAsk_0 ?_
  refine r_dup (pc := 1) C dX2_failToAsk_1 rfl ?_
  refine gX2_31 (pc := 2) C (by omega) dX2_failToAsk_2 ?_
  refine r_iconst (pc := 5) (v := nI 1) C dX2_failToAsk_5 (by decide) ?_
  refine r_iadd (pc := 6) C dX2_failToAsk_6 ?_
  refine pX2_31 (pc := 7) C (by omega) dX2_failToAsk_7 ?_
  refine r_aload0 (pc := 10) C dX2_failToAsk_10 ?_
  refine gX2_31 (pc := 11) C (by omega) dX2_failToAsk_11 ?_
  refine r_iconst (pc := 14) (v := nI 5) C dX2_failToAsk_14 (by decide) ?_
  refine r_icmp_lt (pc := 15) 26 C dX2_failToAsk_15 (by decide) (fun c15 => ?_) (fun c15 => ?_)
  · refine r_aload0 (pc := 26) C dX2_failToAsk_26 ?_
    refine r_iload2 (pc := 27) C dX2_failToAsk_27 ?_
    refine r_iconst (pc := 28) (v := nI 1) C dX2_failToAsk_28 (by decide) ?_
    refine r_aload0 (pc := 29) C dX2_failToAsk_29 ?_
    refine gX2_31 (pc := 30) C (by omega) dX2_failToAsk_30 ?_
    refine r_ishl (pc := 33) C dX2_failToAsk_33 ?_
    refine r_iadd (pc := 34) C dX2_failToAsk_34 ?_
    refine pX2_28 (pc := 35) C (by omega) dX2_failToAsk_35 ?_
    exact r_return (pc := 38) C dX2_failToAsk_38 (by simp only [sI0, sW_s, sW_W, upd_s] at c15; first | simp only [sI0, sW_s, sW_W, upd_s, mFail, if_neg c15] | simp only [sI0, sW_s, sW_W, upd_s, mFail, if_pos c15])
  · refine r_aload0 (pc := 18) C dX2_failToAsk_18 ?_
    refine r_iload1 (pc := 19) C dX2_failToAsk_19 ?_
    refine r_callVv (pc := 20) C rfl dX2_failToAsk_20 kX2_34 gF2 (jCm (by omega)) (tX2_enterRescue Z.1 C.w hi) rfl rfl (Nat.le_of_ble_eq_true rfl) (by decide) (fun G20 h20 => ?_)
    subst h20
    refine r_goto (pc := 23) 38 C dX2_failToAsk_23 (by decide) ?_
    exact r_return (pc := 38) C dX2_failToAsk_38 (by simp only [sI0, sW_s, sW_W, upd_s] at c15; first | simp only [sI0, sW_s, sW_W, upd_s, mFail, if_neg c15] | simp only [sI0, sW_s, sW_W, upd_s, mFail, if_pos c15])
set_option maxHeartbeats 4000000 in
set_option maxRecDepth 100000 in
theorem tX2_fetch (Y : gY) (hY : Y.2.2.2 = wC) {G : gS} {i : Nat} (hi : i < 8) {a b c : Int32} : ∀ l : Launch, gM Y l yX2_fetch cX2_fetch 4 none (1, 21) [.ref (Y.2.1 (32 + i)), .int (a), .int (b), .int (c)] G (qv (fun G' => G' = sW G (32 + i) (mFetch a b c (G.1 (32 + i))))) := by
  intro l
  refine gM_of hY rfl (Nat.le_of_ble_eq_true rfl) [some (.ref (Y.2.1 (32 + i))), some (.int (a)), some (.int (b)), some (.int (c))] rfl rfl ?_
  rintro Z rfl C
  refine r_aload0 (pc := 0) C dX2_fetch_0 ?_
  refine r_iconst (pc := 1) (v := nI 2) C dX2_fetch_1 (by decide) ?_
  refine r_callVv (pc := 2) C rfl dX2_fetch_2 kX2_21 gF2 (jCm (by omega)) (tX2_enter Z.1 C.w hi) rfl rfl (Nat.le_of_ble_eq_true rfl) (by decide) (fun G2 h2 => ?_)
  subst h2
  refine r_aload0 (pc := 5) C dX2_fetch_5 ?_
  refine r_iload1 (pc := 6) C dX2_fetch_6 ?_
  refine pX2_37 (pc := 7) C (by omega) dX2_fetch_7 ?_
  refine r_aload0 (pc := 10) C dX2_fetch_10 ?_
  refine r_iconst (pc := 11) (v := nI 0) C dX2_fetch_11 (by decide) ?_
  refine pX2_40 (pc := 12) C (by omega) dX2_fetch_12 ?_
  refine r_aload0 (pc := 15) C dX2_fetch_15 ?_
  refine r_iload2 (pc := 16) C dX2_fetch_16 ?_
  refine pX2_43 (pc := 17) C (by omega) dX2_fetch_17 ?_
  refine r_aload0 (pc := 20) C dX2_fetch_20 ?_
  refine r_iload3 (pc := 21) C dX2_fetch_21 ?_
  refine pX2_46 (pc := 22) C (by omega) dX2_fetch_22 ?_
  exact r_return (pc := 25) C dX2_fetch_25 (by simp only [sI0, sW_s, sW_W, upd_s, mFetch])
set_option maxHeartbeats 4000000 in
set_option maxRecDepth 100000 in
theorem tX2_getNone (Y : gY) (hY : Y.2.2.2 = wC) {G : gS} {i : Nat} (hi : i < 8) : ∀ l : Launch, gM Y l yX2_getNone cX2_getNone 1 none (2, 42) [.ref (Y.2.1 (32 + i))] G (qv (fun G' => G' = sW G (32 + i) (mNone (G.1 (32 + i))))) := by
  intro l
  refine gM_of hY rfl (Nat.le_of_ble_eq_true rfl) [some (.ref (Y.2.1 (32 + i)))] rfl rfl ?_
  rintro Z rfl C
  refine r_aload0 (pc := 0) C dX2_getNone_0 ?_
  refine r_dup (pc := 1) C dX2_getNone_1 rfl ?_
  refine gX2_49 (pc := 2) C (by omega) dX2_getNone_2 ?_
  refine r_iconst (pc := 5) (v := nI 1) C dX2_getNone_5 (by decide) ?_
  refine r_iadd (pc := 6) C dX2_getNone_6 ?_
  refine pX2_49 (pc := 7) C (by omega) dX2_getNone_7 ?_
  refine r_aload0 (pc := 10) C dX2_getNone_10 ?_
  refine gX2_49 (pc := 11) C (by omega) dX2_getNone_11 ?_
  refine r_bipush (pc := 14) (v := nI 12) C dX2_getNone_14 (by decide) ?_
  refine r_icmp_lt (pc := 16) 24 C dX2_getNone_16 (by decide) (fun c16 => ?_) (fun c16 => ?_)
  · exact r_return (pc := 24) C dX2_getNone_24 (by simp only [sI0, sW_s, sW_W, upd_s] at c16; first | simp only [sI0, sW_s, sW_W, upd_s, mNone, if_neg c16] | simp only [sI0, sW_s, sW_W, upd_s, mNone, if_pos c16])
  · refine r_aload0 (pc := 19) C dX2_getNone_19 ?_
    refine r_iconst (pc := 20) (v := nI 4) C dX2_getNone_20 (by decide) ?_
    refine r_callVv (pc := 21) C rfl dX2_getNone_21 kX2_34 gF2 (jCm (by omega)) (tX2_enterRescue Z.1 C.w hi) rfl rfl (Nat.le_of_ble_eq_true rfl) (by decide) (fun G21 h21 => ?_)
    subst h21
    exact r_return (pc := 24) C dX2_getNone_24 (by simp only [sI0, sW_s, sW_W, upd_s] at c16; first | simp only [sI0, sW_s, sW_W, upd_s, mNone, if_neg c16] | simp only [sI0, sW_s, sW_W, upd_s, mNone, if_pos c16])
set_option maxHeartbeats 4000000 in
set_option maxRecDepth 100000 in
theorem tX2_getWrong (Y : gY) (hY : Y.2.2.2 = wC) {G : gS} {i : Nat} (hi : i < 8) : ∀ l : Launch, gM Y l yX2_getWrong cX2_getWrong 1 none (2, 42) [.ref (Y.2.1 (32 + i))] G (qv (fun G' => G' = sW G (32 + i) (mWrong (G.1 (32 + i))))) := by
  intro l
  refine gM_of hY rfl (Nat.le_of_ble_eq_true rfl) [some (.ref (Y.2.1 (32 + i)))] rfl rfl ?_
  rintro Z rfl C
  refine r_aload0 (pc := 0) C dX2_getWrong_0 ?_
  refine r_dup (pc := 1) C dX2_getWrong_1 rfl ?_
  refine gX2_52 (pc := 2) C (by omega) dX2_getWrong_2 ?_
  refine r_iconst (pc := 5) (v := nI 1) C dX2_getWrong_5 (by decide) ?_
  refine r_iadd (pc := 6) C dX2_getWrong_6 ?_
  refine pX2_52 (pc := 7) C (by omega) dX2_getWrong_7 ?_
  refine r_aload0 (pc := 10) C dX2_getWrong_10 ?_
  refine gX2_52 (pc := 11) C (by omega) dX2_getWrong_11 ?_
  refine r_iconst (pc := 14) (v := nI 4) C dX2_getWrong_14 (by decide) ?_
  refine r_icmp_lt (pc := 15) 23 C dX2_getWrong_15 (by decide) (fun c15 => ?_) (fun c15 => ?_)
  · exact r_return (pc := 23) C dX2_getWrong_23 (by simp only [sI0, sW_s, sW_W, upd_s] at c15; first | simp only [sI0, sW_s, sW_W, upd_s, mWrong, if_neg c15] | simp only [sI0, sW_s, sW_W, upd_s, mWrong, if_pos c15])
  · refine r_aload0 (pc := 18) C dX2_getWrong_18 ?_
    refine r_iconst (pc := 19) (v := nI 3) C dX2_getWrong_19 (by decide) ?_
    refine r_callVv (pc := 20) C rfl dX2_getWrong_20 kX2_34 gF2 (jCm (by omega)) (tX2_enterRescue Z.1 C.w hi) rfl rfl (Nat.le_of_ble_eq_true rfl) (by decide) (fun G20 h20 => ?_)
    subst h20
    exact r_return (pc := 23) C dX2_getWrong_23 (by simp only [sI0, sW_s, sW_W, upd_s] at c15; first | simp only [sI0, sW_s, sW_W, upd_s, mWrong, if_neg c15] | simp only [sI0, sW_s, sW_W, upd_s, mWrong, if_pos c15])
set_option maxHeartbeats 4000000 in
set_option maxRecDepth 100000 in
theorem tX2_install (Y : gY) (hY : Y.2.2.2 = wC) {G : gS} {i : Nat} (hi : i < 8) {t : Int32} : ∀ l : Launch, gM Y l yX2_install cX2_install 2 none (0, 0) [.ref (Y.2.1 (32 + i)), .int (t)] G (qv (fun G' => G' = sW G (32 + i) (mInst t (G.1 (32 + i))))) := by
  intro l
  refine gM_of hY rfl (Nat.le_of_ble_eq_true rfl) [some (.ref (Y.2.1 (32 + i))), some (.int (t))] rfl rfl ?_
  rintro Z rfl C
  refine r_aload0 (pc := 0) C dX2_install_0 ?_
  refine r_iconst (pc := 1) (v := nI 3) C dX2_install_1 (by decide) ?_
  refine pX2_55 (pc := 2) C (by omega) dX2_install_2 ?_
  refine r_aload0 (pc := 5) C dX2_install_5 ?_
  refine r_iconst (pc := 6) (v := nI 0) C dX2_install_6 (by decide) ?_
  refine pX2_40 (pc := 7) C (by omega) dX2_install_7 ?_
  refine r_aload0 (pc := 10) C dX2_install_10 ?_
  refine r_iload1 (pc := 11) C dX2_install_11 ?_
  refine pX2_46 (pc := 12) C (by omega) dX2_install_12 ?_
  exact r_return (pc := 15) C dX2_install_15 (by simp only [sI0, sW_s, sW_W, upd_s, mInst])
set_option maxHeartbeats 4000000 in
set_option maxRecDepth 100000 in
theorem tX2_write (Y : gY) (hY : Y.2.2.2 = wC) {G : gS} {i : Nat} (hi : i < 8) {n : Int32} : ∀ l : Launch, gM Y l yX2_write cX2_write 2 none (1, 21) [.ref (Y.2.1 (32 + i)), .int (n)] G (qv (fun G' => G' = sW G (32 + i) (mWrite n (G.1 (32 + i))))) := by
  intro l
  refine gM_of hY rfl (Nat.le_of_ble_eq_true rfl) [some (.ref (Y.2.1 (32 + i))), some (.int (n))] rfl rfl ?_
  rintro Z rfl C
  refine r_aload0 (pc := 0) C dX2_write_0 ?_
  refine gX2_40 (pc := 1) C (by omega) dX2_write_1 ?_
  refine r_iload1 (pc := 4) C dX2_write_4 ?_
  refine r_icmp_ge (pc := 5) 21 C dX2_write_5 (by decide) (fun c5 => ?_) (fun c5 => ?_)
  · refine r_aload0 (pc := 21) C dX2_write_21 ?_
    refine r_aload0 (pc := 22) C dX2_write_22 ?_
    refine gX2_37 (pc := 23) C (by omega) dX2_write_23 ?_
    refine pX2_15 (pc := 26) C (by omega) dX2_write_26 ?_
    refine r_aload0 (pc := 29) C dX2_write_29 ?_
    refine r_iconst (pc := 30) (v := nI 4) C dX2_write_30 (by decide) ?_
    refine r_callVv (pc := 31) C rfl dX2_write_31 kX2_21 gF2 (jCm (by omega)) (tX2_enter Z.1 C.w hi) rfl rfl (Nat.le_of_ble_eq_true rfl) (by decide) (fun G31 h31 => ?_)
    subst h31
    exact r_return (pc := 34) C dX2_write_34 (by first | simp only [sI0, sW_s, sW_W, upd_s, mWrite, if_neg c5] | simp only [sI0, sW_s, sW_W, upd_s, mWrite, if_pos c5])
  · refine r_aload0 (pc := 8) C dX2_write_8 ?_
    refine r_dup (pc := 9) C dX2_write_9 rfl ?_
    refine gX2_40 (pc := 10) C (by omega) dX2_write_10 ?_
    refine r_iconst (pc := 13) (v := nI 1) C dX2_write_13 (by decide) ?_
    refine r_iadd (pc := 14) C dX2_write_14 ?_
    refine pX2_40 (pc := 15) C (by omega) dX2_write_15 ?_
    refine r_goto (pc := 18) 34 C dX2_write_18 (by decide) ?_
    exact r_return (pc := 34) C dX2_write_34 (by first | simp only [sI0, sW_s, sW_W, upd_s, mWrite, if_neg c5] | simp only [sI0, sW_s, sW_W, upd_s, mWrite, if_pos c5])
set_option maxHeartbeats 4000000 in
set_option maxRecDepth 100000 in
theorem tX2_isSettled (Y : gY) (hY : Y.2.2.2 = wC) {G : gS} {i : Nat} (hi : i < 8) : ∀ l : Launch, gM Y l yX2_isSettled cX2_isSettled 1 (some .boolean) (0, 0) [.ref (Y.2.1 (32 + i))] G (qi (fun r G' => r = bI (mDone (G.1 (32 + i))) ∧ G' = G)) := by
  intro l
  refine gM_of hY rfl (Nat.le_of_ble_eq_true rfl) [some (.ref (Y.2.1 (32 + i)))] rfl rfl ?_
  rintro Z rfl C
  refine r_aload0 (pc := 0) C dX2_isSettled_0 ?_
  refine gX2_55 (pc := 1) C (by omega) dX2_isSettled_1 ?_
  refine r_iconst (pc := 4) (v := nI 4) C dX2_isSettled_4 (by decide) ?_
  refine r_icmp_eq (pc := 5) 16 C dX2_isSettled_5 (by decide) (fun c5 => ?_) (fun c5 => ?_)
  · refine r_iconst (pc := 16) (v := nI 1) C dX2_isSettled_16 (by decide) ?_
    refine r_goto (pc := 17) 21 C dX2_isSettled_17 (by decide) ?_
    exact r_zreturn (pc := 21) C dX2_isSettled_21 (rfl) (by refine ⟨?_, rfl⟩; simp [mDone, *, bI])
  · refine r_aload0 (pc := 8) C dX2_isSettled_8 ?_
    refine gX2_55 (pc := 9) C (by omega) dX2_isSettled_9 ?_
    refine r_iconst (pc := 12) (v := nI 5) C dX2_isSettled_12 (by decide) ?_
    refine r_icmp_ne (pc := 13) 20 C dX2_isSettled_13 (by decide) (fun c13 => ?_) (fun c13 => ?_)
    · refine r_iconst (pc := 20) (v := nI 0) C dX2_isSettled_20 (by decide) ?_
      exact r_zreturn (pc := 21) C dX2_isSettled_21 (rfl) (by refine ⟨?_, rfl⟩; simp [mDone, *, bI])
    · refine r_iconst (pc := 16) (v := nI 1) C dX2_isSettled_16 (by decide) ?_
      refine r_goto (pc := 17) 21 C dX2_isSettled_17 (by decide) ?_
      exact r_zreturn (pc := 21) C dX2_isSettled_21 (rfl) (by refine ⟨?_, rfl⟩; simp [mDone, *, bI])
set_option maxHeartbeats 4000000 in
set_option maxRecDepth 100000 in
theorem tX2_snapshot (Y : gY) (hY : Y.2.2.2 = wC) {G : gS} {i : Nat} (hi : i < 8) : ∀ l : Launch, gM Y l yX2_snapshot cX2_snapshot 5 (some .long) (0, 0) [.ref (Y.2.1 (32 + i))] G (ql (fun r G' => r = mSnap (G.1 (32 + i)) ∧ G' = G)) := by
  intro l
  refine gM_of hY rfl (Nat.le_of_ble_eq_true rfl) [some (.ref (Y.2.1 (32 + i))), none, none, none, none] rfl rfl ?_
  rintro Z rfl C
  refine r_aload0 (pc := 0) C dX2_snapshot_0 ?_
  refine gX2_55 (pc := 1) C (by omega) dX2_snapshot_1 ?_
  refine r_iconst (pc := 4) (v := nI 1) C dX2_snapshot_4 (by decide) ?_
  refine r_iadd (pc := 5) C dX2_snapshot_5 ?_
  refine r_aload0 (pc := 6) C dX2_snapshot_6 ?_
  refine gX2_37 (pc := 7) C (by omega) dX2_snapshot_7 ?_
  refine r_iconst (pc := 10) (v := nI 1) C dX2_snapshot_10 (by decide) ?_
  refine r_iadd (pc := 11) C dX2_snapshot_11 ?_
  refine r_iconst (pc := 12) (v := nI 4) C dX2_snapshot_12 (by decide) ?_
  refine r_ishl (pc := 13) C dX2_snapshot_13 ?_
  refine r_ior (pc := 14) C dX2_snapshot_14 ?_
  refine r_aload0 (pc := 15) C dX2_snapshot_15 ?_
  refine gX2_40 (pc := 16) C (by omega) dX2_snapshot_16 ?_
  refine r_iconst (pc := 19) (v := nI 1) C dX2_snapshot_19 (by decide) ?_
  refine r_iadd (pc := 20) C dX2_snapshot_20 ?_
  refine r_bipush (pc := 21) (v := nI 8) C dX2_snapshot_21 (by decide) ?_
  refine r_ishl (pc := 23) C dX2_snapshot_23 ?_
  refine r_ior (pc := 24) C dX2_snapshot_24 ?_
  refine r_aload0 (pc := 25) C dX2_snapshot_25 ?_
  refine gX2_15 (pc := 26) C (by omega) dX2_snapshot_26 ?_
  refine r_iconst (pc := 29) (v := nI 1) C dX2_snapshot_29 (by decide) ?_
  refine r_iadd (pc := 30) C dX2_snapshot_30 ?_
  refine r_bipush (pc := 31) (v := nI 12) C dX2_snapshot_31 (by decide) ?_
  refine r_ishl (pc := 33) C dX2_snapshot_33 ?_
  refine r_ior (pc := 34) C dX2_snapshot_34 ?_
  refine r_aload0 (pc := 35) C dX2_snapshot_35 ?_
  refine gX2_58 (pc := 36) C (by omega) dX2_snapshot_36 ?_
  refine r_iconst (pc := 39) (v := nI 1) C dX2_snapshot_39 (by decide) ?_
  refine r_iadd (pc := 40) C dX2_snapshot_40 ?_
  refine r_bipush (pc := 41) (v := nI 16) C dX2_snapshot_41 (by decide) ?_
  refine r_ishl (pc := 43) C dX2_snapshot_43 ?_
  refine r_ior (pc := 44) C dX2_snapshot_44 ?_
  refine r_aload0 (pc := 45) C dX2_snapshot_45 ?_
  refine gX2_31 (pc := 46) C (by omega) dX2_snapshot_46 ?_
  refine r_iconst (pc := 49) (v := nI 1) C dX2_snapshot_49 (by decide) ?_
  refine r_iadd (pc := 50) C dX2_snapshot_50 ?_
  refine r_bipush (pc := 51) (v := nI 20) C dX2_snapshot_51 (by decide) ?_
  refine r_ishl (pc := 53) C dX2_snapshot_53 ?_
  refine r_ior (pc := 54) C dX2_snapshot_54 ?_
  refine r_aload0 (pc := 55) C dX2_snapshot_55 ?_
  refine gX2_52 (pc := 56) C (by omega) dX2_snapshot_56 ?_
  refine r_iconst (pc := 59) (v := nI 1) C dX2_snapshot_59 (by decide) ?_
  refine r_iadd (pc := 60) C dX2_snapshot_60 ?_
  refine r_bipush (pc := 61) (v := nI 24) C dX2_snapshot_61 (by decide) ?_
  refine r_ishl (pc := 63) C dX2_snapshot_63 ?_
  refine r_ior (pc := 64) C dX2_snapshot_64 ?_
  refine r_i2l (pc := 65) C dX2_snapshot_65 ?_
  refine r_lstore1 (pc := 66) C dX2_snapshot_66 rfl ?_
  refine r_aload0 (pc := 67) C dX2_snapshot_67 ?_
  refine gX2_49 (pc := 68) C (by omega) dX2_snapshot_68 ?_
  refine r_iconst (pc := 71) (v := nI 1) C dX2_snapshot_71 (by decide) ?_
  refine r_iadd (pc := 72) C dX2_snapshot_72 ?_
  refine r_aload0 (pc := 73) C dX2_snapshot_73 ?_
  refine gX2_9 (pc := 74) C (by omega) dX2_snapshot_74 ?_
  refine r_iconst (pc := 77) (v := nI 1) C dX2_snapshot_77 (by decide) ?_
  refine r_iadd (pc := 78) C dX2_snapshot_78 ?_
  refine r_iconst (pc := 79) (v := nI 4) C dX2_snapshot_79 (by decide) ?_
  refine r_ishl (pc := 80) C dX2_snapshot_80 ?_
  refine r_ior (pc := 81) C dX2_snapshot_81 ?_
  refine r_aload0 (pc := 82) C dX2_snapshot_82 ?_
  refine gX2_43 (pc := 83) C (by omega) dX2_snapshot_83 ?_
  refine r_iconst (pc := 86) (v := nI 1) C dX2_snapshot_86 (by decide) ?_
  refine r_iadd (pc := 87) C dX2_snapshot_87 ?_
  refine r_bipush (pc := 88) (v := nI 12) C dX2_snapshot_88 (by decide) ?_
  refine r_ishl (pc := 90) C dX2_snapshot_90 ?_
  refine r_ior (pc := 91) C dX2_snapshot_91 ?_
  refine r_i2l (pc := 92) C dX2_snapshot_92 ?_
  refine r_lstore3 (pc := 93) C dX2_snapshot_93 rfl ?_
  refine r_lload3 (pc := 94) C dX2_snapshot_94 ?_
  refine r_bipush (pc := 95) (v := nI 28) C dX2_snapshot_95 (by decide) ?_
  refine r_lshl (pc := 97) C dX2_snapshot_97 ?_
  refine r_lload1 (pc := 98) C dX2_snapshot_98 ?_
  refine r_lor (pc := 99) C dX2_snapshot_99 ?_
  exact r_lreturn (pc := 100) C dX2_snapshot_100 (⟨rfl, rfl⟩)
