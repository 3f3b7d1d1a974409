def belB (x b : Int32) : Bool := decide (¬ x < 0 ∧ ¬ b ≤ x)
theorem belB_t {x : Int32} {b : Nat} (h : belB x (nI b) = true) (hb : b < 2 ^ 31) : ∃ j, j < b ∧ x = nI j := by
  obtain ⟨h1, h2⟩ := of_decide_eq_true h
  obtain ⟨j, hj, rfl⟩ := nI_of h1
  refine ⟨j, ?_, rfl⟩
  rcases Nat.lt_or_ge j b with g | g
  · exact g
  · exact absurd (nI_le g hj) h2
theorem belB_n {j b : Nat} (h : j < b) (hb : b < 2 ^ 31) : belB (nI j) (nI b) = true := decide_eq_true ⟨nI_pos (by omega), nI_ge h hb⟩
set_option maxHeartbeats 4000000 in
set_option maxRecDepth 100000 in
theorem tX8_place (Y : gY) (hY : Y.2.2.2 = wC) {G : gS} : ∀ l : Launch, gM Y l yX8_place cX8_place 1 (some .int) (0, 0) [.ref (Y.2.1 (0))] G (qi (fun r G' => r = G.1 3 8 ∧ G' = G)) := by
  intro l
  refine gM_of hY rfl (Nat.le_of_ble_eq_true rfl) [some (.ref (Y.2.1 (0)))] rfl rfl ?_
  rintro Z rfl C
  refine r_aload0 (pc := 0) C dX8_place_0 ?_
  refine gX8_24 (pc := 1) C dX8_place_1 ?_
  refine gX8_69 (pc := 4) C dX8_place_4 ?_
  exact r_ireturn (pc := 7) C dX8_place_7 (⟨rfl, rfl⟩)
set_option maxHeartbeats 4000000 in
set_option maxRecDepth 100000 in
theorem tX8_back (Y : gY) (hY : Y.2.2.2 = wC) {G : gS} {x : Int32} : ∀ l : Launch, gM Y l yX8_back cX8_back 2 (some .int) (0, 0) [.ref (Y.2.1 (0)), .int (x)] G (qi (fun r G' => if ¬ x < 0 ∧ ¬ G.1 1 1 < x then (r = G.1 1 1 - x ∧ G' = sI G 1 1 (G.1 1 1 - x)) else (r = -1 ∧ G' = G))) := by
  intro l
  refine gM_of hY rfl (Nat.le_of_ble_eq_true rfl) [some (.ref (Y.2.1 (0))), some (.int (x))] rfl rfl ?_
  rintro Z rfl C
  refine r_iload1 (pc := 0) C dX8_back_0 ?_
  refine r_if_lt (pc := 1) 15 C dX8_back_1 (by decide) (fun c1 => ?_) (fun c1 => ?_)
  · refine r_iconst (pc := 15) (v := (-1)) C dX8_back_15 (by decide) ?_
    exact r_ireturn (pc := 16) C dX8_back_16 (by rw [if_neg (fun h => h.1 c1)]; exact ⟨rfl, rfl⟩)
  · refine r_iload1 (pc := 4) C dX8_back_4 ?_
    refine r_aload0 (pc := 5) C dX8_back_5 ?_
    refine gX8_13 (pc := 6) C dX8_back_6 ?_
    refine gX8_45 (pc := 9) C dX8_back_9 ?_
    refine r_icmp_le (pc := 12) 17 C dX8_back_12 (by decide) (fun c12 => ?_) (fun c12 => ?_)
    · refine r_aload0 (pc := 17) C dX8_back_17 ?_
      refine gX8_13 (pc := 18) C dX8_back_18 ?_
      refine r_dup (pc := 21) C dX8_back_21 rfl ?_
      refine gX8_45 (pc := 22) C dX8_back_22 ?_
      refine r_iload1 (pc := 25) C dX8_back_25 ?_
      refine r_isub (pc := 26) C dX8_back_26 ?_
      refine pX8_45 (pc := 27) C dX8_back_27 ?_
      refine r_aload0 (pc := 30) C dX8_back_30 ?_
      refine gX8_13 (pc := 31) C dX8_back_31 ?_
      refine gX8_45 (pc := 34) C dX8_back_34 ?_
      exact r_ireturn (pc := 37) C dX8_back_37 (by rw [if_pos ⟨c1, Int32.not_lt.mpr c12⟩]; exact ⟨rfl, rfl⟩)
    · refine r_iconst (pc := 15) (v := (-1)) C dX8_back_15 (by decide) ?_
      exact r_ireturn (pc := 16) C dX8_back_16 (by rw [if_neg (fun h => c12 (Int32.not_lt.mp h.2))]; exact ⟨rfl, rfl⟩)
/-- 20 bytes more -/
def fdG (G : gS) (n : Nat) (a b c d e : Int32) : gS := ap e (n + 16) (ap d (n + 12) (ap c (n + 8) (ap b (n + 4) (ap a n G 4) 4) 4) 4) 4
set_option maxHeartbeats 4000000 in
set_option maxRecDepth 100000 in
theorem tX8_feed (Y : gY) (hY : Y.2.2.2 = wC) {G : gS} {n : Nat} {a b c d e : Int32} (hl : G.1 1 1 = nI n) (hn : n ≤ 2000) : ∀ l : Launch, gM Y l yX8_feed cX8_feed 6 (some .int) (1, 22) [.ref (Y.2.1 (0)), .int (a), .int (b), .int (c), .int (d), .int (e)] G (qi (fun r G' => if n + 20 ≤ 2000 then (r = nI (n + 16 + 4) ∧ G' = fdG G n a b c d e) else (r = -1 ∧ G' = G))) := by
  intro l
  refine gM_of hY rfl (Nat.le_of_ble_eq_true rfl) [some (.ref (Y.2.1 (0))), some (.int (a)), some (.int (b)), some (.int (c)), some (.int (d)), some (.int (e))] rfl rfl ?_
  rintro Z rfl C
  refine r_aload0 (pc := 0) C dX8_feed_0 ?_
  refine gX8_13 (pc := 1) C dX8_feed_1 ?_
  refine gX8_45 (pc := 4) C dX8_feed_4 ?_
  refine r_eqi hl ?_
  refine r_bipush (pc := 7) (v := nI 20) C dX8_feed_7 (by decide) ?_
  refine r_iadd (pc := 9) C dX8_feed_9 ?_
  refine r_eqi (nI_add n 20) ?_
  refine r_sipush (pc := 10) (v := nI 2000) C dX8_feed_10 (by decide) ?_
  refine r_icmp_le (pc := 13) 18 C dX8_feed_13 (by decide) (fun c13 => ?_) (fun c13 => ?_)
  · have d13 : n + 20 ≤ 2000 := (nI_leI (by omega) (by decide)).mp c13
    refine r_aload0 (pc := 18) C dX8_feed_18 ?_
    refine gX8_13 (pc := 19) C dX8_feed_19 ?_
    refine r_iload1 (pc := 22) C dX8_feed_22 ?_
    refine r_callVv (pc := 23) C rfl dX8_feed_23 kX8_49 gF7 jC1 (tX7_append Z.1 C.w (n := n) hl (by omega)) rfl rfl (Nat.le_of_ble_eq_true rfl) (by decide) (fun G23 h23 => ?_)
    subst h23
    refine r_aload0 (pc := 26) C dX8_feed_26 ?_
    refine gX8_13 (pc := 27) C dX8_feed_27 ?_
    refine r_iload2 (pc := 30) C dX8_feed_30 ?_
    refine r_callVv (pc := 31) C rfl dX8_feed_31 kX8_49 gF7 jC1 (tX7_append Z.1 C.w (n := n + 4) (ap_len) (by omega)) rfl rfl (Nat.le_of_ble_eq_true rfl) (by decide) (fun G31 h31 => ?_)
    subst h31
    refine r_aload0 (pc := 34) C dX8_feed_34 ?_
    refine gX8_13 (pc := 35) C dX8_feed_35 ?_
    refine r_iload3 (pc := 38) C dX8_feed_38 ?_
    refine r_callVv (pc := 39) C rfl dX8_feed_39 kX8_49 gF7 jC1 (tX7_append Z.1 C.w (n := n + 8) (ap_len) (by omega)) rfl rfl (Nat.le_of_ble_eq_true rfl) (by decide) (fun G39 h39 => ?_)
    subst h39
    refine r_aload0 (pc := 42) C dX8_feed_42 ?_
    refine gX8_13 (pc := 43) C dX8_feed_43 ?_
    refine r_iload4 (pc := 46) C dX8_feed_46 ?_
    refine r_callVv (pc := 48) C rfl dX8_feed_48 kX8_49 gF7 jC1 (tX7_append Z.1 C.w (n := n + 12) (ap_len) (by omega)) rfl rfl (Nat.le_of_ble_eq_true rfl) (by decide) (fun G48 h48 => ?_)
    subst h48
    refine r_aload0 (pc := 51) C dX8_feed_51 ?_
    refine gX8_13 (pc := 52) C dX8_feed_52 ?_
    refine r_iload5 (pc := 55) C dX8_feed_55 ?_
    refine r_callVv (pc := 57) C rfl dX8_feed_57 kX8_49 gF7 jC1 (tX7_append Z.1 C.w (n := n + 16) (ap_len) (by omega)) rfl rfl (Nat.le_of_ble_eq_true rfl) (by decide) (fun G57 h57 => ?_)
    subst h57
    refine r_aload0 (pc := 60) C dX8_feed_60 ?_
    refine gX8_13 (pc := 61) C dX8_feed_61 ?_
    refine gX8_45 (pc := 64) C dX8_feed_64 ?_
    refine r_eqi ap_len ?_
    exact r_ireturn (pc := 67) C dX8_feed_67 (by rw [if_pos d13]; exact ⟨rfl, rfl⟩)
  · have d13 : ¬ n + 20 ≤ 2000 := fun h => c13 (nI_le h (by decide))
    refine r_iconst (pc := 16) (v := (-1)) C dX8_feed_16 (by decide) ?_
    exact r_ireturn (pc := 17) C dX8_feed_17 (by rw [if_neg d13]; exact ⟨rfl, rfl⟩)
set_option maxHeartbeats 4000000 in
set_option maxRecDepth 100000 in
theorem tX8_width (Y : gY) (hY : Y.2.2.2 = wC) {G : gS} {x : Int32} : ∀ l : Launch, gM Y l yX8_width cX8_width 2 (some .boolean) (0, 0) [.ref (Y.2.1 (0)), .int (x)] G (qi (fun r G' => if ¬ x < nI 1 ∧ ¬ nI 8 < x then (r = nI 1 ∧ G' = sI (sI G 6 5 x) 0 4 (nI 1)) else (r = nI 0 ∧ G' = G))) := by
  intro l
  refine gM_of hY rfl (Nat.le_of_ble_eq_true rfl) [some (.ref (Y.2.1 (0))), some (.int (x))] rfl rfl ?_
  rintro Z rfl C
  refine r_iload1 (pc := 0) C dX8_width_0 ?_
  refine r_iconst (pc := 1) (v := nI 1) C dX8_width_1 (by decide) ?_
  refine r_icmp_lt (pc := 2) 11 C dX8_width_2 (by decide) (fun c2 => ?_) (fun c2 => ?_)
  · refine r_iconst (pc := 11) (v := nI 0) C dX8_width_11 (by decide) ?_
    exact r_zreturn (pc := 12) C dX8_width_12 (rfl) (by rw [if_neg (fun h => h.1 c2)]; exact ⟨rfl, rfl⟩)
  · refine r_iload1 (pc := 5) C dX8_width_5 ?_
    refine r_bipush (pc := 6) (v := nI 8) C dX8_width_6 (by decide) ?_
    refine r_icmp_le (pc := 8) 13 C dX8_width_8 (by decide) (fun c8 => ?_) (fun c8 => ?_)
    · refine r_aload0 (pc := 13) C dX8_width_13 ?_
      refine gX8_28 (pc := 14) C dX8_width_14 ?_
      refine r_iload1 (pc := 17) C dX8_width_17 ?_
      refine pX8_86 (pc := 18) C dX8_width_18 ?_
      refine r_aload0 (pc := 21) C dX8_width_21 ?_
      refine r_iconst (pc := 22) (v := nI 1) C dX8_width_22 (by decide) ?_
      refine pX8_41 (pc := 23) C dX8_width_23 rfl rfl ?_
      refine r_iconst (pc := 26) (v := nI 1) C dX8_width_26 (by decide) ?_
      exact r_zreturn (pc := 27) C dX8_width_27 (rfl) (by rw [if_pos ⟨c2, Int32.not_lt.mpr c8⟩]; exact ⟨rfl, rfl⟩)
    · refine r_iconst (pc := 11) (v := nI 0) C dX8_width_11 (by decide) ?_
      exact r_zreturn (pc := 12) C dX8_width_12 (rfl) (by rw [if_neg (fun h => c8 (Int32.not_lt.mp h.2))]; exact ⟨rfl, rfl⟩)
set_option maxHeartbeats 4000000 in
set_option maxRecDepth 100000 in
theorem tX8_wake (Y : gY) (hY : Y.2.2.2 = wC) {G : gS} {k t : Int32} : ∀ l : Launch, gM Y l yX8_wake cX8_wake 3 (some .boolean) (1, 21) [.ref (Y.2.1 (0)), .int (k), .int (t)] G (qi (fun r G' => if belB k (nI 4) = true ∧ belB t (nI 300) = true then (r = nI 1 ∧ G' = sI (sI G 10 (cN k) t) 0 4 (nI 1)) else (r = nI 0 ∧ G' = G))) := by
  intro l
  refine gM_of hY rfl (Nat.le_of_ble_eq_true rfl) [some (.ref (Y.2.1 (0))), some (.int (k)), some (.int (t))] rfl rfl ?_
  rintro Z rfl C
  refine r_iload1 (pc := 0) C dX8_wake_0 ?_
  refine r_iconst (pc := 1) (v := nI 4) C dX8_wake_1 (by decide) ?_
  refine r_callSi (pc := 2) C rfl dX8_wake_2 kX8_53 (tX8_isBelow Z.1 C.w) rfl rfl (Nat.le_of_ble_eq_true rfl) (by decide) (fun x2 G2 h2 => ?_)
  obtain ⟨rfl, h2b⟩ := h2
  have h2b := h2b.symm
  subst h2b
  refine r_if_eq (pc := 5) 18 C dX8_wake_5 (by decide) (fun c5 => ?_) (fun c5 => ?_)
  · refine r_iconst (pc := 18) (v := nI 0) C dX8_wake_18 (by decide) ?_
    exact r_zreturn (pc := 19) C dX8_wake_19 (rfl) (by rw [if_neg (fun h => by have k : belB _ _ = false := bI_z.mp c5; simp [k] at h)]; exact ⟨rfl, rfl⟩)
  · refine r_iload2 (pc := 8) C dX8_wake_8 ?_
    refine r_sipush (pc := 9) (v := nI 300) C dX8_wake_9 (by decide) ?_
    refine r_callSi (pc := 12) C rfl dX8_wake_12 kX8_53 (tX8_isBelow Z.1 C.w) rfl rfl (Nat.le_of_ble_eq_true rfl) (by decide) (fun x12 G12 h12 => ?_)
    obtain ⟨rfl, h12b⟩ := h12
    have h12b := h12b.symm
    subst h12b
    refine r_if_ne (pc := 15) 20 C dX8_wake_15 (by decide) (fun c15 => ?_) (fun c15 => ?_)
    · obtain ⟨j, hj, rfl⟩ := belB_t (bI_n.mp c5) (by decide)
      refine r_aload0 (pc := 20) C dX8_wake_20 ?_
      refine gX8_28 (pc := 21) C dX8_wake_21 ?_
      refine gX8_89 (pc := 24) C dX8_wake_24 ?_
      refine r_iload1 (pc := 27) C dX8_wake_27 ?_
      refine r_iload2 (pc := 28) C dX8_wake_28 ?_
      refine r_iast (pc := 29) (_) C dX8_wake_29 aC10 (rfl) (by omega) ?_
      refine r_aload0 (pc := 30) C dX8_wake_30 ?_
      refine r_iconst (pc := 31) (v := nI 1) C dX8_wake_31 (by decide) ?_
      refine pX8_41 (pc := 32) C dX8_wake_32 rfl rfl ?_
      refine r_iconst (pc := 35) (v := nI 1) C dX8_wake_35 (by decide) ?_
      exact r_zreturn (pc := 36) C dX8_wake_36 (rfl) (by rw [if_pos ⟨bI_n.mp c5, bI_n.mp c15⟩, cN_nI (by omega)]; exact ⟨rfl, rfl⟩)
    · refine r_iconst (pc := 18) (v := nI 0) C dX8_wake_18 (by decide) ?_
      exact r_zreturn (pc := 19) C dX8_wake_19 (rfl) (by rw [if_neg (fun h => by have k : belB _ _ = false := bI_z.mp c15; simp [k] at h)]; exact ⟨rfl, rfl⟩)
set_option maxHeartbeats 4000000 in
set_option maxRecDepth 100000 in
theorem tX8_wakes (Y : gY) (hY : Y.2.2.2 = wC) {G : gS} {k : Int32} : ∀ l : Launch, gM Y l yX8_wakes cX8_wakes 2 (some .int) (1, 21) [.ref (Y.2.1 (0)), .int (k)] G (qi (fun r G' => if belB k (nI 4) = true then (r = G.1 10 (cN k) ∧ G' = G) else (r = -1 ∧ G' = G))) := by
  intro l
  refine gM_of hY rfl (Nat.le_of_ble_eq_true rfl) [some (.ref (Y.2.1 (0))), some (.int (k))] rfl rfl ?_
  rintro Z rfl C
  refine r_iload1 (pc := 0) C dX8_wakes_0 ?_
  refine r_iconst (pc := 1) (v := nI 4) C dX8_wakes_1 (by decide) ?_
  refine r_callSi (pc := 2) C rfl dX8_wakes_2 kX8_53 (tX8_isBelow Z.1 C.w) rfl rfl (Nat.le_of_ble_eq_true rfl) (by decide) (fun x2 G2 h2 => ?_)
  obtain ⟨rfl, h2b⟩ := h2
  have h2b := h2b.symm
  subst h2b
  refine r_if_eq (pc := 5) 20 C dX8_wakes_5 (by decide) (fun c5 => ?_) (fun c5 => ?_)
  · refine r_iconst (pc := 20) (v := (-1)) C dX8_wakes_20 (by decide) ?_
    exact r_ireturn (pc := 21) C dX8_wakes_21 (by rw [if_neg (fun h => by rw [show belB _ _ = false from bI_z.mp c5] at h; cases h)]; exact ⟨rfl, rfl⟩)
  · obtain ⟨j, hj, rfl⟩ := belB_t (bI_n.mp c5) (by decide)
    refine r_aload0 (pc := 8) C dX8_wakes_8 ?_
    refine gX8_28 (pc := 9) C dX8_wakes_9 ?_
    refine gX8_89 (pc := 12) C dX8_wakes_12 ?_
    refine r_iload1 (pc := 15) C dX8_wakes_15 ?_
    refine r_iald (pc := 16) (_) C dX8_wakes_16 aC10 (rfl) (by omega) ?_
    refine r_goto (pc := 17) 21 C dX8_wakes_17 (by decide) ?_
    exact r_ireturn (pc := 21) C dX8_wakes_21 (by rw [if_pos (show belB (nI j) (nI 4) = true from bI_n.mp c5), cN_nI (by omega)]; exact ⟨rfl, rfl⟩)
set_option maxHeartbeats 4000000 in
set_option maxRecDepth 100000 in
theorem tX8_machine (Y : gY) (hY : Y.2.2.2 = wC) {G : gS} {mc : Nat} {k p q : Int32} (hmc : G.1 6 1 = nI mc) (hm8 : mc ≤ 8) : ∀ l : Launch, gM Y l yX8_machine cX8_machine 4 (some .int) (1, 24) [.ref (Y.2.1 (0)), .int (k), .int (p), .int (q)] G (qi (fun r G' => if mc < 8 ∧ belB k (nI 4) = true ∧ belB p (nI 8) = true ∧ belB q (nI 100) = true then (r = nI mc ∧ G' = sI (sI (sI (sI (sI G 0 4 (nI 1)) (32 + mc) 0 k) (32 + mc) 1 p) (32 + mc) 2 q) 6 1 (nI (mc + 1))) else (r = -1 ∧ G' = G))) := by
  intro l
  refine gM_of hY rfl (Nat.le_of_ble_eq_true rfl) [some (.ref (Y.2.1 (0))), some (.int (k)), some (.int (p)), some (.int (q))] rfl rfl ?_
  rintro Z rfl C
  refine r_aload0 (pc := 0) C dX8_machine_0 ?_
  refine gX8_28 (pc := 1) C dX8_machine_1 ?_
  refine gX8_72 (pc := 4) C dX8_machine_4 ?_
  refine r_eqi hmc ?_
  refine r_bipush (pc := 7) (v := nI 8) C dX8_machine_7 (by decide) ?_
  refine r_icmp_ge (pc := 9) 38 C dX8_machine_9 (by decide) (fun c9 => ?_) (fun c9 => ?_)
  · have d9 : 8 ≤ mc := (nI_leI (by decide) (by omega)).mp c9
    refine r_iconst (pc := 38) (v := (-1)) C dX8_machine_38 (by decide) ?_
    exact r_ireturn (pc := 39) C dX8_machine_39 (by rw [if_neg (fun h => absurd h.1 (by omega))]; exact ⟨rfl, rfl⟩)
  · have d9 : mc < 8 := by
      rcases Nat.lt_or_ge mc 8 with h | h
      · exact h
      · exact absurd (nI_le h (by omega)) c9
    refine r_iload1 (pc := 12) C dX8_machine_12 ?_
    refine r_iconst (pc := 13) (v := nI 4) C dX8_machine_13 (by decide) ?_
    refine r_callSi (pc := 14) C rfl dX8_machine_14 kX8_53 (tX8_isBelow Z.1 C.w) rfl rfl (Nat.le_of_ble_eq_true rfl) (by decide) (fun x14 G14 h14 => ?_)
    obtain ⟨rfl, h14b⟩ := h14
    have h14b := h14b.symm
    subst h14b
    refine r_if_eq (pc := 17) 38 C dX8_machine_17 (by decide) (fun c17 => ?_) (fun c17 => ?_)
    · refine r_iconst (pc := 38) (v := (-1)) C dX8_machine_38 (by decide) ?_
      exact r_ireturn (pc := 39) C dX8_machine_39 (by rw [if_neg (fun h => by have k : belB _ _ = false := bI_z.mp c17; simp [k] at h)]; exact ⟨rfl, rfl⟩)
    · refine r_iload2 (pc := 20) C dX8_machine_20 ?_
      refine r_bipush (pc := 21) (v := nI 8) C dX8_machine_21 (by decide) ?_
      refine r_callSi (pc := 23) C rfl dX8_machine_23 kX8_53 (tX8_isBelow Z.1 C.w) rfl rfl (Nat.le_of_ble_eq_true rfl) (by decide) (fun x23 G23 h23 => ?_)
      obtain ⟨rfl, h23b⟩ := h23
      have h23b := h23b.symm
      subst h23b
      refine r_if_eq (pc := 26) 38 C dX8_machine_26 (by decide) (fun c26 => ?_) (fun c26 => ?_)
      · refine r_iconst (pc := 38) (v := (-1)) C dX8_machine_38 (by decide) ?_
        exact r_ireturn (pc := 39) C dX8_machine_39 (by rw [if_neg (fun h => by have k : belB _ _ = false := bI_z.mp c26; simp [k] at h)]; exact ⟨rfl, rfl⟩)
      · refine r_iload3 (pc := 29) C dX8_machine_29 ?_
        refine r_bipush (pc := 30) (v := nI 100) C dX8_machine_30 (by decide) ?_
        refine r_callSi (pc := 32) C rfl dX8_machine_32 kX8_53 (tX8_isBelow Z.1 C.w) rfl rfl (Nat.le_of_ble_eq_true rfl) (by decide) (fun x32 G32 h32 => ?_)
        obtain ⟨rfl, h32b⟩ := h32
        have h32b := h32b.symm
        subst h32b
        refine r_if_ne (pc := 35) 40 C dX8_machine_35 (by decide) (fun c35 => ?_) (fun c35 => ?_)
        · refine r_aload0 (pc := 40) C dX8_machine_40 ?_
          refine r_iconst (pc := 41) (v := nI 1) C dX8_machine_41 (by decide) ?_
          refine pX8_41 (pc := 42) C dX8_machine_42 rfl rfl ?_
          refine r_aload0 (pc := 45) C dX8_machine_45 ?_
          refine gX8_28 (pc := 46) C dX8_machine_46 ?_
          refine r_iload1 (pc := 49) C dX8_machine_49 ?_
          refine r_iload2 (pc := 50) C dX8_machine_50 ?_
          refine r_iload3 (pc := 51) C dX8_machine_51 ?_
          refine r_callVi (pc := 52) C rfl dX8_machine_52 kX8_75 gF1 jC6 (tX1_addMachine Z.1 C.w (mc := mc) (by rw [sI_o (by decide)]; exact hmc) d9) rfl rfl (Nat.le_of_ble_eq_true rfl) (by decide) (fun x52 G52 h52 => ?_)
          exact r_ireturn (pc := 55) C dX8_machine_55 (by
  rw [if_pos ⟨d9, bI_n.mp c17, bI_n.mp c26, bI_n.mp c35⟩]
  obtain ⟨rfl, rfl⟩ := h52
  have e6 : (sI (sI (sI (sI G 0 4 (nI 1)) (32 + mc) 0 k) (32 + mc) 1 p) (32 + mc) 2 q).1 6 1 = nI mc := by rw [sI_o (by omega), sI_o (by omega), sI_o (by omega), sI_o (by decide)]; exact hmc
  rw [e6, nI_add]
  exact ⟨rfl, rfl⟩)
        · refine r_iconst (pc := 38) (v := (-1)) C dX8_machine_38 (by decide) ?_
          exact r_ireturn (pc := 39) C dX8_machine_39 (by rw [if_neg (fun h => by have k : belB _ _ = false := bI_z.mp c35; simp [k] at h)]; exact ⟨rfl, rfl⟩)
set_option maxHeartbeats 4000000 in
set_option maxRecDepth 100000 in
theorem tX8_file (Y : gY) (hY : Y.2.2.2 = wC) {G : gS} {fc : Nat} {b q : Int32} (hfc : G.1 6 4 = nI fc) (hf6 : fc ≤ 6) : ∀ l : Launch, gM Y l yX8_file cX8_file 3 (some .int) (1, 22) [.ref (Y.2.1 (0)), .int (b), .int (q)] G (qi (fun r G' => if fc < 6 ∧ ¬ b < nI 1 ∧ ¬ nI 12 < b ∧ ¬ q < -1 ∧ q < nI 6 then (r = nI fc ∧ G' = sI (sI (sI (sI G 0 4 (nI 1)) 8 fc b) 9 fc q) 6 4 (nI (fc + 1))) else (r = -1 ∧ G' = G))) := by
  intro l
  refine gM_of hY rfl (Nat.le_of_ble_eq_true rfl) [some (.ref (Y.2.1 (0))), some (.int (b)), some (.int (q))] rfl rfl ?_
  rintro Z rfl C
  refine r_aload0 (pc := 0) C dX8_file_0 ?_
  refine gX8_28 (pc := 1) C dX8_file_1 ?_
  refine gX8_79 (pc := 4) C dX8_file_4 ?_
  refine r_eqi hfc ?_
  refine r_bipush (pc := 7) (v := nI 6) C dX8_file_7 (by decide) ?_
  refine r_icmp_ge (pc := 9) 34 C dX8_file_9 (by decide) (fun c9 => ?_) (fun c9 => ?_)
  · have d9 : 6 ≤ fc := (nI_leI (by decide) (by omega)).mp c9
    refine r_iconst (pc := 34) (v := (-1)) C dX8_file_34 (by decide) ?_
    exact r_ireturn (pc := 35) C dX8_file_35 (by rw [if_neg (fun h => absurd h.1 (by omega))]; exact ⟨rfl, rfl⟩)
  · have d9 : fc < 6 := by
      rcases Nat.lt_or_ge fc 6 with h | h
      · exact h
      · exact absurd (nI_le h (by omega)) c9
    refine r_iload1 (pc := 12) C dX8_file_12 ?_
    refine r_iconst (pc := 13) (v := nI 1) C dX8_file_13 (by decide) ?_
    refine r_icmp_lt (pc := 14) 34 C dX8_file_14 (by decide) (fun c14 => ?_) (fun c14 => ?_)
    · refine r_iconst (pc := 34) (v := (-1)) C dX8_file_34 (by decide) ?_
      exact r_ireturn (pc := 35) C dX8_file_35 (by rw [if_neg (fun h => h.2.1 c14)]; exact ⟨rfl, rfl⟩)
    · refine r_iload1 (pc := 17) C dX8_file_17 ?_
      refine r_bipush (pc := 18) (v := nI 12) C dX8_file_18 (by decide) ?_
      refine r_icmp_gt (pc := 20) 34 C dX8_file_20 (by decide) (fun c20 => ?_) (fun c20 => ?_)
      · refine r_iconst (pc := 34) (v := (-1)) C dX8_file_34 (by decide) ?_
        exact r_ireturn (pc := 35) C dX8_file_35 (by rw [if_neg (fun h => h.2.2.1 c20)]; exact ⟨rfl, rfl⟩)
      · refine r_iload2 (pc := 23) C dX8_file_23 ?_
        refine r_iconst (pc := 24) (v := (-1)) C dX8_file_24 (by decide) ?_
        refine r_icmp_lt (pc := 25) 34 C dX8_file_25 (by decide) (fun c25 => ?_) (fun c25 => ?_)
        · refine r_iconst (pc := 34) (v := (-1)) C dX8_file_34 (by decide) ?_
          exact r_ireturn (pc := 35) C dX8_file_35 (by rw [if_neg (fun h => h.2.2.2.1 c25)]; exact ⟨rfl, rfl⟩)
        · refine r_iload2 (pc := 28) C dX8_file_28 ?_
          refine r_bipush (pc := 29) (v := nI 6) C dX8_file_29 (by decide) ?_
          refine r_icmp_lt (pc := 31) 36 C dX8_file_31 (by decide) (fun c31 => ?_) (fun c31 => ?_)
          · refine r_aload0 (pc := 36) C dX8_file_36 ?_
            refine r_iconst (pc := 37) (v := nI 1) C dX8_file_37 (by decide) ?_
            refine pX8_41 (pc := 38) C dX8_file_38 rfl rfl ?_
            refine r_aload0 (pc := 41) C dX8_file_41 ?_
            refine gX8_28 (pc := 42) C dX8_file_42 ?_
            refine r_iload1 (pc := 45) C dX8_file_45 ?_
            refine r_iload2 (pc := 46) C dX8_file_46 ?_
            refine r_callVi (pc := 47) C rfl dX8_file_47 kX8_82 gF1 jC6 (tX1_addFile Z.1 C.w (fc := fc) (by rw [sI_o (by decide)]; exact hfc) d9) rfl rfl (Nat.le_of_ble_eq_true rfl) (by decide) (fun x47 G47 h47 => ?_)
            exact r_ireturn (pc := 50) C dX8_file_50 (by
  rw [if_pos ⟨d9, c14, c20, c25, c31⟩]
  obtain ⟨rfl, rfl⟩ := h47
  rw [sI_o (by decide), hfc, nI_add]
  exact ⟨rfl, rfl⟩)
          · refine r_iconst (pc := 34) (v := (-1)) C dX8_file_34 (by decide) ?_
            exact r_ireturn (pc := 35) C dX8_file_35 (by rw [if_neg (fun h => c31 h.2.2.2.2)]; exact ⟨rfl, rfl⟩)
set_option maxHeartbeats 4000000 in
set_option maxRecDepth 100000 in
theorem tX8_lose (Y : gY) (hY : Y.2.2.2 = wC) {G : gS} {mc : Nat} {m t : Int32} (hmc : G.1 6 1 = nI mc) (hm8 : mc ≤ 8) : ∀ l : Launch, gM Y l yX8_lose cX8_lose 3 (some .int) (1, 22) [.ref (Y.2.1 (0)), .int (m), .int (t)] G (qi (fun r G' => if G.1 11 0 < nI 200 ∧ belB m (nI mc) = true ∧ belB t (nI 300) = true then (r = G.1 11 0 ∧ G' = sI (sI (sI G 0 4 (nI 1)) 12 (cN t) (G.1 12 (cN t) ||| (nI 1 <<< (nI (cN m) &&& 31)))) 11 0 (G.1 11 0 + nI 1)) else (r = -1 ∧ G' = G))) := by
  intro l
  refine gM_of hY rfl (Nat.le_of_ble_eq_true rfl) [some (.ref (Y.2.1 (0))), some (.int (m)), some (.int (t))] rfl rfl ?_
  rintro Z rfl C
  refine r_aload0 (pc := 0) C dX8_lose_0 ?_
  refine gX8_28 (pc := 1) C dX8_lose_1 ?_
  refine gX8_93 (pc := 4) C dX8_lose_4 ?_
  refine r_callVi (pc := 7) C rfl dX8_lose_7 kX8_97 gF0 jC11 (tX0_isFull Z.1 C.w) rfl rfl (Nat.le_of_ble_eq_true rfl) (by decide) (fun x7 G7 h7 => ?_)
  obtain ⟨rfl, h7b⟩ := h7
  have h7b := h7b.symm
  subst h7b
  refine r_if_ne (pc := 10) 37 C dX8_lose_10 (by decide) (fun c10 => ?_) (fun c10 => ?_)
  · have d10 : ¬ G.1 11 0 < nI 200 := fun h => c10 (by rw [if_pos h]; rfl)
    refine r_iconst (pc := 37) (v := (-1)) C dX8_lose_37 (by decide) ?_
    exact r_ireturn (pc := 38) C dX8_lose_38 (by rw [if_neg (fun h => d10 h.1)]; exact ⟨rfl, rfl⟩)
  · have d10 : G.1 11 0 < nI 200 := by
      by_cases h : G.1 11 0 < nI 200
      · exact h
      · rw [if_neg h] at c10; exact absurd c10 (by decide)
    refine r_iload1 (pc := 13) C dX8_lose_13 ?_
    refine r_aload0 (pc := 14) C dX8_lose_14 ?_
    refine gX8_28 (pc := 15) C dX8_lose_15 ?_
    refine gX8_72 (pc := 18) C dX8_lose_18 ?_
    refine r_eqi hmc ?_
    refine r_callSi (pc := 21) C rfl dX8_lose_21 kX8_53 (tX8_isBelow Z.1 C.w) rfl rfl (Nat.le_of_ble_eq_true rfl) (by decide) (fun x21 G21 h21 => ?_)
    obtain ⟨rfl, h21b⟩ := h21
    have h21b := h21b.symm
    subst h21b
    refine r_if_eq (pc := 24) 37 C dX8_lose_24 (by decide) (fun c24 => ?_) (fun c24 => ?_)
    · refine r_iconst (pc := 37) (v := (-1)) C dX8_lose_37 (by decide) ?_
      exact r_ireturn (pc := 38) C dX8_lose_38 (by rw [if_neg (fun h => by have k : belB _ _ = false := bI_z.mp c24; simp [k] at h)]; exact ⟨rfl, rfl⟩)
    · refine r_iload2 (pc := 27) C dX8_lose_27 ?_
      refine r_sipush (pc := 28) (v := nI 300) C dX8_lose_28 (by decide) ?_
      refine r_callSi (pc := 31) C rfl dX8_lose_31 kX8_53 (tX8_isBelow Z.1 C.w) rfl rfl (Nat.le_of_ble_eq_true rfl) (by decide) (fun x31 G31 h31 => ?_)
      obtain ⟨rfl, h31b⟩ := h31
      have h31b := h31b.symm
      subst h31b
      refine r_if_ne (pc := 34) 39 C dX8_lose_34 (by decide) (fun c34 => ?_) (fun c34 => ?_)
      · obtain ⟨i, hi, rfl⟩ := belB_t (bI_n.mp c24) (by omega)
        obtain ⟨x, hx, rfl⟩ := belB_t (bI_n.mp c34) (by decide)
        refine r_aload0 (pc := 39) C dX8_lose_39 ?_
        refine r_iconst (pc := 40) (v := nI 1) C dX8_lose_40 (by decide) ?_
        refine pX8_41 (pc := 41) C dX8_lose_41 rfl rfl ?_
        refine r_aload0 (pc := 44) C dX8_lose_44 ?_
        refine gX8_28 (pc := 45) C dX8_lose_45 ?_
        refine gX8_93 (pc := 48) C dX8_lose_48 ?_
        refine r_iload1 (pc := 51) C dX8_lose_51 ?_
        refine r_iload2 (pc := 52) C dX8_lose_52 ?_
        refine r_callVi (pc := 53) C rfl dX8_lose_53 kX8_103 gF0 jC11 (tX0_addLost Z.1 C.w (m := i) (t := x) (by omega) hx) rfl rfl (Nat.le_of_ble_eq_true rfl) (by decide) (fun x53 G53 h53 => ?_)
        exact r_ireturn (pc := 56) C dX8_lose_56 (by
  rw [if_pos ⟨d10, bI_n.mp c24, bI_n.mp c34⟩, cN_nI (by omega), cN_nI (by omega)]
  obtain ⟨rfl, rfl⟩ := h53
  exact ⟨rfl, rfl⟩)
      · refine r_iconst (pc := 37) (v := (-1)) C dX8_lose_37 (by decide) ?_
        exact r_ireturn (pc := 38) C dX8_lose_38 (by rw [if_neg (fun h => by have k : belB _ _ = false := bI_z.mp c34; simp [k] at h)]; exact ⟨rfl, rfl⟩)
set_option maxHeartbeats 4000000 in
set_option maxRecDepth 100000 in
theorem tX8_cut (Y : gY) (hY : Y.2.2.2 = wC) {G : gS} {mc : Nat} {m t : Int32} (hmc : G.1 6 1 = nI mc) (hm8 : mc ≤ 8) : ∀ l : Launch, gM Y l yX8_cut cX8_cut 3 (some .int) (2, 43) [.ref (Y.2.1 (0)), .int (m), .int (t)] G (qi (fun r G' => if G.1 11 0 < nI 200 ∧ belB m (nI mc) = true ∧ belB t (nI 300) = true then (r = G.1 11 0 ∧ G' = sI (sI (sI (sI G 0 4 (nI 1)) 12 (cN t) (G.1 12 (cN t) ||| (nI 1 <<< (nI (8 + cN m) &&& 31)))) 11 1 (if G.1 11 1 < nI (cN t) then nI (cN t) else G.1 11 1)) 11 0 (G.1 11 0 + nI 1)) else (r = -1 ∧ G' = G))) := by
  intro l
  refine gM_of hY rfl (Nat.le_of_ble_eq_true rfl) [some (.ref (Y.2.1 (0))), some (.int (m)), some (.int (t))] rfl rfl ?_
  rintro Z rfl C
  refine r_aload0 (pc := 0) C dX8_cut_0 ?_
  refine gX8_28 (pc := 1) C dX8_cut_1 ?_
  refine gX8_93 (pc := 4) C dX8_cut_4 ?_
  refine r_callVi (pc := 7) C rfl dX8_cut_7 kX8_97 gF0 jC11 (tX0_isFull Z.1 C.w) rfl rfl (Nat.le_of_ble_eq_true rfl) (by decide) (fun x7 G7 h7 => ?_)
  obtain ⟨rfl, h7b⟩ := h7
  have h7b := h7b.symm
  subst h7b
  refine r_if_ne (pc := 10) 37 C dX8_cut_10 (by decide) (fun c10 => ?_) (fun c10 => ?_)
  · have d10 : ¬ G.1 11 0 < nI 200 := fun h => c10 (by rw [if_pos h]; rfl)
    refine r_iconst (pc := 37) (v := (-1)) C dX8_cut_37 (by decide) ?_
    exact r_ireturn (pc := 38) C dX8_cut_38 (by rw [if_neg (fun h => d10 h.1)]; exact ⟨rfl, rfl⟩)
  · have d10 : G.1 11 0 < nI 200 := by
      by_cases h : G.1 11 0 < nI 200
      · exact h
      · rw [if_neg h] at c10; exact absurd c10 (by decide)
    refine r_iload1 (pc := 13) C dX8_cut_13 ?_
    refine r_aload0 (pc := 14) C dX8_cut_14 ?_
    refine gX8_28 (pc := 15) C dX8_cut_15 ?_
    refine gX8_72 (pc := 18) C dX8_cut_18 ?_
    refine r_eqi hmc ?_
    refine r_callSi (pc := 21) C rfl dX8_cut_21 kX8_53 (tX8_isBelow Z.1 C.w) rfl rfl (Nat.le_of_ble_eq_true rfl) (by decide) (fun x21 G21 h21 => ?_)
    obtain ⟨rfl, h21b⟩ := h21
    have h21b := h21b.symm
    subst h21b
    refine r_if_eq (pc := 24) 37 C dX8_cut_24 (by decide) (fun c24 => ?_) (fun c24 => ?_)
    · refine r_iconst (pc := 37) (v := (-1)) C dX8_cut_37 (by decide) ?_
      exact r_ireturn (pc := 38) C dX8_cut_38 (by rw [if_neg (fun h => by have k : belB _ _ = false := bI_z.mp c24; simp [k] at h)]; exact ⟨rfl, rfl⟩)
    · refine r_iload2 (pc := 27) C dX8_cut_27 ?_
      refine r_sipush (pc := 28) (v := nI 300) C dX8_cut_28 (by decide) ?_
      refine r_callSi (pc := 31) C rfl dX8_cut_31 kX8_53 (tX8_isBelow Z.1 C.w) rfl rfl (Nat.le_of_ble_eq_true rfl) (by decide) (fun x31 G31 h31 => ?_)
      obtain ⟨rfl, h31b⟩ := h31
      have h31b := h31b.symm
      subst h31b
      refine r_if_ne (pc := 34) 39 C dX8_cut_34 (by decide) (fun c34 => ?_) (fun c34 => ?_)
      · obtain ⟨i, hi, rfl⟩ := belB_t (bI_n.mp c24) (by omega)
        obtain ⟨x, hx, rfl⟩ := belB_t (bI_n.mp c34) (by decide)
        refine r_aload0 (pc := 39) C dX8_cut_39 ?_
        refine r_iconst (pc := 40) (v := nI 1) C dX8_cut_40 (by decide) ?_
        refine pX8_41 (pc := 41) C dX8_cut_41 rfl rfl ?_
        refine r_aload0 (pc := 44) C dX8_cut_44 ?_
        refine gX8_28 (pc := 45) C dX8_cut_45 ?_
        refine gX8_93 (pc := 48) C dX8_cut_48 ?_
        refine r_iload1 (pc := 51) C dX8_cut_51 ?_
        refine r_iload2 (pc := 52) C dX8_cut_52 ?_
        refine r_callVi (pc := 53) C rfl dX8_cut_53 kX8_115 gF0 jC11 (tX0_addCut Z.1 C.w (m := i) (t := x) (by omega) hx) rfl rfl (Nat.le_of_ble_eq_true rfl) (by decide) (fun x53 G53 h53 => ?_)
        exact r_ireturn (pc := 56) C dX8_cut_56 (by
  rw [if_pos ⟨d10, bI_n.mp c24, bI_n.mp c34⟩, cN_nI (by omega), cN_nI (by omega)]
  obtain ⟨rfl, rfl⟩ := h53
  exact ⟨rfl, rfl⟩)
      · refine r_iconst (pc := 37) (v := (-1)) C dX8_cut_37 (by decide) ?_
        exact r_ireturn (pc := 38) C dX8_cut_38 (by rw [if_neg (fun h => by have k : belB _ _ = false := bI_z.mp c34; simp [k] at h)]; exact ⟨rfl, rfl⟩)
set_option maxHeartbeats 4000000 in
set_option maxRecDepth 100000 in
theorem tX8_down (Y : gY) (hY : Y.2.2.2 = wC) {G : gS} {k a b : Int32} : ∀ l : Launch, gM Y l yX8_down cX8_down 4 (some .int) (1, 24) [.ref (Y.2.1 (0)), .int (k), .int (a), .int (b)] G (qi (fun r G' => if G.1 11 0 < nI 200 ∧ belB k (nI 2) = true ∧ belB a b = true ∧ ¬ nI 300 < b then (r = G.1 11 0 ∧ Fr (fun r => r = 11 ∨ r = 12) (sI G 0 4 (nI 1)) G' ∧ G'.1 11 = upd (G.1 11) 0 (G.1 11 0 + nI 1) ∧ ∀ t j, bt (G'.1 12 t) j = (bt (G.1 12 t) j || decide (cN a ≤ t ∧ t < cN b ∧ j = 16 + cN k))) else (r = -1 ∧ G' = G))) := by
  intro l
  refine gM_of hY rfl (Nat.le_of_ble_eq_true rfl) [some (.ref (Y.2.1 (0))), some (.int (k)), some (.int (a)), some (.int (b))] rfl rfl ?_
  rintro Z rfl C
  refine r_aload0 (pc := 0) C dX8_down_0 ?_
  refine gX8_28 (pc := 1) C dX8_down_1 ?_
  refine gX8_93 (pc := 4) C dX8_down_4 ?_
  refine r_callVi (pc := 7) C rfl dX8_down_7 kX8_97 gF0 jC11 (tX0_isFull Z.1 C.w) rfl rfl (Nat.le_of_ble_eq_true rfl) (by decide) (fun x7 G7 h7 => ?_)
  obtain ⟨rfl, h7b⟩ := h7
  have h7b := h7b.symm
  subst h7b
  refine r_if_ne (pc := 10) 36 C dX8_down_10 (by decide) (fun c10 => ?_) (fun c10 => ?_)
  · have d10 : ¬ G.1 11 0 < nI 200 := fun h => c10 (by rw [if_pos h]; rfl)
    refine r_iconst (pc := 36) (v := (-1)) C dX8_down_36 (by decide) ?_
    exact r_ireturn (pc := 37) C dX8_down_37 (by rw [if_neg (fun h => d10 h.1)]; exact ⟨rfl, rfl⟩)
  · have d10 : G.1 11 0 < nI 200 := by
      by_cases h : G.1 11 0 < nI 200
      · exact h
      · rw [if_neg h] at c10; exact absurd c10 (by decide)
    refine r_iload1 (pc := 13) C dX8_down_13 ?_
    refine r_iconst (pc := 14) (v := nI 2) C dX8_down_14 (by decide) ?_
    refine r_callSi (pc := 15) C rfl dX8_down_15 kX8_53 (tX8_isBelow Z.1 C.w) rfl rfl (Nat.le_of_ble_eq_true rfl) (by decide) (fun x15 G15 h15 => ?_)
    obtain ⟨rfl, h15b⟩ := h15
    have h15b := h15b.symm
    subst h15b
    refine r_if_eq (pc := 18) 36 C dX8_down_18 (by decide) (fun c18 => ?_) (fun c18 => ?_)
    · refine r_iconst (pc := 36) (v := (-1)) C dX8_down_36 (by decide) ?_
      exact r_ireturn (pc := 37) C dX8_down_37 (by rw [if_neg (fun h => by have k : belB _ _ = false := bI_z.mp c18; simp [k] at h)]; exact ⟨rfl, rfl⟩)
    · refine r_iload2 (pc := 21) C dX8_down_21 ?_
      refine r_iload3 (pc := 22) C dX8_down_22 ?_
      refine r_callSi (pc := 23) C rfl dX8_down_23 kX8_53 (tX8_isBelow Z.1 C.w) rfl rfl (Nat.le_of_ble_eq_true rfl) (by decide) (fun x23 G23 h23 => ?_)
      obtain ⟨rfl, h23b⟩ := h23
      have h23b := h23b.symm
      subst h23b
      refine r_if_eq (pc := 26) 36 C dX8_down_26 (by decide) (fun c26 => ?_) (fun c26 => ?_)
      · refine r_iconst (pc := 36) (v := (-1)) C dX8_down_36 (by decide) ?_
        exact r_ireturn (pc := 37) C dX8_down_37 (by rw [if_neg (fun h => by have k : belB _ _ = false := bI_z.mp c26; simp [k] at h)]; exact ⟨rfl, rfl⟩)
      · refine r_iload3 (pc := 29) C dX8_down_29 ?_
        refine r_sipush (pc := 30) (v := nI 300) C dX8_down_30 (by decide) ?_
        refine r_icmp_le (pc := 33) 38 C dX8_down_33 (by decide) (fun c33 => ?_) (fun c33 => ?_)
        · obtain ⟨i, hi, rfl⟩ := belB_t (bI_n.mp c18) (by decide)
          obtain ⟨a1, a2⟩ := of_decide_eq_true (show belB a b = true from bI_n.mp c26)
          obtain ⟨x, hx, rfl⟩ := nI_of a1
          obtain ⟨y, hy, rfl⟩ := nI_of (show ¬ b < 0 from fun h => a1 (Int32.lt_of_lt_of_le (Int32.not_le.mp a2) (Int32.le_of_lt h)))
          have hxy : x < y := by
            rcases Nat.lt_or_ge x y with g | g
            · exact g
            · exact absurd (nI_le g hx) a2
          have hy3 : y ≤ 300 := (nI_leI hy (by decide)).mp c33
          refine r_aload0 (pc := 38) C dX8_down_38 ?_
          refine r_iconst (pc := 39) (v := nI 1) C dX8_down_39 (by decide) ?_
          refine pX8_41 (pc := 40) C dX8_down_40 rfl rfl ?_
          refine r_aload0 (pc := 43) C dX8_down_43 ?_
          refine gX8_28 (pc := 44) C dX8_down_44 ?_
          refine gX8_93 (pc := 47) C dX8_down_47 ?_
          refine r_iload1 (pc := 50) C dX8_down_50 ?_
          refine r_iload2 (pc := 51) C dX8_down_51 ?_
          refine r_iload3 (pc := 52) C dX8_down_52 ?_
          refine r_callVi (pc := 53) C rfl dX8_down_53 kX8_112 gF0 jC11 (tX0_addDown Z.1 C.w (k := i) (a := x) (b := y) hi hxy hy3) rfl rfl (Nat.le_of_ble_eq_true rfl) (by decide) (fun x53 G53 h53 => ?_)
          exact r_ireturn (pc := 56) C dX8_down_56 (by
  rw [if_pos ⟨d10, bI_n.mp c18, bI_n.mp c26, Int32.not_lt.mpr c33⟩, cN_nI (by omega), cN_nI (by omega), cN_nI (by omega)]
  exact h53)
        · refine r_iconst (pc := 36) (v := (-1)) C dX8_down_36 (by decide) ?_
          exact r_ireturn (pc := 37) C dX8_down_37 (by rw [if_neg (fun h => c33 (Int32.not_lt.mp h.2.2.2))]; exact ⟨rfl, rfl⟩)
set_option maxHeartbeats 4000000 in
set_option maxRecDepth 100000 in
theorem tX8_spoil (Y : gY) (hY : Y.2.2.2 = wC) {G : gS} {fc : Nat} {f b t : Int32} (hfc : G.1 6 4 = nI fc) (hf6 : fc ≤ 6) (hbl : ∀ f, f < fc → G.1 8 f = nI (cN (G.1 8 f)) ∧ 1 ≤ cN (G.1 8 f) ∧ cN (G.1 8 f) ≤ 12) : ∀ l : Launch, gM Y l yX8_spoil cX8_spoil 4 (some .int) (2, 43) [.ref (Y.2.1 (0)), .int (f), .int (b), .int (t)] G (qi (fun r G' => if G.1 11 0 < nI 200 ∧ (¬ f < 0 ∧ ¬ G.1 6 4 ≤ f ∧ ¬ b < 0 ∧ ¬ G.1 8 f.toNatClampNeg ≤ b) ∧ belB t (nI 300) = true then (r = G.1 11 0 ∧ G' = sI (sL (sI G 0 4 (nI 1)) 13 (2 * cN t + (cN f * 12 + cN b) / 36) (G.2.1 13 (2 * cN t + (cN f * 12 + cN b) / 36) ||| ((1 : Int64) <<< ((nI ((cN f * 12 + cN b) % 36)).toInt64 &&& 63)))) 11 0 (G.1 11 0 + nI 1)) else (r = -1 ∧ G' = G))) := by
  intro l
  refine gM_of hY rfl (Nat.le_of_ble_eq_true rfl) [some (.ref (Y.2.1 (0))), some (.int (f)), some (.int (b)), some (.int (t))] rfl rfl ?_
  rintro Z rfl C
  refine r_aload0 (pc := 0) C dX8_spoil_0 ?_
  refine gX8_28 (pc := 1) C dX8_spoil_1 ?_
  refine gX8_93 (pc := 4) C dX8_spoil_4 ?_
  refine r_callVi (pc := 7) C rfl dX8_spoil_7 kX8_97 gF0 jC11 (tX0_isFull Z.1 C.w) rfl rfl (Nat.le_of_ble_eq_true rfl) (by decide) (fun x7 G7 h7 => ?_)
  obtain ⟨rfl, h7b⟩ := h7
  have h7b := h7b.symm
  subst h7b
  refine r_if_ne (pc := 10) 35 C dX8_spoil_10 (by decide) (fun c10 => ?_) (fun c10 => ?_)
  · have d10 : ¬ G.1 11 0 < nI 200 := fun h => c10 (by rw [if_pos h]; rfl)
    refine r_iconst (pc := 35) (v := (-1)) C dX8_spoil_35 (by decide) ?_
    exact r_ireturn (pc := 36) C dX8_spoil_36 (by rw [if_neg (fun h => d10 h.1)]; exact ⟨rfl, rfl⟩)
  · have d10 : G.1 11 0 < nI 200 := by
      by_cases h : G.1 11 0 < nI 200
      · exact h
      · rw [if_neg h] at c10; exact absurd c10 (by decide)
    refine r_aload0 (pc := 13) C dX8_spoil_13 ?_
    refine gX8_28 (pc := 14) C dX8_spoil_14 ?_
    refine r_iload1 (pc := 17) C dX8_spoil_17 ?_
    refine r_iload2 (pc := 18) C dX8_spoil_18 ?_
    refine r_callVi (pc := 19) C rfl dX8_spoil_19 kX8_106 gF1 jC6 (tX1_hasBlock Z.1 C.w hfc hf6) rfl rfl (Nat.le_of_ble_eq_true rfl) (by decide) (fun x19 G19 h19 => ?_)
    obtain ⟨rfl, h19b⟩ := h19
    have h19b := h19b.symm
    subst h19b
    refine r_if_eq (pc := 22) 35 C dX8_spoil_22 (by decide) (fun c22 => ?_) (fun c22 => ?_)
    · refine r_iconst (pc := 35) (v := (-1)) C dX8_spoil_35 (by decide) ?_
      exact r_ireturn (pc := 36) C dX8_spoil_36 (by rw [if_neg (fun h => of_decide_eq_false (bI_z.mp c22) h.2.1)]; exact ⟨rfl, rfl⟩)
    · refine r_iload3 (pc := 25) C dX8_spoil_25 ?_
      refine r_sipush (pc := 26) (v := nI 300) C dX8_spoil_26 (by decide) ?_
      refine r_callSi (pc := 29) C rfl dX8_spoil_29 kX8_53 (tX8_isBelow Z.1 C.w) rfl rfl (Nat.le_of_ble_eq_true rfl) (by decide) (fun x29 G29 h29 => ?_)
      obtain ⟨rfl, h29b⟩ := h29
      have h29b := h29b.symm
      subst h29b
      refine r_if_ne (pc := 32) 37 C dX8_spoil_32 (by decide) (fun c32 => ?_) (fun c32 => ?_)
      · obtain ⟨u1, u2, u3, u4⟩ := of_decide_eq_true (bI_n.mp c22)
        obtain ⟨x, hx, rfl⟩ := belB_t (bI_n.mp c32) (by decide)
        obtain ⟨i, hi, rfl⟩ := belB_t (x := f) (b := fc) (decide_eq_true ⟨u1, by rw [hfc] at u2; exact u2⟩) (by omega)
        rw [nI_clamp (show i < 2 ^ 31 by omega)] at u4
        obtain ⟨hb1, hb2, hb3⟩ := hbl i hi
        obtain ⟨y, hy, rfl⟩ := nI_of u3
        have hyb : y < 12 := by
          rcases Nat.lt_or_ge y 12 with g | g
          · exact g
          · exact absurd (by rw [hb1]; exact nI_le (by omega) hy) u4
        refine r_aload0 (pc := 37) C dX8_spoil_37 ?_
        refine r_iconst (pc := 38) (v := nI 1) C dX8_spoil_38 (by decide) ?_
        refine pX8_41 (pc := 39) C dX8_spoil_39 rfl rfl ?_
        refine r_aload0 (pc := 42) C dX8_spoil_42 ?_
        refine gX8_28 (pc := 43) C dX8_spoil_43 ?_
        refine gX8_93 (pc := 46) C dX8_spoil_46 ?_
        refine r_iload1 (pc := 49) C dX8_spoil_49 ?_
        refine r_bipush (pc := 50) (v := nI 12) C dX8_spoil_50 (by decide) ?_
        refine r_imul (pc := 52) C dX8_spoil_52 ?_
        refine r_eqi (pk_mul i 12) ?_
        refine r_iload2 (pc := 53) C dX8_spoil_53 ?_
        refine r_iadd (pc := 54) C dX8_spoil_54 ?_
        refine r_eqi (nI_add _ _) ?_
        refine r_iload3 (pc := 55) C dX8_spoil_55 ?_
        refine r_callVi (pc := 56) C rfl dX8_spoil_56 kX8_109 gF0 jC11 (tX0_addWrong Z.1 C.w (b := i * 12 + y) (t := x) (by omega) hx) rfl rfl (Nat.le_of_ble_eq_true rfl) (by decide) (fun x56 G56 h56 => ?_)
        exact r_ireturn (pc := 59) C dX8_spoil_59 (by
  rw [if_pos ⟨d10, of_decide_eq_true (bI_n.mp c22), bI_n.mp c32⟩, cN_nI (show i < 2 ^ 31 by omega), cN_nI hy, cN_nI (show x < 2 ^ 31 by omega)]
  obtain ⟨rfl, rfl⟩ := h56
  exact ⟨rfl, rfl⟩)
      · refine r_iconst (pc := 35) (v := (-1)) C dX8_spoil_35 (by decide) ?_
        exact r_ireturn (pc := 36) C dX8_spoil_36 (by rw [if_neg (fun h => by rw [show belB _ _ = false from bI_z.mp c32] at h; cases h.2.2)]; exact ⟨rfl, rfl⟩)
