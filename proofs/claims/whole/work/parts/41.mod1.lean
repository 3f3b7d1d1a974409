/-! the reference: telling -/
theorem belB_m {x : Int32} {b : Nat} (hb : b < 1000) : belB x (nI (b + 1)) = true ↔ ¬ x < 0 ∧ ¬ nI b < x := by
  unfold belB
  rw [decide_eq_true_iff]
  have e1 := nI_toInt (n := b) (by omega)
  have e2 := nI_toInt (n := b + 1) (by omega)
  simp only [Int32.lt_iff_toInt_lt, Int32.le_iff_toInt_le, e1, e2]
  have : (((b + 1 : Nat) : Int)) = (b : Int) + 1 := by omega
  omega
/-- a byte of a word as the reference keeps it -/
def mb (x : Int32) (j : Nat) : Int32 := (x >>> (shA j &&& 31)).toInt8.toInt32
theorem tn_eq (z : Int32) : (z.toBitVec.toNat : Int) = z.toInt ∨ (z.toBitVec.toNat : Int) = z.toInt + 4294967296 := by
  have h : z.toInt = z.toBitVec.toInt := rfl
  have hl := z.toBitVec.isLt
  rw [h, BitVec.toInt_eq_toNat_cond]
  split
  · exact Or.inl rfl
  · right
    have : ((2 ^ 32 : Nat) : Int) = 4294967296 := by decide
    omega
theorem shA_s : ∀ j, j < 4 → ((shA j &&& 31).toBitVec.smod 32).toNat = 24 - 8 * j := by decide +kernel
theorem mb_get (x : Int32) {j : Nat} (h : j < 4) : mb x j &&& nI 255 = nI (wb x j) := by
  rw [pk_and _ (m := nI 255) 8 (by decide)]
  have e1 : (mb x j).toInt = ((x >>> (shA j &&& 31)).toInt).bmod 256 := by
    unfold mb
    rw [Int8.toInt_toInt32, Int32.toInt_toInt8]
  have e2 : (x >>> (shA j &&& 31)).toInt = x.toInt >>> (24 - 8 * j) := pk_shr _ _ _ (shA_s j h)
  have e3 := tn_eq (mb x j)
  have e4 := tn_eq x
  rw [e2, Int.shiftRight_eq_div_pow] at e1
  congr 1
  unfold wb
  rcases (show j = 0 ∨ j = 1 ∨ j = 2 ∨ j = 3 by omega) with rfl | rfl | rfl | rfl
  all_goals
    simp only [Int.bmod] at e1
    simp only [Nat.reduceMul, Nat.reduceSub, Nat.reducePow] at e1 ⊢
    omega
def apM (x : Int32) (n : Nat) (G : gS) (j : Nat) : gS := sW (sW G 1 (fun k => if n ≤ k ∧ k < n + j then mb x (k - n) else G.1 1 k)) 100 (upd (G.1 100) 2 (nI (n + j)))
theorem apM_0 {x : Int32} {n : Nat} {G : gS} (h : G.1 100 2 = nI n) : apM x n G 0 = G := by
  have e1 : (fun k => if n ≤ k ∧ k < n + 0 then mb x (k - n) else G.1 1 k) = G.1 1 := by
    funext k; rw [if_neg (by omega)]
  rw [apM, e1, sW_id, Nat.add_zero, upd_id h, sW_id]
theorem apM_len {x : Int32} {n j : Nat} {G : gS} : (apM x n G j).1 100 2 = nI (n + j) := by rw [apM, sW_s, upd_s]
theorem apM_s {x : Int32} {n j : Nat} {G : gS} : sI (sI (apM x n G j) 1 (n + j) (mb x j)) 100 2 (nI (n + j + 1)) = apM x n G (j + 1) := by
  refine Prod.ext (funext fun a => funext fun k => ?_) rfl
  simp only [sI, apM, sW, upd]
  by_cases h1 : a = 100
  · subst h1
    by_cases h2 : k = 2
    · subst h2; simp [upd]; rfl
    · simp [h2, upd]
  · by_cases h2 : a = 1
    · subst h2
      by_cases h3 : k = n + j
      · subst h3; simp [upd]
      · have : (n ≤ k ∧ k < n + (j + 1)) ↔ (n ≤ k ∧ k < n + j) := by omega
        simp [h3, this, upd]
    · simp [h1, h2]
set_option maxHeartbeats 4000000 in
set_option maxRecDepth 100000 in
theorem tX9_put (Y : gY) (hY : Y.2.2.2 = wM) {G : gS} {n : Nat} {x : Int32} (hl : G.1 100 2 = nI n) (hn : n + 4 ≤ 2000) : ∀ l : Launch, gM Y l yX9_put cX9_put 3 none (0, 0) [.ref (Y.2.1 (100)), .int (x)] G (qv (fun G' => G' = apM x n G 4)) := by
  intro l
  refine gM_of hY rfl (Nat.le_of_ble_eq_true rfl) [some (.ref (Y.2.1 (100))), some (.int (x)), none] rfl rfl ?_
  rintro Z rfl C
  have step : ∀ j, j < 4 → WW Z (qv (fun G' => G' = apM x n G 4)) 3 [some (.ref (ad Z 100)), some (.int x), some (.int (shA (j + 1)))] [] (apM x n G (j + 1)) → WW Z (qv (fun G' => G' = apM x n G 4)) 3 [some (.ref (ad Z 100)), some (.int x), some (.int (shA j))] [] (apM x n G j) := by
    intro j hj K
    refine r_iload2 (pc := 3) C dX9_put_3 ?_
    refine r_if_lt (pc := 4) 36 C dX9_put_4 (by decide) (fun c4 => ?_) (fun c4 => ?_)
    · exact absurd c4 (shA_p j hj)
    refine r_aload0 (pc := 7) C dX9_put_7 ?_
    refine gX9_13 (pc := 8) C dX9_put_8 ?_
    refine r_aload0 (pc := 11) C dX9_put_11 ?_
    refine gX9_213 (pc := 12) C dX9_put_12 ?_
    refine r_eqi apM_len ?_
    refine r_iload1 (pc := 15) C dX9_put_15 ?_
    refine r_iload2 (pc := 16) C dX9_put_16 ?_
    refine r_ishr (pc := 17) C dX9_put_17 ?_
    refine r_i2b (pc := 18) C dX9_put_18 ?_
    refine r_bast (pc := 19) (_) C dX9_put_19 aM1 (rfl) (by omega) (pk_vb _) ?_
    refine r_aload0 (pc := 20) C dX9_put_20 ?_
    refine r_dup (pc := 21) C dX9_put_21 rfl ?_
    refine gX9_213 (pc := 22) C dX9_put_22 ?_
    refine r_eqi (y := nI (n + j)) (by rw [sI_o (by decide)]; exact apM_len) ?_
    refine r_iconst (pc := 25) (v := nI 1) C dX9_put_25 (by decide) ?_
    refine r_iadd (pc := 26) C dX9_put_26 ?_
    refine r_eqi (nI_add _ _) ?_
    refine pX9_213 (pc := 27) C dX9_put_27 ?_
    refine r_G apM_s ?_
    refine r_iinc2 (pc := 30) ((-8)) C dX9_put_30 (by decide) rfl ?_
    rw [shA_n j hj]
    refine r_goto (pc := 33) 3 C dX9_put_33 (by decide) ?_
    exact K
  refine r_bipush (pc := 0) (v := nI 24) C dX9_put_0 (by decide) ?_
  refine r_istore2 (pc := 2) C dX9_put_2 rfl ?_
  have K4 : WW Z (qv (fun G' => G' = apM x n G 4)) 3 [some (.ref (ad Z 100)), some (.int x), some (.int (shA 4))] [] (apM x n G 4) := by
    refine r_iload2 (pc := 3) C dX9_put_3 ?_
    refine r_if_lt (pc := 4) 36 C dX9_put_4 (by decide) (fun c => ?_) (fun c => absurd (by decide) c)
    exact r_return (pc := 36) C dX9_put_36 rfl
  have K0 := step 0 (by decide) (step 1 (by decide) (step 2 (by decide) (step 3 (by decide) K4)))
  rw [apM_0 hl] at K0
  exact K0
def fdM (G : gS) (n : Nat) (a b c d e : Int32) : gS := apM e (n + 16) (apM d (n + 12) (apM c (n + 8) (apM b (n + 4) (apM a n G 4) 4) 4) 4) 4
set_option maxHeartbeats 4000000 in
set_option maxRecDepth 100000 in
theorem tX9_feed (Y : gY) (hY : Y.2.2.2 = wM) {G : gS} {n : Nat} {a b c d e : Int32} (hl : G.1 100 2 = nI n) (hn : n ≤ 2000) : ∀ l : Launch, gM Y l yX9_feed cX9_feed 6 (some .int) (1, 22) [.ref (Y.2.1 (100)), .int (a), .int (b), .int (c), .int (d), .int (e)] G (qi (fun r G' => if n + 20 ≤ 2000 then (r = nI (n + 16 + 4) ∧ G' = fdM G n a b c d e) else (r = -1 ∧ G' = G))) := by
  intro l
  refine gM_of hY rfl (Nat.le_of_ble_eq_true rfl) [some (.ref (Y.2.1 (100))), some (.int (a)), some (.int (b)), some (.int (c)), some (.int (d)), some (.int (e))] rfl rfl ?_
  rintro Z rfl C
  refine r_aload0 (pc := 0) C dX9_feed_0 ?_
  refine gX9_213 (pc := 1) C dX9_feed_1 ?_
  refine r_eqi hl ?_
  refine r_bipush (pc := 4) (v := nI 20) C dX9_feed_4 (by decide) ?_
  refine r_iadd (pc := 6) C dX9_feed_6 ?_
  refine r_eqi (nI_add n 20) ?_
  refine r_sipush (pc := 7) (v := nI 2000) C dX9_feed_7 (by decide) ?_
  refine r_icmp_le (pc := 10) 15 C dX9_feed_10 (by decide) (fun c10 => ?_) (fun c10 => ?_)
  · have d13 : n + 20 ≤ 2000 := (nI_leI (by omega) (by decide)).mp c10
    refine r_aload0 (pc := 15) C dX9_feed_15 ?_
    refine r_iload1 (pc := 16) C dX9_feed_16 ?_
    refine r_callVv (pc := 17) C rfl dX9_feed_17 kX9_216 gF9 jM (tX9_put Z.1 C.w (n := n) hl (by omega)) rfl rfl (Nat.le_of_ble_eq_true rfl) (by decide) (fun G17 h17 => ?_)
    subst h17
    refine r_aload0 (pc := 20) C dX9_feed_20 ?_
    refine r_iload2 (pc := 21) C dX9_feed_21 ?_
    refine r_callVv (pc := 22) C rfl dX9_feed_22 kX9_216 gF9 jM (tX9_put Z.1 C.w (n := n + 4) apM_len (by omega)) rfl rfl (Nat.le_of_ble_eq_true rfl) (by decide) (fun G22 h22 => ?_)
    subst h22
    refine r_aload0 (pc := 25) C dX9_feed_25 ?_
    refine r_iload3 (pc := 26) C dX9_feed_26 ?_
    refine r_callVv (pc := 27) C rfl dX9_feed_27 kX9_216 gF9 jM (tX9_put Z.1 C.w (n := n + 8) apM_len (by omega)) rfl rfl (Nat.le_of_ble_eq_true rfl) (by decide) (fun G27 h27 => ?_)
    subst h27
    refine r_aload0 (pc := 30) C dX9_feed_30 ?_
    refine r_iload4 (pc := 31) C dX9_feed_31 ?_
    refine r_callVv (pc := 33) C rfl dX9_feed_33 kX9_216 gF9 jM (tX9_put Z.1 C.w (n := n + 12) apM_len (by omega)) rfl rfl (Nat.le_of_ble_eq_true rfl) (by decide) (fun G33 h33 => ?_)
    subst h33
    refine r_aload0 (pc := 36) C dX9_feed_36 ?_
    refine r_iload5 (pc := 37) C dX9_feed_37 ?_
    refine r_callVv (pc := 39) C rfl dX9_feed_39 kX9_216 gF9 jM (tX9_put Z.1 C.w (n := n + 16) apM_len (by omega)) rfl rfl (Nat.le_of_ble_eq_true rfl) (by decide) (fun G39 h39 => ?_)
    subst h39
    refine r_aload0 (pc := 42) C dX9_feed_42 ?_
    refine gX9_213 (pc := 43) C dX9_feed_43 ?_
    refine r_eqi apM_len ?_
    exact r_ireturn (pc := 46) C dX9_feed_46 (by rw [if_pos d13]; exact ⟨rfl, rfl⟩)
  · have d13 : ¬ n + 20 ≤ 2000 := fun h => c10 (nI_le h (by decide))
    refine r_iconst (pc := 13) (v := (-1)) C dX9_feed_13 (by decide) ?_
    exact r_ireturn (pc := 14) C dX9_feed_14 (by rw [if_neg d13]; exact ⟨rfl, rfl⟩)
set_option maxHeartbeats 4000000 in
set_option maxRecDepth 100000 in
theorem tX9_back (Y : gY) (hY : Y.2.2.2 = wM) {G : gS} {x : Int32} : ∀ l : Launch, gM Y l yX9_back cX9_back 2 (some .int) (0, 0) [.ref (Y.2.1 (100)), .int (x)] G (qi (fun r G' => if ¬ x < 0 ∧ ¬ G.1 100 2 < x then (r = G.1 100 2 - x ∧ G' = sI G 100 2 (G.1 100 2 - x)) else (r = -1 ∧ G' = G))) := by
  intro l
  refine gM_of hY rfl (Nat.le_of_ble_eq_true rfl) [some (.ref (Y.2.1 (100))), some (.int (x))] rfl rfl ?_
  rintro Z rfl C
  refine r_iload1 (pc := 0) C dX9_back_0 ?_
  refine r_if_lt (pc := 1) 12 C dX9_back_1 (by decide) (fun c1 => ?_) (fun c1 => ?_)
  · refine r_iconst (pc := 12) (v := (-1)) C dX9_back_12 (by decide) ?_
    exact r_ireturn (pc := 13) C dX9_back_13 (by rw [if_neg (fun h => h.1 c1)]; exact ⟨rfl, rfl⟩)
  · refine r_iload1 (pc := 4) C dX9_back_4 ?_
    refine r_aload0 (pc := 5) C dX9_back_5 ?_
    refine gX9_213 (pc := 6) C dX9_back_6 ?_
    refine r_icmp_le (pc := 9) 14 C dX9_back_9 (by decide) (fun c9 => ?_) (fun c9 => ?_)
    · refine r_aload0 (pc := 14) C dX9_back_14 ?_
      refine r_dup (pc := 15) C dX9_back_15 rfl ?_
      refine gX9_213 (pc := 16) C dX9_back_16 ?_
      refine r_iload1 (pc := 19) C dX9_back_19 ?_
      refine r_isub (pc := 20) C dX9_back_20 ?_
      refine pX9_213 (pc := 21) C dX9_back_21 ?_
      refine r_aload0 (pc := 24) C dX9_back_24 ?_
      refine gX9_213 (pc := 25) C dX9_back_25 ?_
      exact r_ireturn (pc := 28) C dX9_back_28 (by rw [if_pos ⟨c1, Int32.not_lt.mpr c9⟩]; exact ⟨rfl, rfl⟩)
    · refine r_iconst (pc := 12) (v := (-1)) C dX9_back_12 (by decide) ?_
      exact r_ireturn (pc := 13) C dX9_back_13 (by rw [if_neg (fun h => c9 (Int32.not_lt.mp h.2))]; exact ⟨rfl, rfl⟩)
set_option maxHeartbeats 4000000 in
set_option maxRecDepth 100000 in
theorem tX9_place (Y : gY) (hY : Y.2.2.2 = wM) {G : gS} : ∀ l : Launch, gM Y l yX9_place cX9_place 1 (some .int) (0, 0) [.ref (Y.2.1 (100))] G (qi (fun r G' => r = G.1 100 17 ∧ G' = G)) := by
  intro l
  refine gM_of hY rfl (Nat.le_of_ble_eq_true rfl) [some (.ref (Y.2.1 (100)))] rfl rfl ?_
  rintro Z rfl C
  refine r_aload0 (pc := 0) C dX9_place_0 ?_
  refine gX9_37 (pc := 1) C dX9_place_1 ?_
  exact r_ireturn (pc := 4) C dX9_place_4 (⟨rfl, rfl⟩)
set_option maxHeartbeats 4000000 in
set_option maxRecDepth 100000 in
theorem tX9_isTick (Y : gY) (hY : Y.2.2.2 = wM) {G : gS} {x : Int32} : ∀ l : Launch, gM Y l yX9_isTick cX9_isTick 1 (some .boolean) (0, 0) [.int (x)] G (qi (fun r G' => r = bI (belB x (nI 300)) ∧ G' = G)) := by
  intro l
  refine gM_of hY rfl (Nat.le_of_ble_eq_true rfl) [some (.int (x))] rfl rfl ?_
  rintro Z rfl C
  refine r_iload0 (pc := 0) C dX9_isTick_0 ?_
  refine r_if_lt (pc := 1) 15 C dX9_isTick_1 (by decide) (fun c1 => ?_) (fun c1 => ?_)
  · refine r_iconst (pc := 15) (v := nI 0) C dX9_isTick_15 (by decide) ?_
    exact r_zreturn (pc := 16) C dX9_isTick_16 (rfl) (⟨bI_dn (fun h => h.1 c1), rfl⟩)
  · refine r_iload0 (pc := 4) C dX9_isTick_4 ?_
    refine r_sipush (pc := 5) (v := nI 300) C dX9_isTick_5 (by decide) ?_
    refine r_icmp_ge (pc := 8) 15 C dX9_isTick_8 (by decide) (fun c8 => ?_) (fun c8 => ?_)
    · refine r_iconst (pc := 15) (v := nI 0) C dX9_isTick_15 (by decide) ?_
      exact r_zreturn (pc := 16) C dX9_isTick_16 (rfl) (⟨bI_dn (fun h => h.2 c8), rfl⟩)
    · refine r_iconst (pc := 11) (v := nI 1) C dX9_isTick_11 (by decide) ?_
      refine r_goto (pc := 12) 16 C dX9_isTick_12 (by decide) ?_
      exact r_zreturn (pc := 16) C dX9_isTick_16 (rfl) (⟨bI_d ⟨c1, c8⟩, rfl⟩)
set_option maxHeartbeats 4000000 in
set_option maxRecDepth 100000 in
theorem tX9_isMachine (Y : gY) (hY : Y.2.2.2 = wM) {G : gS} {x : Int32} : ∀ l : Launch, gM Y l yX9_isMachine cX9_isMachine 2 (some .boolean) (0, 0) [.ref (Y.2.1 (100)), .int (x)] G (qi (fun r G' => r = bI (belB x (G.1 100 36)) ∧ G' = G)) := by
  intro l
  refine gM_of hY rfl (Nat.le_of_ble_eq_true rfl) [some (.ref (Y.2.1 (100))), some (.int (x))] rfl rfl ?_
  rintro Z rfl C
  refine r_iload1 (pc := 0) C dX9_isMachine_0 ?_
  refine r_if_lt (pc := 1) 16 C dX9_isMachine_1 (by decide) (fun c1 => ?_) (fun c1 => ?_)
  · refine r_iconst (pc := 16) (v := nI 0) C dX9_isMachine_16 (by decide) ?_
    exact r_zreturn (pc := 17) C dX9_isMachine_17 (rfl) (⟨bI_dn (fun h => h.1 c1), rfl⟩)
  · refine r_iload1 (pc := 4) C dX9_isMachine_4 ?_
    refine r_aload0 (pc := 5) C dX9_isMachine_5 ?_
    refine gX9_317 (pc := 6) C dX9_isMachine_6 ?_
    refine r_icmp_ge (pc := 9) 16 C dX9_isMachine_9 (by decide) (fun c9 => ?_) (fun c9 => ?_)
    · refine r_iconst (pc := 16) (v := nI 0) C dX9_isMachine_16 (by decide) ?_
      exact r_zreturn (pc := 17) C dX9_isMachine_17 (rfl) (⟨bI_dn (fun h => h.2 c9), rfl⟩)
    · refine r_iconst (pc := 12) (v := nI 1) C dX9_isMachine_12 (by decide) ?_
      refine r_goto (pc := 13) 17 C dX9_isMachine_13 (by decide) ?_
      exact r_zreturn (pc := 17) C dX9_isMachine_17 (rfl) (⟨bI_d ⟨c1, c9⟩, rfl⟩)
set_option maxHeartbeats 4000000 in
set_option maxRecDepth 100000 in
theorem tX9_isFile (Y : gY) (hY : Y.2.2.2 = wM) {G : gS} {x : Int32} : ∀ l : Launch, gM Y l yX9_isFile cX9_isFile 2 (some .boolean) (0, 0) [.ref (Y.2.1 (100)), .int (x)] G (qi (fun r G' => r = bI (belB x (G.1 100 41)) ∧ G' = G)) := by
  intro l
  refine gM_of hY rfl (Nat.le_of_ble_eq_true rfl) [some (.ref (Y.2.1 (100))), some (.int (x))] rfl rfl ?_
  rintro Z rfl C
  refine r_iload1 (pc := 0) C dX9_isFile_0 ?_
  refine r_if_lt (pc := 1) 16 C dX9_isFile_1 (by decide) (fun c1 => ?_) (fun c1 => ?_)
  · refine r_iconst (pc := 16) (v := nI 0) C dX9_isFile_16 (by decide) ?_
    exact r_zreturn (pc := 17) C dX9_isFile_17 (rfl) (⟨bI_dn (fun h => h.1 c1), rfl⟩)
  · refine r_iload1 (pc := 4) C dX9_isFile_4 ?_
    refine r_aload0 (pc := 5) C dX9_isFile_5 ?_
    refine gX9_320 (pc := 6) C dX9_isFile_6 ?_
    refine r_icmp_ge (pc := 9) 16 C dX9_isFile_9 (by decide) (fun c9 => ?_) (fun c9 => ?_)
    · refine r_iconst (pc := 16) (v := nI 0) C dX9_isFile_16 (by decide) ?_
      exact r_zreturn (pc := 17) C dX9_isFile_17 (rfl) (⟨bI_dn (fun h => h.2 c9), rfl⟩)
    · refine r_iconst (pc := 12) (v := nI 1) C dX9_isFile_12 (by decide) ?_
      refine r_goto (pc := 13) 17 C dX9_isFile_13 (by decide) ?_
      exact r_zreturn (pc := 17) C dX9_isFile_17 (rfl) (⟨bI_d ⟨c1, c9⟩, rfl⟩)
set_option maxHeartbeats 4000000 in
set_option maxRecDepth 100000 in
theorem tX9_width (Y : gY) (hY : Y.2.2.2 = wM) {G : gS} {x : Int32} : ∀ l : Launch, gM Y l yX9_width cX9_width 2 (some .boolean) (0, 0) [.ref (Y.2.1 (100)), .int (x)] G (qi (fun r G' => if ¬ x < nI 1 ∧ ¬ nI 8 < x then (r = nI 1 ∧ G' = sI (sI G 100 44 x) 100 53 (nI 0)) else (r = nI 0 ∧ G' = G))) := by
  intro l
  refine gM_of hY rfl (Nat.le_of_ble_eq_true rfl) [some (.ref (Y.2.1 (100))), some (.int (x))] rfl rfl ?_
  rintro Z rfl C
  refine r_iload1 (pc := 0) C dX9_width_0 ?_
  refine r_iconst (pc := 1) (v := nI 1) C dX9_width_1 (by decide) ?_
  refine r_icmp_lt (pc := 2) 11 C dX9_width_2 (by decide) (fun c2 => ?_) (fun c2 => ?_)
  · refine r_iconst (pc := 11) (v := nI 0) C dX9_width_11 (by decide) ?_
    exact r_zreturn (pc := 12) C dX9_width_12 (rfl) (by rw [if_neg (fun h => h.1 c2)]; exact ⟨rfl, rfl⟩)
  · refine r_iload1 (pc := 5) C dX9_width_5 ?_
    refine r_bipush (pc := 6) (v := nI 8) C dX9_width_6 (by decide) ?_
    refine r_icmp_le (pc := 8) 13 C dX9_width_8 (by decide) (fun c8 => ?_) (fun c8 => ?_)
    · refine r_aload0 (pc := 13) C dX9_width_13 ?_
      refine r_iload1 (pc := 14) C dX9_width_14 ?_
      refine pX9_210 (pc := 15) C dX9_width_15 ?_
      refine r_aload0 (pc := 18) C dX9_width_18 ?_
      refine r_iconst (pc := 19) (v := nI 0) C dX9_width_19 (by decide) ?_
      refine pX9_290 (pc := 20) C dX9_width_20 rfl rfl ?_
      refine r_iconst (pc := 23) (v := nI 1) C dX9_width_23 (by decide) ?_
      exact r_zreturn (pc := 24) C dX9_width_24 (rfl) (by rw [if_pos ⟨c2, Int32.not_lt.mpr c8⟩]; exact ⟨rfl, rfl⟩)
    · refine r_iconst (pc := 11) (v := nI 0) C dX9_width_11 (by decide) ?_
      exact r_zreturn (pc := 12) C dX9_width_12 (rfl) (by rw [if_neg (fun h => c8 (Int32.not_lt.mp h.2))]; exact ⟨rfl, rfl⟩)
set_option maxHeartbeats 4000000 in
set_option maxRecDepth 100000 in
theorem tX9_wake (Y : gY) (hY : Y.2.2.2 = wM) {G : gS} {k t : Int32} : ∀ l : Launch, gM Y l yX9_wake cX9_wake 3 (some .boolean) (1, 20) [.ref (Y.2.1 (100)), .int (k), .int (t)] G (qi (fun r G' => if belB k (nI 4) = true ∧ belB t (nI 300) = true then (r = nI 1 ∧ G' = sI (sI G 40 (cN k) t) 100 53 (nI 0)) else (r = nI 0 ∧ G' = G))) := by
  intro l
  refine gM_of hY rfl (Nat.le_of_ble_eq_true rfl) [some (.ref (Y.2.1 (100))), some (.int (k)), some (.int (t))] rfl rfl ?_
  rintro Z rfl C
  refine r_iload1 (pc := 0) C dX9_wake_0 ?_
  refine r_if_lt (pc := 1) 16 C dX9_wake_1 (by decide) (fun c1 => ?_) (fun c1 => ?_)
  · refine r_iconst (pc := 16) (v := nI 0) C dX9_wake_16 (by decide) ?_
    exact r_zreturn (pc := 17) C dX9_wake_17 (rfl) (by rw [if_neg (fun h => ((belB_m (b := 3) (by decide)).mp h.1).1 c1)]; exact ⟨rfl, rfl⟩)
  · refine r_iload1 (pc := 4) C dX9_wake_4 ?_
    refine r_iconst (pc := 5) (v := nI 3) C dX9_wake_5 (by decide) ?_
    refine r_icmp_gt (pc := 6) 16 C dX9_wake_6 (by decide) (fun c6 => ?_) (fun c6 => ?_)
    · refine r_iconst (pc := 16) (v := nI 0) C dX9_wake_16 (by decide) ?_
      exact r_zreturn (pc := 17) C dX9_wake_17 (rfl) (by rw [if_neg (fun h => ((belB_m (b := 3) (by decide)).mp h.1).2 c6)]; exact ⟨rfl, rfl⟩)
    · refine r_iload2 (pc := 9) C dX9_wake_9 ?_
      refine r_callSi (pc := 10) C rfl dX9_wake_10 kX9_323 (tX9_isTick Z.1 C.w) rfl rfl (Nat.le_of_ble_eq_true rfl) (by decide) (fun x10 G10 h10 => ?_)
      obtain ⟨rfl, h10b⟩ := h10
      have h10b := h10b.symm
      subst h10b
      refine r_if_ne (pc := 13) 18 C dX9_wake_13 (by decide) (fun c13 => ?_) (fun c13 => ?_)
      · have hkb : belB k (nI 4) = true := (belB_m (b := 3) (by decide)).mpr ⟨c1, c6⟩
        obtain ⟨j, hj, rfl⟩ := belB_t hkb (by decide)
        refine r_aload0 (pc := 18) C dX9_wake_18 ?_
        refine gX9_95 (pc := 19) C dX9_wake_19 ?_
        refine r_iload1 (pc := 22) C dX9_wake_22 ?_
        refine r_iload2 (pc := 23) C dX9_wake_23 ?_
        refine r_iast (pc := 24) (_) C dX9_wake_24 aM40 (rfl) (by omega) ?_
        refine r_aload0 (pc := 25) C dX9_wake_25 ?_
        refine r_iconst (pc := 26) (v := nI 0) C dX9_wake_26 (by decide) ?_
        refine pX9_290 (pc := 27) C dX9_wake_27 rfl rfl ?_
        refine r_iconst (pc := 30) (v := nI 1) C dX9_wake_30 (by decide) ?_
        exact r_zreturn (pc := 31) C dX9_wake_31 (rfl) (by rw [if_pos ⟨hkb, bI_n.mp c13⟩, cN_nI (by omega)]; exact ⟨rfl, rfl⟩)
      · refine r_iconst (pc := 16) (v := nI 0) C dX9_wake_16 (by decide) ?_
        exact r_zreturn (pc := 17) C dX9_wake_17 (rfl) (by rw [if_neg (fun h => by rw [bI_z.mp c13] at h; cases h.2)]; exact ⟨rfl, rfl⟩)
set_option maxHeartbeats 4000000 in
set_option maxRecDepth 100000 in
theorem tX9_machine (Y : gY) (hY : Y.2.2.2 = wM) {G : gS} {mc : Nat} {k p q : Int32} (hmc : G.1 100 36 = nI mc) (hm8 : mc ≤ 8) : ∀ l : Launch, gM Y l yX9_machine cX9_machine 4 (some .int) (0, 0) [.ref (Y.2.1 (100)), .int (k), .int (p), .int (q)] G (qi (fun r G' => if mc < 8 ∧ belB k (nI 4) = true ∧ belB p (nI 8) = true ∧ belB q (nI 100) = true then (r = nI mc ∧ G' = sI (sI (sI (sI (sI G 37 mc k) 38 mc p) 39 mc q) 100 36 (nI (mc + 1))) 100 53 (nI 0)) else (r = -1 ∧ G' = G))) := by
  intro l
  refine gM_of hY rfl (Nat.le_of_ble_eq_true rfl) [some (.ref (Y.2.1 (100))), some (.int (k)), some (.int (p)), some (.int (q))] rfl rfl ?_
  rintro Z rfl C
  refine r_aload0 (pc := 0) C dX9_machine_0 ?_
  refine gX9_317 (pc := 1) C dX9_machine_1 ?_
  refine r_eqi hmc ?_
  refine r_bipush (pc := 4) (v := nI 8) C dX9_machine_4 (by decide) ?_
  refine r_icmp_eq (pc := 6) 38 C dX9_machine_6 (by decide) (fun c6 => ?_) (fun c6 => ?_)
  · have d6 : mc = 8 := (nI_eq (by omega) (by decide)).mp c6
    refine r_iconst (pc := 38) (v := (-1)) C dX9_machine_38 (by decide) ?_
    exact r_ireturn (pc := 39) C dX9_machine_39 (by rw [if_neg (fun h => absurd h.1 (by omega))]; exact ⟨rfl, rfl⟩)
  · have d6 : mc < 8 := by
      rcases Nat.lt_or_ge mc 8 with h | h
      · exact h
      · exact absurd (by rw [show mc = 8 by omega]) c6
    refine r_iload1 (pc := 9) C dX9_machine_9 ?_
    refine r_if_lt (pc := 10) 38 C dX9_machine_10 (by decide) (fun c10 => ?_) (fun c10 => ?_)
    · refine r_iconst (pc := 38) (v := (-1)) C dX9_machine_38 (by decide) ?_
      exact r_ireturn (pc := 39) C dX9_machine_39 (by rw [if_neg (fun h => ((belB_m (b := 3) (by decide)).mp h.2.1).1 c10)]; exact ⟨rfl, rfl⟩)
    · refine r_iload1 (pc := 13) C dX9_machine_13 ?_
      refine r_iconst (pc := 14) (v := nI 3) C dX9_machine_14 (by decide) ?_
      refine r_icmp_gt (pc := 15) 38 C dX9_machine_15 (by decide) (fun c15 => ?_) (fun c15 => ?_)
      · refine r_iconst (pc := 38) (v := (-1)) C dX9_machine_38 (by decide) ?_
        exact r_ireturn (pc := 39) C dX9_machine_39 (by rw [if_neg (fun h => ((belB_m (b := 3) (by decide)).mp h.2.1).2 c15)]; exact ⟨rfl, rfl⟩)
      · refine r_iload2 (pc := 18) C dX9_machine_18 ?_
        refine r_if_lt (pc := 19) 38 C dX9_machine_19 (by decide) (fun c19 => ?_) (fun c19 => ?_)
        · refine r_iconst (pc := 38) (v := (-1)) C dX9_machine_38 (by decide) ?_
          exact r_ireturn (pc := 39) C dX9_machine_39 (by rw [if_neg (fun h => ((belB_m (b := 7) (by decide)).mp h.2.2.1).1 c19)]; exact ⟨rfl, rfl⟩)
        · refine r_iload2 (pc := 22) C dX9_machine_22 ?_
          refine r_bipush (pc := 23) (v := nI 7) C dX9_machine_23 (by decide) ?_
          refine r_icmp_gt (pc := 25) 38 C dX9_machine_25 (by decide) (fun c25 => ?_) (fun c25 => ?_)
          · refine r_iconst (pc := 38) (v := (-1)) C dX9_machine_38 (by decide) ?_
            exact r_ireturn (pc := 39) C dX9_machine_39 (by rw [if_neg (fun h => ((belB_m (b := 7) (by decide)).mp h.2.2.1).2 c25)]; exact ⟨rfl, rfl⟩)
          · refine r_iload3 (pc := 28) C dX9_machine_28 ?_
            refine r_if_lt (pc := 29) 38 C dX9_machine_29 (by decide) (fun c29 => ?_) (fun c29 => ?_)
            · refine r_iconst (pc := 38) (v := (-1)) C dX9_machine_38 (by decide) ?_
              exact r_ireturn (pc := 39) C dX9_machine_39 (by rw [if_neg (fun h => ((belB_m (b := 99) (by decide)).mp h.2.2.2).1 c29)]; exact ⟨rfl, rfl⟩)
            · refine r_iload3 (pc := 32) C dX9_machine_32 ?_
              refine r_bipush (pc := 33) (v := nI 99) C dX9_machine_33 (by decide) ?_
              refine r_icmp_le (pc := 35) 40 C dX9_machine_35 (by decide) (fun c35 => ?_) (fun c35 => ?_)
              · refine r_aload0 (pc := 40) C dX9_machine_40 ?_
                refine gX9_86 (pc := 41) C dX9_machine_41 ?_
                refine r_aload0 (pc := 44) C dX9_machine_44 ?_
                refine gX9_317 (pc := 45) C dX9_machine_45 ?_
                refine r_eqi hmc ?_
                refine r_iload1 (pc := 48) C dX9_machine_48 ?_
                refine r_iast (pc := 49) (_) C dX9_machine_49 aM37 (rfl) (by omega) ?_
                refine r_aload0 (pc := 50) C dX9_machine_50 ?_
                refine gX9_89 (pc := 51) C dX9_machine_51 ?_
                refine r_aload0 (pc := 54) C dX9_machine_54 ?_
                refine gX9_317 (pc := 55) C dX9_machine_55 ?_
                refine r_eqi (y := nI mc) (by rw [sI_o (by decide)]; exact hmc) ?_
                refine r_iload2 (pc := 58) C dX9_machine_58 ?_
                refine r_iast (pc := 59) (_) C dX9_machine_59 aM38 (rfl) (by omega) ?_
                refine r_aload0 (pc := 60) C dX9_machine_60 ?_
                refine gX9_92 (pc := 61) C dX9_machine_61 ?_
                refine r_aload0 (pc := 64) C dX9_machine_64 ?_
                refine gX9_317 (pc := 65) C dX9_machine_65 ?_
                refine r_eqi (y := nI mc) (by rw [sI_o (by decide), sI_o (by decide)]; exact hmc) ?_
                refine r_iload3 (pc := 68) C dX9_machine_68 ?_
                refine r_iast (pc := 69) (_) C dX9_machine_69 aM39 (rfl) (by omega) ?_
                refine r_aload0 (pc := 70) C dX9_machine_70 ?_
                refine r_dup (pc := 71) C dX9_machine_71 rfl ?_
                refine gX9_317 (pc := 72) C dX9_machine_72 ?_
                refine r_eqi (y := nI mc) (by rw [sI_o (by decide), sI_o (by decide), sI_o (by decide)]; exact hmc) ?_
                refine r_iconst (pc := 75) (v := nI 1) C dX9_machine_75 (by decide) ?_
                refine r_iadd (pc := 76) C dX9_machine_76 ?_
                refine r_eqi (nI_add mc 1) ?_
                refine pX9_317 (pc := 77) C dX9_machine_77 ?_
                refine r_aload0 (pc := 80) C dX9_machine_80 ?_
                refine r_iconst (pc := 81) (v := nI 0) C dX9_machine_81 (by decide) ?_
                refine pX9_290 (pc := 82) C dX9_machine_82 rfl rfl ?_
                refine r_aload0 (pc := 85) C dX9_machine_85 ?_
                refine gX9_317 (pc := 86) C dX9_machine_86 ?_
                refine r_eqi (y := nI (mc + 1)) (by rw [sI_s, upd_o (by decide), sI_s, upd_s]) ?_
                refine r_iconst (pc := 89) (v := nI 1) C dX9_machine_89 (by decide) ?_
                refine r_isub (pc := 90) C dX9_machine_90 ?_
                refine r_eqi (y := nI mc) (pk_sub (a := mc + 1) (b := 1) (by omega)) ?_
                exact r_ireturn (pc := 91) C dX9_machine_91 (by rw [if_pos ⟨d6, (belB_m (b := 3) (by decide)).mpr ⟨c10, c15⟩, (belB_m (b := 7) (by decide)).mpr ⟨c19, c25⟩, (belB_m (b := 99) (by decide)).mpr ⟨c29, Int32.not_lt.mpr c35⟩⟩]; exact ⟨rfl, rfl⟩)
              · refine r_iconst (pc := 38) (v := (-1)) C dX9_machine_38 (by decide) ?_
                exact r_ireturn (pc := 39) C dX9_machine_39 (by rw [if_neg (fun h => ((belB_m (b := 99) (by decide)).mp h.2.2.2).2 (Int32.not_le.mp c35))]; exact ⟨rfl, rfl⟩)
theorem lt6 {x : Int32} (h : x < nI 6) : x ≤ nI 5 := by
  rw [Int32.lt_iff_toInt_lt] at h
  rw [Int32.le_iff_toInt_le]
  have e1 : (nI 6).toInt = 6 := by decide
  have e2 : (nI 5).toInt = 5 := by decide
  omega
theorem le5 {x : Int32} (h : x ≤ nI 5) : x < nI 6 := by
  rw [Int32.le_iff_toInt_le] at h
  rw [Int32.lt_iff_toInt_lt]
  have e1 : (nI 6).toInt = 6 := by decide
  have e2 : (nI 5).toInt = 5 := by decide
  omega
set_option maxHeartbeats 4000000 in
set_option maxRecDepth 100000 in
theorem tX9_file (Y : gY) (hY : Y.2.2.2 = wM) {G : gS} {fc : Nat} {b q : Int32} (hfc : G.1 100 41 = nI fc) (hf6 : fc ≤ 6) : ∀ l : Launch, gM Y l yX9_file cX9_file 3 (some .int) (0, 0) [.ref (Y.2.1 (100)), .int (b), .int (q)] G (qi (fun r G' => if fc < 6 ∧ ¬ b < nI 1 ∧ ¬ nI 12 < b ∧ ¬ q < -1 ∧ q < nI 6 then (r = nI fc ∧ G' = sI (sI (sI (sI G 42 fc b) 43 fc q) 100 41 (nI (fc + 1))) 100 53 (nI 0)) else (r = -1 ∧ G' = G))) := by
  intro l
  refine gM_of hY rfl (Nat.le_of_ble_eq_true rfl) [some (.ref (Y.2.1 (100))), some (.int (b)), some (.int (q))] rfl rfl ?_
  rintro Z rfl C
  refine r_aload0 (pc := 0) C dX9_file_0 ?_
  refine gX9_320 (pc := 1) C dX9_file_1 ?_
  refine r_eqi hfc ?_
  refine r_bipush (pc := 4) (v := nI 6) C dX9_file_4 (by decide) ?_
  refine r_icmp_eq (pc := 6) 30 C dX9_file_6 (by decide) (fun c6 => ?_) (fun c6 => ?_)
  · have d6 : fc = 6 := (nI_eq (by omega) (by decide)).mp c6
    refine r_iconst (pc := 30) (v := (-1)) C dX9_file_30 (by decide) ?_
    exact r_ireturn (pc := 31) C dX9_file_31 (by rw [if_neg (fun h => absurd h.1 (by omega))]; exact ⟨rfl, rfl⟩)
  · have d6 : fc < 6 := by
      rcases Nat.lt_or_ge fc 6 with h | h
      · exact h
      · exact absurd (by rw [show fc = 6 by omega]) c6
    refine r_iload1 (pc := 9) C dX9_file_9 ?_
    refine r_iconst (pc := 10) (v := nI 1) C dX9_file_10 (by decide) ?_
    refine r_icmp_lt (pc := 11) 30 C dX9_file_11 (by decide) (fun c11 => ?_) (fun c11 => ?_)
    · refine r_iconst (pc := 30) (v := (-1)) C dX9_file_30 (by decide) ?_
      exact r_ireturn (pc := 31) C dX9_file_31 (by rw [if_neg (fun h => h.2.1 c11)]; exact ⟨rfl, rfl⟩)
    · refine r_iload1 (pc := 14) C dX9_file_14 ?_
      refine r_bipush (pc := 15) (v := nI 12) C dX9_file_15 (by decide) ?_
      refine r_icmp_gt (pc := 17) 30 C dX9_file_17 (by decide) (fun c17 => ?_) (fun c17 => ?_)
      · refine r_iconst (pc := 30) (v := (-1)) C dX9_file_30 (by decide) ?_
        exact r_ireturn (pc := 31) C dX9_file_31 (by rw [if_neg (fun h => h.2.2.1 c17)]; exact ⟨rfl, rfl⟩)
      · refine r_iload2 (pc := 20) C dX9_file_20 ?_
        refine r_iconst (pc := 21) (v := (-1)) C dX9_file_21 (by decide) ?_
        refine r_icmp_lt (pc := 22) 30 C dX9_file_22 (by decide) (fun c22 => ?_) (fun c22 => ?_)
        · refine r_iconst (pc := 30) (v := (-1)) C dX9_file_30 (by decide) ?_
          exact r_ireturn (pc := 31) C dX9_file_31 (by rw [if_neg (fun h => h.2.2.2.1 c22)]; exact ⟨rfl, rfl⟩)
        · refine r_iload2 (pc := 25) C dX9_file_25 ?_
          refine r_iconst (pc := 26) (v := nI 5) C dX9_file_26 (by decide) ?_
          refine r_icmp_le (pc := 27) 32 C dX9_file_27 (by decide) (fun c27 => ?_) (fun c27 => ?_)
          · refine r_aload0 (pc := 32) C dX9_file_32 ?_
            refine gX9_98 (pc := 33) C dX9_file_33 ?_
            refine r_aload0 (pc := 36) C dX9_file_36 ?_
            refine gX9_320 (pc := 37) C dX9_file_37 ?_
            refine r_eqi hfc ?_
            refine r_iload1 (pc := 40) C dX9_file_40 ?_
            refine r_iast (pc := 41) (_) C dX9_file_41 aM42 (rfl) (by omega) ?_
            refine r_aload0 (pc := 42) C dX9_file_42 ?_
            refine gX9_101 (pc := 43) C dX9_file_43 ?_
            refine r_aload0 (pc := 46) C dX9_file_46 ?_
            refine gX9_320 (pc := 47) C dX9_file_47 ?_
            refine r_eqi (y := nI fc) (by rw [sI_o (by decide)]; exact hfc) ?_
            refine r_iload2 (pc := 50) C dX9_file_50 ?_
            refine r_iast (pc := 51) (_) C dX9_file_51 aM43 (rfl) (by omega) ?_
            refine r_aload0 (pc := 52) C dX9_file_52 ?_
            refine r_dup (pc := 53) C dX9_file_53 rfl ?_
            refine gX9_320 (pc := 54) C dX9_file_54 ?_
            refine r_eqi (y := nI fc) (by rw [sI_o (by decide), sI_o (by decide)]; exact hfc) ?_
            refine r_iconst (pc := 57) (v := nI 1) C dX9_file_57 (by decide) ?_
            refine r_iadd (pc := 58) C dX9_file_58 ?_
            refine r_eqi (nI_add fc 1) ?_
            refine pX9_320 (pc := 59) C dX9_file_59 ?_
            refine r_aload0 (pc := 62) C dX9_file_62 ?_
            refine r_iconst (pc := 63) (v := nI 0) C dX9_file_63 (by decide) ?_
            refine pX9_290 (pc := 64) C dX9_file_64 rfl rfl ?_
            refine r_aload0 (pc := 67) C dX9_file_67 ?_
            refine gX9_320 (pc := 68) C dX9_file_68 ?_
            refine r_eqi (y := nI (fc + 1)) (by rw [sI_s, upd_o (by decide), sI_s, upd_s]) ?_
            refine r_iconst (pc := 71) (v := nI 1) C dX9_file_71 (by decide) ?_
            refine r_isub (pc := 72) C dX9_file_72 ?_
            refine r_eqi (y := nI fc) (pk_sub (a := fc + 1) (b := 1) (by omega)) ?_
            exact r_ireturn (pc := 73) C dX9_file_73 (by rw [if_pos ⟨d6, c11, c17, c22, le5 c27⟩]; exact ⟨rfl, rfl⟩)
          · refine r_iconst (pc := 30) (v := (-1)) C dX9_file_30 (by decide) ?_
            exact r_ireturn (pc := 31) C dX9_file_31 (by rw [if_neg (fun h => c27 (lt6 h.2.2.2.2))]; exact ⟨rfl, rfl⟩)
set_option maxHeartbeats 4000000 in
set_option maxRecDepth 100000 in
theorem tX9_fact (Y : gY) (hY : Y.2.2.2 = wM) {G : gS} {n : Nat} (hf : G.1 100 45 = nI n) : ∀ l : Launch, gM Y l yX9_fact cX9_fact 1 (some .int) (0, 0) [.ref (Y.2.1 (100))] G (qi (fun r G' => r = nI n ∧ G' = sI (sI G 100 45 (nI (n + 1))) 100 53 (nI 0))) := by
  intro l
  refine gM_of hY rfl (Nat.le_of_ble_eq_true rfl) [some (.ref (Y.2.1 (100)))] rfl rfl ?_
  rintro Z rfl C
  refine r_aload0 (pc := 0) C dX9_fact_0 ?_
  refine r_dup (pc := 1) C dX9_fact_1 rfl ?_
  refine gX9_326 (pc := 2) C dX9_fact_2 ?_
  refine r_eqi hf ?_
  refine r_iconst (pc := 5) (v := nI 1) C dX9_fact_5 (by decide) ?_
  refine r_iadd (pc := 6) C dX9_fact_6 ?_
  refine r_eqi (nI_add n 1) ?_
  refine pX9_326 (pc := 7) C dX9_fact_7 ?_
  refine r_aload0 (pc := 10) C dX9_fact_10 ?_
  refine r_iconst (pc := 11) (v := nI 0) C dX9_fact_11 (by decide) ?_
  refine pX9_290 (pc := 12) C dX9_fact_12 rfl rfl ?_
  refine r_aload0 (pc := 15) C dX9_fact_15 ?_
  refine gX9_326 (pc := 16) C dX9_fact_16 ?_
  refine r_eqi (y := nI (n + 1)) (by rw [sI_s, upd_o (by decide), sI_s, upd_s]) ?_
  refine r_iconst (pc := 19) (v := nI 1) C dX9_fact_19 (by decide) ?_
  refine r_isub (pc := 20) C dX9_fact_20 ?_
  refine r_eqi (y := nI n) (pk_sub (a := n + 1) (b := 1) (by omega)) ?_
  exact r_ireturn (pc := 21) C dX9_fact_21 (⟨rfl, rfl⟩)
set_option maxHeartbeats 4000000 in
set_option maxRecDepth 100000 in
theorem tX9_lose (Y : gY) (hY : Y.2.2.2 = wM) {G : gS} {mc n : Nat} {m t : Int32} (hmc : G.1 100 36 = nI mc) (hm8 : mc ≤ 8) (hf : G.1 100 45 = nI n) (hn : n ≤ 200) : ∀ l : Launch, gM Y l yX9_lose cX9_lose 3 (some .int) (1, 21) [.ref (Y.2.1 (100)), .int (m), .int (t)] G (qi (fun r G' => if n < 200 ∧ belB m (nI mc) = true ∧ belB t (nI 300) = true then (r = nI n ∧ G' = sI (sI (sI G 46 (300 * cN m + cN t) (nI 1)) 100 45 (nI (n + 1))) 100 53 (nI 0)) else (r = -1 ∧ G' = G))) := by
  intro l
  refine gM_of hY rfl (Nat.le_of_ble_eq_true rfl) [some (.ref (Y.2.1 (100))), some (.int (m)), some (.int (t))] rfl rfl ?_
  rintro Z rfl C
  refine r_aload0 (pc := 0) C dX9_lose_0 ?_
  refine gX9_326 (pc := 1) C dX9_lose_1 ?_
  refine r_eqi hf ?_
  refine r_sipush (pc := 4) (v := nI 200) C dX9_lose_4 (by decide) ?_
  refine r_icmp_eq (pc := 7) 25 C dX9_lose_7 (by decide) (fun c7 => ?_) (fun c7 => ?_)
  · have d7 : n = 200 := (nI_eq (by omega) (by decide)).mp c7
    refine r_iconst (pc := 25) (v := (-1)) C dX9_lose_25 (by decide) ?_
    exact r_ireturn (pc := 26) C dX9_lose_26 (by rw [if_neg (fun h => absurd h.1 (by omega))]; exact ⟨rfl, rfl⟩)
  · have d7 : n < 200 := by
      rcases Nat.lt_or_ge n 200 with h | h
      · exact h
      · exact absurd (by rw [show n = 200 by omega]) c7
    refine r_aload0 (pc := 10) C dX9_lose_10 ?_
    refine r_iload1 (pc := 11) C dX9_lose_11 ?_
    refine r_callVi (pc := 12) C rfl dX9_lose_12 kX9_329 gF9 jM (tX9_isMachine Z.1 C.w) rfl rfl (Nat.le_of_ble_eq_true rfl) (by decide) (fun x12 G12 h12 => ?_)
    obtain ⟨rfl, h12b⟩ := h12
    have h12b := h12b.symm
    subst h12b
    refine r_eqi (y := bI (belB m (nI mc))) (by rw [hmc]) ?_
    refine r_if_eq (pc := 15) 25 C dX9_lose_15 (by decide) (fun c15 => ?_) (fun c15 => ?_)
    · refine r_iconst (pc := 25) (v := (-1)) C dX9_lose_25 (by decide) ?_
      exact r_ireturn (pc := 26) C dX9_lose_26 (by rw [if_neg (fun h => by rw [bI_z.mp c15] at h; cases h.2.1)]; exact ⟨rfl, rfl⟩)
    · refine r_iload2 (pc := 18) C dX9_lose_18 ?_
      refine r_callSi (pc := 19) C rfl dX9_lose_19 kX9_323 (tX9_isTick Z.1 C.w) rfl rfl (Nat.le_of_ble_eq_true rfl) (by decide) (fun x19 G19 h19 => ?_)
      obtain ⟨rfl, h19b⟩ := h19
      have h19b := h19b.symm
      subst h19b
      refine r_if_ne (pc := 22) 27 C dX9_lose_22 (by decide) (fun c22 => ?_) (fun c22 => ?_)
      · obtain ⟨i, hi, rfl⟩ := belB_t (bI_n.mp c15) (by omega)
        obtain ⟨x, hx, rfl⟩ := belB_t (bI_n.mp c22) (by decide)
        refine r_aload0 (pc := 27) C dX9_lose_27 ?_
        refine gX9_104 (pc := 28) C dX9_lose_28 ?_
        refine r_sipush (pc := 31) (v := nI 300) C dX9_lose_31 (by decide) ?_
        refine r_iload1 (pc := 34) C dX9_lose_34 ?_
        refine r_imul (pc := 35) C dX9_lose_35 ?_
        refine r_eqi (pk_mul 300 i) ?_
        refine r_iload2 (pc := 36) C dX9_lose_36 ?_
        refine r_iadd (pc := 37) C dX9_lose_37 ?_
        refine r_eqi (nI_add _ _) ?_
        refine r_iconst (pc := 38) (v := nI 1) C dX9_lose_38 (by decide) ?_
        refine r_zast (pc := 39) (_) C dX9_lose_39 aM46 (rfl) (by omega) (rfl) ?_
        refine r_aload0 (pc := 40) C dX9_lose_40 ?_
        refine r_callVi (pc := 41) C rfl dX9_lose_41 kX9_332 gF9 jM (tX9_fact Z.1 C.w (n := n) (by rw [sI_o (by decide)]; exact hf)) rfl rfl (Nat.le_of_ble_eq_true rfl) (by decide) (fun x41 G41 h41 => ?_)
        exact r_ireturn (pc := 44) C dX9_lose_44 (by
  rw [if_pos ⟨d7, bI_n.mp c15, bI_n.mp c22⟩, cN_nI (by omega), cN_nI (by omega)]
  exact h41)
      · refine r_iconst (pc := 25) (v := (-1)) C dX9_lose_25 (by decide) ?_
        exact r_ireturn (pc := 26) C dX9_lose_26 (by rw [if_neg (fun h => by rw [bI_z.mp c22] at h; cases h.2.2)]; exact ⟨rfl, rfl⟩)
set_option maxHeartbeats 4000000 in
set_option maxRecDepth 100000 in
theorem tX9_cut_ (Y : gY) (hY : Y.2.2.2 = wM) {G : gS} {mc n : Nat} {m t : Int32} (hmc : G.1 100 36 = nI mc) (hm8 : mc ≤ 8) (hf : G.1 100 45 = nI n) (hn : n ≤ 200) : ∀ l : Launch, gM Y l yX9_cut_ cX9_cut_ 3 (some .int) (1, 21) [.ref (Y.2.1 (100)), .int (m), .int (t)] G (qi (fun r G' => if n < 200 ∧ belB m (nI mc) = true ∧ belB t (nI 300) = true then (r = nI n ∧ G' = sI (sI (sI G 47 (300 * cN m + cN t) (nI 1)) 100 45 (nI (n + 1))) 100 53 (nI 0)) else (r = -1 ∧ G' = G))) := by
  intro l
  refine gM_of hY rfl (Nat.le_of_ble_eq_true rfl) [some (.ref (Y.2.1 (100))), some (.int (m)), some (.int (t))] rfl rfl ?_
  rintro Z rfl C
  refine r_aload0 (pc := 0) C dX9_cut__0 ?_
  refine gX9_326 (pc := 1) C dX9_cut__1 ?_
  refine r_eqi hf ?_
  refine r_sipush (pc := 4) (v := nI 200) C dX9_cut__4 (by decide) ?_
  refine r_icmp_eq (pc := 7) 25 C dX9_cut__7 (by decide) (fun c7 => ?_) (fun c7 => ?_)
  · have d7 : n = 200 := (nI_eq (by omega) (by decide)).mp c7
    refine r_iconst (pc := 25) (v := (-1)) C dX9_cut__25 (by decide) ?_
    exact r_ireturn (pc := 26) C dX9_cut__26 (by rw [if_neg (fun h => absurd h.1 (by omega))]; exact ⟨rfl, rfl⟩)
  · have d7 : n < 200 := by
      rcases Nat.lt_or_ge n 200 with h | h
      · exact h
      · exact absurd (by rw [show n = 200 by omega]) c7
    refine r_aload0 (pc := 10) C dX9_cut__10 ?_
    refine r_iload1 (pc := 11) C dX9_cut__11 ?_
    refine r_callVi (pc := 12) C rfl dX9_cut__12 kX9_329 gF9 jM (tX9_isMachine Z.1 C.w) rfl rfl (Nat.le_of_ble_eq_true rfl) (by decide) (fun x12 G12 h12 => ?_)
    obtain ⟨rfl, h12b⟩ := h12
    have h12b := h12b.symm
    subst h12b
    refine r_eqi (y := bI (belB m (nI mc))) (by rw [hmc]) ?_
    refine r_if_eq (pc := 15) 25 C dX9_cut__15 (by decide) (fun c15 => ?_) (fun c15 => ?_)
    · refine r_iconst (pc := 25) (v := (-1)) C dX9_cut__25 (by decide) ?_
      exact r_ireturn (pc := 26) C dX9_cut__26 (by rw [if_neg (fun h => by rw [bI_z.mp c15] at h; cases h.2.1)]; exact ⟨rfl, rfl⟩)
    · refine r_iload2 (pc := 18) C dX9_cut__18 ?_
      refine r_callSi (pc := 19) C rfl dX9_cut__19 kX9_323 (tX9_isTick Z.1 C.w) rfl rfl (Nat.le_of_ble_eq_true rfl) (by decide) (fun x19 G19 h19 => ?_)
      obtain ⟨rfl, h19b⟩ := h19
      have h19b := h19b.symm
      subst h19b
      refine r_if_ne (pc := 22) 27 C dX9_cut__22 (by decide) (fun c22 => ?_) (fun c22 => ?_)
      · obtain ⟨i, hi, rfl⟩ := belB_t (bI_n.mp c15) (by omega)
        obtain ⟨x, hx, rfl⟩ := belB_t (bI_n.mp c22) (by decide)
        refine r_aload0 (pc := 27) C dX9_cut__27 ?_
        refine gX9_107 (pc := 28) C dX9_cut__28 ?_
        refine r_sipush (pc := 31) (v := nI 300) C dX9_cut__31 (by decide) ?_
        refine r_iload1 (pc := 34) C dX9_cut__34 ?_
        refine r_imul (pc := 35) C dX9_cut__35 ?_
        refine r_eqi (pk_mul 300 i) ?_
        refine r_iload2 (pc := 36) C dX9_cut__36 ?_
        refine r_iadd (pc := 37) C dX9_cut__37 ?_
        refine r_eqi (nI_add _ _) ?_
        refine r_iconst (pc := 38) (v := nI 1) C dX9_cut__38 (by decide) ?_
        refine r_zast (pc := 39) (_) C dX9_cut__39 aM47 (rfl) (by omega) (rfl) ?_
        refine r_aload0 (pc := 40) C dX9_cut__40 ?_
        refine r_callVi (pc := 41) C rfl dX9_cut__41 kX9_332 gF9 jM (tX9_fact Z.1 C.w (n := n) (by rw [sI_o (by decide)]; exact hf)) rfl rfl (Nat.le_of_ble_eq_true rfl) (by decide) (fun x41 G41 h41 => ?_)
        exact r_ireturn (pc := 44) C dX9_cut__44 (by
  rw [if_pos ⟨d7, bI_n.mp c15, bI_n.mp c22⟩, cN_nI (by omega), cN_nI (by omega)]
  exact h41)
      · refine r_iconst (pc := 25) (v := (-1)) C dX9_cut__25 (by decide) ?_
        exact r_ireturn (pc := 26) C dX9_cut__26 (by rw [if_neg (fun h => by rw [bI_z.mp c22] at h; cases h.2.2)]; exact ⟨rfl, rfl⟩)
