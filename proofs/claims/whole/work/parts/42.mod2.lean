/-! the reference: a MACHINE's row out of its arrays -/
def mrL : List Nat := [37, 38, 39, 67, 70, 71, 73, 74, 75, 76, 77, 78, 79, 69, 72, 68]
def mr (k : Nat) : Nat := mrL.getD k 0
def mmF (G : gS) : Nat → Nat → Int32 := fun i => if i < 8 then (fun k => if k < 16 then G.1 (mr k) i else 0) else fun _ => 0
theorem mr_inj : ∀ j, j < 16 → ∀ k, k < 16 → mr j = mr k → j = k := by decide +kernel
theorem mmF_i {G : gS} {i k : Nat} (hi : i < 8) (hk : k < 16) : mmF G i k = G.1 (mr k) i := by
  unfold mmF; rw [if_pos hi]; exact if_pos hk
theorem mmF_s {G : gS} {i k : Nat} {v : Int32} (hi : i < 8) (hk : k < 16) : mmF (sI G (mr k) i v) = va_up (mmF G) i (upd (mmF G i) k v) := by
  funext j q
  by_cases ej : j = i
  · subst ej
    rw [va_up_self]
    by_cases hq : q < 16
    · rw [mmF_i hi hq]
      by_cases eq : q = k
      · subst eq; rw [sI_s, upd_s, upd_s]
      · rw [upd_o eq, mmF_i hi hq, sI_o (fun e => eq (mr_inj q hq k hk e))]
    · rw [upd_o (by omega)]
      unfold mmF
      rw [if_pos hi, if_pos hi]
      show (if q < 16 then _ else _) = (if q < 16 then _ else _)
      rw [if_neg hq, if_neg hq]
  · rw [va_up_ne _ _ ej]
    unfold mmF
    by_cases hj : j < 8
    · rw [if_pos hj, if_pos hj]
      show (if q < 16 then _ else _) = (if q < 16 then _ else _)
      by_cases hq : q < 16
      · rw [if_pos hq, if_pos hq]
        by_cases e : mr q = mr k
        · rw [e, sI_s, upd_o ej]
        · rw [sI_o e]
      · rw [if_neg hq, if_neg hq]
    · rw [if_neg hj, if_neg hj]
theorem mmF_o {G : gS} {r i : Nat} {v : Int32} (h : r ∉ mrL) : mmF (sI G r i v) = mmF G := by
  have hm : ∀ k, k < 16 → mr k ∈ mrL := by decide +kernel
  funext j q
  unfold mmF
  by_cases hj : j < 8
  · rw [if_pos hj, if_pos hj]
    show (if q < 16 then _ else _) = (if q < 16 then _ else _)
    by_cases hq : q < 16
    · rw [if_pos hq, if_pos hq, sI_o (fun e => h (by rw [← e]; exact hm q hq))]
    · rw [if_neg hq, if_neg hq]
  · rw [if_neg hj, if_neg hj]
/-- the roles of the MACHINES' arrays -/
def sMM (q : Nat) : Prop := q ∈ mrL
theorem mm37 {G : gS} {i : Nat} {v : Int32} (hi : i < 8) : mmF (sI G 37 i v) = va_up (mmF G) i (upd (mmF G i) 0 v) := mmF_s (k := 0) hi (by decide)
theorem mg37 {G : gS} {i : Nat} (hi : i < 8) : G.1 37 i = mmF G i 0 := (mmF_i (k := 0) hi (by decide)).symm
theorem sM37 : sMM 37 := by unfold sMM; decide
theorem mm38 {G : gS} {i : Nat} {v : Int32} (hi : i < 8) : mmF (sI G 38 i v) = va_up (mmF G) i (upd (mmF G i) 1 v) := mmF_s (k := 1) hi (by decide)
theorem mg38 {G : gS} {i : Nat} (hi : i < 8) : G.1 38 i = mmF G i 1 := (mmF_i (k := 1) hi (by decide)).symm
theorem sM38 : sMM 38 := by unfold sMM; decide
theorem mm39 {G : gS} {i : Nat} {v : Int32} (hi : i < 8) : mmF (sI G 39 i v) = va_up (mmF G) i (upd (mmF G i) 2 v) := mmF_s (k := 2) hi (by decide)
theorem mg39 {G : gS} {i : Nat} (hi : i < 8) : G.1 39 i = mmF G i 2 := (mmF_i (k := 2) hi (by decide)).symm
theorem sM39 : sMM 39 := by unfold sMM; decide
theorem mm67 {G : gS} {i : Nat} {v : Int32} (hi : i < 8) : mmF (sI G 67 i v) = va_up (mmF G) i (upd (mmF G i) 3 v) := mmF_s (k := 3) hi (by decide)
theorem mg67 {G : gS} {i : Nat} (hi : i < 8) : G.1 67 i = mmF G i 3 := (mmF_i (k := 3) hi (by decide)).symm
theorem sM67 : sMM 67 := by unfold sMM; decide
theorem mm70 {G : gS} {i : Nat} {v : Int32} (hi : i < 8) : mmF (sI G 70 i v) = va_up (mmF G) i (upd (mmF G i) 4 v) := mmF_s (k := 4) hi (by decide)
theorem mg70 {G : gS} {i : Nat} (hi : i < 8) : G.1 70 i = mmF G i 4 := (mmF_i (k := 4) hi (by decide)).symm
theorem sM70 : sMM 70 := by unfold sMM; decide
theorem mm71 {G : gS} {i : Nat} {v : Int32} (hi : i < 8) : mmF (sI G 71 i v) = va_up (mmF G) i (upd (mmF G i) 5 v) := mmF_s (k := 5) hi (by decide)
theorem mg71 {G : gS} {i : Nat} (hi : i < 8) : G.1 71 i = mmF G i 5 := (mmF_i (k := 5) hi (by decide)).symm
theorem sM71 : sMM 71 := by unfold sMM; decide
theorem mm73 {G : gS} {i : Nat} {v : Int32} (hi : i < 8) : mmF (sI G 73 i v) = va_up (mmF G) i (upd (mmF G i) 6 v) := mmF_s (k := 6) hi (by decide)
theorem mg73 {G : gS} {i : Nat} (hi : i < 8) : G.1 73 i = mmF G i 6 := (mmF_i (k := 6) hi (by decide)).symm
theorem sM73 : sMM 73 := by unfold sMM; decide
theorem mm74 {G : gS} {i : Nat} {v : Int32} (hi : i < 8) : mmF (sI G 74 i v) = va_up (mmF G) i (upd (mmF G i) 7 v) := mmF_s (k := 7) hi (by decide)
theorem mg74 {G : gS} {i : Nat} (hi : i < 8) : G.1 74 i = mmF G i 7 := (mmF_i (k := 7) hi (by decide)).symm
theorem sM74 : sMM 74 := by unfold sMM; decide
theorem mm75 {G : gS} {i : Nat} {v : Int32} (hi : i < 8) : mmF (sI G 75 i v) = va_up (mmF G) i (upd (mmF G i) 8 v) := mmF_s (k := 8) hi (by decide)
theorem mg75 {G : gS} {i : Nat} (hi : i < 8) : G.1 75 i = mmF G i 8 := (mmF_i (k := 8) hi (by decide)).symm
theorem sM75 : sMM 75 := by unfold sMM; decide
theorem mm76 {G : gS} {i : Nat} {v : Int32} (hi : i < 8) : mmF (sI G 76 i v) = va_up (mmF G) i (upd (mmF G i) 9 v) := mmF_s (k := 9) hi (by decide)
theorem mg76 {G : gS} {i : Nat} (hi : i < 8) : G.1 76 i = mmF G i 9 := (mmF_i (k := 9) hi (by decide)).symm
theorem sM76 : sMM 76 := by unfold sMM; decide
theorem mm77 {G : gS} {i : Nat} {v : Int32} (hi : i < 8) : mmF (sI G 77 i v) = va_up (mmF G) i (upd (mmF G i) 10 v) := mmF_s (k := 10) hi (by decide)
theorem mg77 {G : gS} {i : Nat} (hi : i < 8) : G.1 77 i = mmF G i 10 := (mmF_i (k := 10) hi (by decide)).symm
theorem sM77 : sMM 77 := by unfold sMM; decide
theorem mm78 {G : gS} {i : Nat} {v : Int32} (hi : i < 8) : mmF (sI G 78 i v) = va_up (mmF G) i (upd (mmF G i) 11 v) := mmF_s (k := 11) hi (by decide)
theorem mg78 {G : gS} {i : Nat} (hi : i < 8) : G.1 78 i = mmF G i 11 := (mmF_i (k := 11) hi (by decide)).symm
theorem sM78 : sMM 78 := by unfold sMM; decide
theorem mm79 {G : gS} {i : Nat} {v : Int32} (hi : i < 8) : mmF (sI G 79 i v) = va_up (mmF G) i (upd (mmF G i) 12 v) := mmF_s (k := 12) hi (by decide)
theorem mg79 {G : gS} {i : Nat} (hi : i < 8) : G.1 79 i = mmF G i 12 := (mmF_i (k := 12) hi (by decide)).symm
theorem sM79 : sMM 79 := by unfold sMM; decide
theorem mm69 {G : gS} {i : Nat} {v : Int32} (hi : i < 8) : mmF (sI G 69 i v) = va_up (mmF G) i (upd (mmF G i) 13 v) := mmF_s (k := 13) hi (by decide)
theorem mg69 {G : gS} {i : Nat} (hi : i < 8) : G.1 69 i = mmF G i 13 := (mmF_i (k := 13) hi (by decide)).symm
theorem sM69 : sMM 69 := by unfold sMM; decide
theorem mm72 {G : gS} {i : Nat} {v : Int32} (hi : i < 8) : mmF (sI G 72 i v) = va_up (mmF G) i (upd (mmF G i) 14 v) := mmF_s (k := 14) hi (by decide)
theorem mg72 {G : gS} {i : Nat} (hi : i < 8) : G.1 72 i = mmF G i 14 := (mmF_i (k := 14) hi (by decide)).symm
theorem sM72 : sMM 72 := by unfold sMM; decide
theorem mm68 {G : gS} {i : Nat} {v : Int32} (hi : i < 8) : mmF (sI G 68 i v) = va_up (mmF G) i (upd (mmF G i) 15 v) := mmF_s (k := 15) hi (by decide)
theorem mg68 {G : gS} {i : Nat} (hi : i < 8) : G.1 68 i = mmF G i 15 := (mmF_i (k := 15) hi (by decide)).symm
theorem sM68 : sMM 68 := by unfold sMM; decide
def mClr (f : Nat → Int32) : Nat → Int32 := upd (upd (upd (upd (upd (upd f 8 (nI 0)) 9 (nI 0)) 10 (nI 0)) 12 (nI 0)) 4 (-1)) 5 (-1)
def mRes (y : Int32) (f : Nat → Int32) : Nat → Int32 := upd (upd (upd (upd (upd f 3 (nI 5)) 7 y) 12 (nI 0)) 4 (-1)) 5 (-1)
theorem mRes_eq (y : Int32) (f : Nat → Int32) : mRes y f = mRescue y f := by
  funext k
  simp only [mRes, mRescue, mEnter, upd]
  by_cases h5 : k = 5
  · simp [h5]
  · by_cases h4 : k = 4
    · simp [h4]
    · by_cases h12 : k = 12
      · simp [h12]
      · by_cases h7 : k = 7
        · simp [h7]
        · simp [h5, h4, h12, h7]
set_option maxHeartbeats 4000000 in
set_option maxRecDepth 100000 in
theorem tX9_clears (Y : gY) (hY : Y.2.2.2 = wM) {G : gS} {i : Nat} (hi : i < 8) : ∀ l : Launch, gM Y l yX9_clears cX9_clears 2 none (0, 0) [.ref (Y.2.1 (100)), .int (nI i)] G (qv (fun G' => Fr sMM G G' ∧ mmF G' = va_up (mmF G) i (mClr (mmF G i)))) := by
  intro l
  refine gM_of hY rfl (Nat.le_of_ble_eq_true rfl) [some (.ref (Y.2.1 (100))), some (.int (nI i))] rfl rfl ?_
  rintro Z rfl C
  refine r_aload0 (pc := 0) C dX9_clears_0 ?_
  refine gX9_182 (pc := 1) C dX9_clears_1 ?_
  refine r_iload1 (pc := 4) C dX9_clears_4 ?_
  refine r_iconst (pc := 5) (v := nI 0) C dX9_clears_5 (by decide) ?_
  refine r_iast (pc := 6) (_) C dX9_clears_6 aM75 (rfl) (by omega) ?_
  refine r_aload0 (pc := 7) C dX9_clears_7 ?_
  refine gX9_185 (pc := 8) C dX9_clears_8 ?_
  refine r_iload1 (pc := 11) C dX9_clears_11 ?_
  refine r_iconst (pc := 12) (v := nI 0) C dX9_clears_12 (by decide) ?_
  refine r_iast (pc := 13) (_) C dX9_clears_13 aM76 (rfl) (by omega) ?_
  refine r_aload0 (pc := 14) C dX9_clears_14 ?_
  refine gX9_188 (pc := 15) C dX9_clears_15 ?_
  refine r_iload1 (pc := 18) C dX9_clears_18 ?_
  refine r_iconst (pc := 19) (v := nI 0) C dX9_clears_19 (by decide) ?_
  refine r_iast (pc := 20) (_) C dX9_clears_20 aM77 (rfl) (by omega) ?_
  refine r_aload0 (pc := 21) C dX9_clears_21 ?_
  refine gX9_194 (pc := 22) C dX9_clears_22 ?_
  refine r_iload1 (pc := 25) C dX9_clears_25 ?_
  refine r_iconst (pc := 26) (v := nI 0) C dX9_clears_26 (by decide) ?_
  refine r_iast (pc := 27) (_) C dX9_clears_27 aM79 (rfl) (by omega) ?_
  refine r_aload0 (pc := 28) C dX9_clears_28 ?_
  refine gX9_167 (pc := 29) C dX9_clears_29 ?_
  refine r_iload1 (pc := 32) C dX9_clears_32 ?_
  refine r_iconst (pc := 33) (v := (-1)) C dX9_clears_33 (by decide) ?_
  refine r_iast (pc := 34) (_) C dX9_clears_34 aM70 (rfl) (by omega) ?_
  refine r_aload0 (pc := 35) C dX9_clears_35 ?_
  refine gX9_170 (pc := 36) C dX9_clears_36 ?_
  refine r_iload1 (pc := 39) C dX9_clears_39 ?_
  refine r_iconst (pc := 40) (v := (-1)) C dX9_clears_40 (by decide) ?_
  refine r_iast (pc := 41) (_) C dX9_clears_41 aM71 (rfl) (by omega) ?_
  exact r_return (pc := 42) C dX9_clears_42 (by
  refine ⟨((((((Fr.refl).sI sM75).sI sM76).sI sM77).sI sM79).sI sM70).sI sM71, ?_⟩
  rw [mm71 hi, mm70 hi, mm79 hi, mm77 hi, mm76 hi, mm75 hi]
  simp only [va_up_self, bx_uu, mClr])
set_option maxHeartbeats 4000000 in
set_option maxRecDepth 100000 in
theorem tX9_rescue (Y : gY) (hY : Y.2.2.2 = wM) {G : gS} {i : Nat} (hi : i < 8) {y : Int32} : ∀ l : Launch, gM Y l yX9_rescue cX9_rescue 3 none (0, 0) [.ref (Y.2.1 (100)), .int (nI i), .int (y)] G (qv (fun G' => Fr sMM G G' ∧ mmF G' = va_up (mmF G) i (mRescue y (mmF G i)))) := by
  intro l
  refine gM_of hY rfl (Nat.le_of_ble_eq_true rfl) [some (.ref (Y.2.1 (100))), some (.int (nI i)), some (.int (y))] rfl rfl ?_
  rintro Z rfl C
  refine r_aload0 (pc := 0) C dX9_rescue_0 ?_
  refine gX9_158 (pc := 1) C dX9_rescue_1 ?_
  refine r_iload1 (pc := 4) C dX9_rescue_4 ?_
  refine r_iconst (pc := 5) (v := nI 5) C dX9_rescue_5 (by decide) ?_
  refine r_iast (pc := 6) (_) C dX9_rescue_6 aM67 (rfl) (by omega) ?_
  refine r_aload0 (pc := 7) C dX9_rescue_7 ?_
  refine gX9_179 (pc := 8) C dX9_rescue_8 ?_
  refine r_iload1 (pc := 11) C dX9_rescue_11 ?_
  refine r_iload2 (pc := 12) C dX9_rescue_12 ?_
  refine r_iast (pc := 13) (_) C dX9_rescue_13 aM74 (rfl) (by omega) ?_
  refine r_aload0 (pc := 14) C dX9_rescue_14 ?_
  refine gX9_194 (pc := 15) C dX9_rescue_15 ?_
  refine r_iload1 (pc := 18) C dX9_rescue_18 ?_
  refine r_iconst (pc := 19) (v := nI 0) C dX9_rescue_19 (by decide) ?_
  refine r_iast (pc := 20) (_) C dX9_rescue_20 aM79 (rfl) (by omega) ?_
  refine r_aload0 (pc := 21) C dX9_rescue_21 ?_
  refine gX9_167 (pc := 22) C dX9_rescue_22 ?_
  refine r_iload1 (pc := 25) C dX9_rescue_25 ?_
  refine r_iconst (pc := 26) (v := (-1)) C dX9_rescue_26 (by decide) ?_
  refine r_iast (pc := 27) (_) C dX9_rescue_27 aM70 (rfl) (by omega) ?_
  refine r_aload0 (pc := 28) C dX9_rescue_28 ?_
  refine gX9_170 (pc := 29) C dX9_rescue_29 ?_
  refine r_iload1 (pc := 32) C dX9_rescue_32 ?_
  refine r_iconst (pc := 33) (v := (-1)) C dX9_rescue_33 (by decide) ?_
  refine r_iast (pc := 34) (_) C dX9_rescue_34 aM71 (rfl) (by omega) ?_
  exact r_return (pc := 35) C dX9_rescue_35 (by
  refine ⟨(((((Fr.refl).sI sM67).sI sM74).sI sM79).sI sM70).sI sM71, ?_⟩
  rw [mm71 hi, mm70 hi, mm79 hi, mm74 hi, mm67 hi]
  simp only [va_up_self, bx_uu, mRes, ← mRes_eq])
set_option maxHeartbeats 4000000 in
set_option maxRecDepth 100000 in
theorem tX9_wants (Y : gY) (hY : Y.2.2.2 = wM) {G : gS} {i : Nat} (hi : i < 8) {t : Int32} : ∀ l : Launch, gM Y l yX9_wants cX9_wants 3 (some .boolean) (0, 0) [.ref (Y.2.1 (100)), .int (nI i), .int (t)] G (qi (fun r G' => r = bI (wantB t (mmF G i)) ∧ G' = G)) := by
  intro l
  refine gM_of hY rfl (Nat.le_of_ble_eq_true rfl) [some (.ref (Y.2.1 (100))), some (.int (nI i)), some (.int (t))] rfl rfl ?_
  rintro Z rfl C
  refine r_aload0 (pc := 0) C dX9_wants_0 ?_
  refine gX9_158 (pc := 1) C dX9_wants_1 ?_
  refine r_iload1 (pc := 4) C dX9_wants_4 ?_
  refine r_iald (pc := 5) (_) C dX9_wants_5 aM67 (rfl) (by omega) ?_
  refine r_eqi (mg67 hi) ?_
  refine r_iconst (pc := 6) (v := nI 2) C dX9_wants_6 (by decide) ?_
  refine r_icmp_ne (pc := 7) 24 C dX9_wants_7 (by decide) (fun c7 => ?_) (fun c7 => ?_)
  · refine r_iconst (pc := 24) (v := nI 0) C dX9_wants_24 (by decide) ?_
    exact r_zreturn (pc := 25) C dX9_wants_25 (rfl) (⟨bI_dn (fun h => c7 h.1), rfl⟩)
  · refine r_aload0 (pc := 10) C dX9_wants_10 ?_
    refine gX9_173 (pc := 11) C dX9_wants_11 ?_
    refine r_iload1 (pc := 14) C dX9_wants_14 ?_
    refine r_iald (pc := 15) (_) C dX9_wants_15 aM72 (rfl) (by omega) ?_
    refine r_eqi (mg72 hi) ?_
    refine r_iload2 (pc := 16) C dX9_wants_16 ?_
    refine r_icmp_gt (pc := 17) 24 C dX9_wants_17 (by decide) (fun c17 => ?_) (fun c17 => ?_)
    · refine r_iconst (pc := 24) (v := nI 0) C dX9_wants_24 (by decide) ?_
      exact r_zreturn (pc := 25) C dX9_wants_25 (rfl) (⟨bI_dn (fun h => h.2 c17), rfl⟩)
    · refine r_iconst (pc := 20) (v := nI 1) C dX9_wants_20 (by decide) ?_
      refine r_goto (pc := 21) 25 C dX9_wants_21 (by decide) ?_
      exact r_zreturn (pc := 25) C dX9_wants_25 (rfl) (⟨bI_d ⟨c7, c17⟩, rfl⟩)
set_option maxHeartbeats 4000000 in
set_option maxRecDepth 100000 in
theorem tX9_wakes (Y : gY) (hY : Y.2.2.2 = wM) {G : gS} {k : Int32} : ∀ l : Launch, gM Y l yX9_wakes cX9_wakes 2 (some .int) (0, 0) [.ref (Y.2.1 (100)), .int (k)] G (qi (fun r G' => if belB k (nI 4) = true then (r = G.1 40 (cN k) ∧ G' = G) else (r = -1 ∧ G' = G))) := by
  intro l
  refine gM_of hY rfl (Nat.le_of_ble_eq_true rfl) [some (.ref (Y.2.1 (100))), some (.int (k))] rfl rfl ?_
  rintro Z rfl C
  refine r_iload1 (pc := 0) C dX9_wakes_0 ?_
  refine r_if_lt (pc := 1) 18 C dX9_wakes_1 (by decide) (fun c1 => ?_) (fun c1 => ?_)
  · refine r_iconst (pc := 18) (v := (-1)) C dX9_wakes_18 (by decide) ?_
    exact r_ireturn (pc := 19) C dX9_wakes_19 (by rw [if_neg (fun h => (of_decide_eq_true h).1 c1)]; exact ⟨rfl, rfl⟩)
  · refine r_iload1 (pc := 4) C dX9_wakes_4 ?_
    refine r_iconst (pc := 5) (v := nI 4) C dX9_wakes_5 (by decide) ?_
    refine r_icmp_ge (pc := 6) 18 C dX9_wakes_6 (by decide) (fun c6 => ?_) (fun c6 => ?_)
    · refine r_iconst (pc := 18) (v := (-1)) C dX9_wakes_18 (by decide) ?_
      exact r_ireturn (pc := 19) C dX9_wakes_19 (by rw [if_neg (fun h => (of_decide_eq_true h).2 c6)]; exact ⟨rfl, rfl⟩)
    · have hkb : belB k (nI 4) = true := decide_eq_true ⟨c1, c6⟩
      obtain ⟨j, hj, rfl⟩ := belB_t hkb (by decide)
      refine r_aload0 (pc := 9) C dX9_wakes_9 ?_
      refine gX9_95 (pc := 10) C dX9_wakes_10 ?_
      refine r_iload1 (pc := 13) C dX9_wakes_13 ?_
      refine r_iald (pc := 14) (_) C dX9_wakes_14 aM40 (rfl) (by omega) ?_
      refine r_goto (pc := 15) 19 C dX9_wakes_15 (by decide) ?_
      exact r_ireturn (pc := 19) C dX9_wakes_19 (by rw [if_pos hkb, cN_nI (by omega)]; exact ⟨rfl, rfl⟩)
set_option maxHeartbeats 4000000 in
set_option maxRecDepth 100000 in
theorem tX9_asks (Y : gY) (hY : Y.2.2.2 = wM) {G : gS} {i : Nat} (hi : i < 8) {a b c d : Int32} : ∀ l : Launch, gM Y l yX9_asks cX9_asks 6 none (0, 0) [.ref (Y.2.1 (100)), .int (nI i), .int (a), .int (b), .int (c), .int (d)] G (qv (fun G' => Fr (fun q => q = 50) G G' ∧ ∀ k, k < 7 → G'.1 50 k = vq (mmF G i 0) (mmF G i 1) (mmF G i 2) a b c d k)) := by
  intro l
  refine gM_of hY rfl (Nat.le_of_ble_eq_true rfl) [some (.ref (Y.2.1 (100))), some (.int (nI i)), some (.int (a)), some (.int (b)), some (.int (c)), some (.int (d))] rfl rfl ?_
  rintro Z rfl C
  refine r_aload0 (pc := 0) C dX9_asks_0 ?_
  refine gX9_116 (pc := 1) C dX9_asks_1 ?_
  refine r_iconst (pc := 4) (v := nI 0) C dX9_asks_4 (by decide) ?_
  refine r_aload0 (pc := 5) C dX9_asks_5 ?_
  refine gX9_86 (pc := 6) C dX9_asks_6 ?_
  refine r_iload1 (pc := 9) C dX9_asks_9 ?_
  refine r_iald (pc := 10) (_) C dX9_asks_10 aM37 (rfl) (by omega) ?_
  refine r_eqi (mg37 hi) ?_
  refine r_iast (pc := 11) (_) C dX9_asks_11 aM50 (rfl) (by omega) ?_
  refine r_aload0 (pc := 12) C dX9_asks_12 ?_
  refine gX9_116 (pc := 13) C dX9_asks_13 ?_
  refine r_iconst (pc := 16) (v := nI 1) C dX9_asks_16 (by decide) ?_
  refine r_aload0 (pc := 17) C dX9_asks_17 ?_
  refine gX9_89 (pc := 18) C dX9_asks_18 ?_
  refine r_iload1 (pc := 21) C dX9_asks_21 ?_
  refine r_iald (pc := 22) (_) C dX9_asks_22 aM38 (rfl) (by omega) ?_
  refine r_eqi (y := mmF G i 1) (by rw [sI_o (by decide)]; exact mg38 hi) ?_
  refine r_iast (pc := 23) (_) C dX9_asks_23 aM50 (rfl) (by omega) ?_
  refine r_aload0 (pc := 24) C dX9_asks_24 ?_
  refine gX9_116 (pc := 25) C dX9_asks_25 ?_
  refine r_iconst (pc := 28) (v := nI 2) C dX9_asks_28 (by decide) ?_
  refine r_aload0 (pc := 29) C dX9_asks_29 ?_
  refine gX9_92 (pc := 30) C dX9_asks_30 ?_
  refine r_iload1 (pc := 33) C dX9_asks_33 ?_
  refine r_iald (pc := 34) (_) C dX9_asks_34 aM39 (rfl) (by omega) ?_
  refine r_eqi (y := mmF G i 2) (by rw [sI_o (by decide), sI_o (by decide)]; exact mg39 hi) ?_
  refine r_iast (pc := 35) (_) C dX9_asks_35 aM50 (rfl) (by omega) ?_
  refine r_aload0 (pc := 36) C dX9_asks_36 ?_
  refine gX9_116 (pc := 37) C dX9_asks_37 ?_
  refine r_iconst (pc := 40) (v := nI 3) C dX9_asks_40 (by decide) ?_
  refine r_iload2 (pc := 41) C dX9_asks_41 ?_
  refine r_iast (pc := 42) (_) C dX9_asks_42 aM50 (rfl) (by omega) ?_
  refine r_aload0 (pc := 43) C dX9_asks_43 ?_
  refine gX9_116 (pc := 44) C dX9_asks_44 ?_
  refine r_iconst (pc := 47) (v := nI 4) C dX9_asks_47 (by decide) ?_
  refine r_iload3 (pc := 48) C dX9_asks_48 ?_
  refine r_iast (pc := 49) (_) C dX9_asks_49 aM50 (rfl) (by omega) ?_
  refine r_aload0 (pc := 50) C dX9_asks_50 ?_
  refine gX9_116 (pc := 51) C dX9_asks_51 ?_
  refine r_iconst (pc := 54) (v := nI 5) C dX9_asks_54 (by decide) ?_
  refine r_iload4 (pc := 55) C dX9_asks_55 ?_
  refine r_iast (pc := 57) (_) C dX9_asks_57 aM50 (rfl) (by omega) ?_
  refine r_aload0 (pc := 58) C dX9_asks_58 ?_
  refine gX9_116 (pc := 59) C dX9_asks_59 ?_
  refine r_bipush (pc := 62) (v := nI 6) C dX9_asks_62 (by decide) ?_
  refine r_iload5 (pc := 64) C dX9_asks_64 ?_
  refine r_iast (pc := 66) (_) C dX9_asks_66 aM50 (rfl) (by omega) ?_
  exact r_return (pc := 67) C dX9_asks_67 (⟨(((((((Fr.refl (S := fun q => q = 50)).sI rfl).sI rfl).sI rfl).sI rfl).sI rfl).sI rfl).sI rfl, fun k hk => by rcases (show k = 0 ∨ k = 1 ∨ k = 2 ∨ k = 3 ∨ k = 4 ∨ k = 5 ∨ k = 6 by omega) with rfl | rfl | rfl | rfl | rfl | rfl | rfl <;> rfl⟩)
theorem mWr_eq (f : Nat → Int32) : upd (upd (upd (upd (upd f 6 (f 4)) 3 (nI 4)) 12 (nI 0)) 4 (-1)) 5 (-1) = upd (mEnter (nI 4) (upd f 6 (f 4))) 7 (f 7) := by
  funext k
  simp only [mEnter, upd]
  by_cases h5 : k = 5
  · simp [h5]
  · by_cases h4 : k = 4
    · simp [h4]
    · by_cases h12 : k = 12
      · simp [h12]
      · by_cases h7 : k = 7
        · simp [h7]
        · simp [h5, h4, h12, h7]
set_option maxHeartbeats 4000000 in
set_option maxRecDepth 100000 in
theorem tX9_writes (Y : gY) (hY : Y.2.2.2 = wM) {G : gS} {i : Nat} (hi : i < 8) (hf : mmF G i 4 = nI (cN (mmF G i 4))) (hf6 : cN (mmF G i 4) < 6) (hr : mmF G i 7 = nI 0) : ∀ l : Launch, gM Y l yX9_writes cX9_writes 2 none (0, 0) [.ref (Y.2.1 (100)), .int (nI i)] G (qv (fun G' => Fr sMM G G' ∧ mmF G' = va_up (mmF G) i (mWrite (G.1 42 (cN (mmF G i 4))) (mmF G i)))) := by
  intro l
  refine gM_of hY rfl (Nat.le_of_ble_eq_true rfl) [some (.ref (Y.2.1 (100))), some (.int (nI i))] rfl rfl ?_
  rintro Z rfl C
  refine r_aload0 (pc := 0) C dX9_writes_0 ?_
  refine gX9_170 (pc := 1) C dX9_writes_1 ?_
  refine r_iload1 (pc := 4) C dX9_writes_4 ?_
  refine r_iald (pc := 5) (_) C dX9_writes_5 aM71 (rfl) (by omega) ?_
  refine r_eqi (mg71 hi) ?_
  refine r_aload0 (pc := 6) C dX9_writes_6 ?_
  refine gX9_98 (pc := 7) C dX9_writes_7 ?_
  refine r_aload0 (pc := 10) C dX9_writes_10 ?_
  refine gX9_167 (pc := 11) C dX9_writes_11 ?_
  refine r_iload1 (pc := 14) C dX9_writes_14 ?_
  refine r_iald (pc := 15) (_) C dX9_writes_15 aM70 (rfl) (by omega) ?_
  refine r_eqi (y := nI (cN (mmF G i 4))) ((mg70 hi).trans hf) ?_
  refine r_iald (pc := 16) (_) C dX9_writes_16 aM42 (rfl) (by omega) ?_
  refine r_icmp_ge (pc := 17) 31 C dX9_writes_17 (by decide) (fun c17 => ?_) (fun c17 => ?_)
  · refine r_aload0 (pc := 31) C dX9_writes_31 ?_
    refine gX9_176 (pc := 32) C dX9_writes_32 ?_
    refine r_iload1 (pc := 35) C dX9_writes_35 ?_
    refine r_aload0 (pc := 36) C dX9_writes_36 ?_
    refine gX9_167 (pc := 37) C dX9_writes_37 ?_
    refine r_iload1 (pc := 40) C dX9_writes_40 ?_
    refine r_iald (pc := 41) (_) C dX9_writes_41 aM70 (rfl) (by omega) ?_
    refine r_eqi (mg70 hi) ?_
    refine r_iast (pc := 42) (_) C dX9_writes_42 aM73 (rfl) (by omega) ?_
    refine r_aload0 (pc := 43) C dX9_writes_43 ?_
    refine gX9_158 (pc := 44) C dX9_writes_44 ?_
    refine r_iload1 (pc := 47) C dX9_writes_47 ?_
    refine r_iconst (pc := 48) (v := nI 4) C dX9_writes_48 (by decide) ?_
    refine r_iast (pc := 49) (_) C dX9_writes_49 aM67 (rfl) (by omega) ?_
    refine r_aload0 (pc := 50) C dX9_writes_50 ?_
    refine gX9_194 (pc := 51) C dX9_writes_51 ?_
    refine r_iload1 (pc := 54) C dX9_writes_54 ?_
    refine r_iconst (pc := 55) (v := nI 0) C dX9_writes_55 (by decide) ?_
    refine r_iast (pc := 56) (_) C dX9_writes_56 aM79 (rfl) (by omega) ?_
    refine r_aload0 (pc := 57) C dX9_writes_57 ?_
    refine gX9_167 (pc := 58) C dX9_writes_58 ?_
    refine r_iload1 (pc := 61) C dX9_writes_61 ?_
    refine r_iconst (pc := 62) (v := (-1)) C dX9_writes_62 (by decide) ?_
    refine r_iast (pc := 63) (_) C dX9_writes_63 aM70 (rfl) (by omega) ?_
    refine r_aload0 (pc := 64) C dX9_writes_64 ?_
    refine gX9_170 (pc := 65) C dX9_writes_65 ?_
    refine r_iload1 (pc := 68) C dX9_writes_68 ?_
    refine r_iconst (pc := 69) (v := (-1)) C dX9_writes_69 (by decide) ?_
    refine r_iast (pc := 70) (_) C dX9_writes_70 aM71 (rfl) (by omega) ?_
    exact r_return (pc := 71) C dX9_writes_71 (by
  refine ⟨(((((Fr.refl).sI sM73).sI sM67).sI sM79).sI sM70).sI sM71, ?_⟩
  rw [mm71 hi, mm70 hi, mm79 hi, mm67 hi, mm73 hi]
  simp only [va_up_self, bx_uu]
  rw [mWr_eq, mWrite, if_pos c17, upd_id (show mEnter (nI 4) (upd (mmF G i) 6 (mmF G i 4)) 7 = mmF G i 7 from hr.symm)])
  · refine r_aload0 (pc := 20) C dX9_writes_20 ?_
    refine gX9_170 (pc := 21) C dX9_writes_21 ?_
    refine r_iload1 (pc := 24) C dX9_writes_24 ?_
    refine r_dup2 (pc := 25) C dX9_writes_25 rfl rfl ?_
    refine r_iald (pc := 26) (_) C dX9_writes_26 aM71 (rfl) (by omega) ?_
    refine r_eqi (mg71 hi) ?_
    refine r_iconst (pc := 27) (v := nI 1) C dX9_writes_27 (by decide) ?_
    refine r_iadd (pc := 28) C dX9_writes_28 ?_
    refine r_iast (pc := 29) (_) C dX9_writes_29 aM71 (rfl) (by omega) ?_
    exact r_return (pc := 30) C dX9_writes_30 (by
  refine ⟨Fr.refl.sI sM71, ?_⟩
  rw [mm71 hi, mWrite, if_neg c17])
def bsF (x : Int32) : Nat → Int32
  | 0 => nI 0
  | k + 1 => bsF x k + ((x >>> (nI k &&& 31)) &&& nI 1)
set_option maxHeartbeats 4000000 in
set_option maxRecDepth 100000 in
theorem tX9_bits (Y : gY) (hY : Y.2.2.2 = wM) {G : gS} {x : Int32} : ∀ l : Launch, gM Y l yX9_bits cX9_bits 3 (some .int) (0, 0) [.int (x)] G (qi (fun r G' => r = bsF x 8 ∧ G' = G)) := by
  intro l
  refine gM_of hY rfl (Nat.le_of_ble_eq_true rfl) [some (.int (x)), none, none] rfl rfl ?_
  rintro Z rfl C
  have loop : ∀ (k0 : Nat) (k : Nat) (b : Int32), k0 = 8 - k → k ≤ 8 → b = bsF x k → WW Z (qi (fun r G' => r = bsF x 8 ∧ G' = G)) 4 [some (.int (x)), some (.int (b)), some (.int (nI k))] [] G := by
    intro k0
    induction k0 using Nat.strongRecOn with
    | _ k0 ih =>
      intro k b hk0 hk hb
      refine r_iload2 (pc := 4) C dX9_bits_4 ?_
      refine r_bipush (pc := 5) (v := nI 8) C dX9_bits_5 (by decide) ?_
      refine r_icmp_ge (pc := 7) 24 C dX9_bits_7 (by decide) (fun c7 => ?_) (fun c7 => ?_)
      · obtain rfl : k = 8 := by have := (nI_leI (by omega) (by omega)).mp c7; omega
        refine r_iload1 (pc := 24) C dX9_bits_24 ?_
        exact r_ireturn (pc := 25) C dX9_bits_25 (⟨hb, rfl⟩)
      · have hk8 : k < 8 := by
          rcases Nat.lt_or_ge k 8 with h | h
          · exact h
          · exact absurd (nI_le h (by omega)) c7
        refine r_iload1 (pc := 10) C dX9_bits_10 ?_
        refine r_iload0 (pc := 11) C dX9_bits_11 ?_
        refine r_iload2 (pc := 12) C dX9_bits_12 ?_
        refine r_ishr (pc := 13) C dX9_bits_13 ?_
        refine r_iconst (pc := 14) (v := nI 1) C dX9_bits_14 (by decide) ?_
        refine r_iand (pc := 15) C dX9_bits_15 ?_
        refine r_iadd (pc := 16) C dX9_bits_16 ?_
        refine r_istore1 (pc := 17) C dX9_bits_17 rfl ?_
        refine r_iinc2 (pc := 18) (nI 1) C dX9_bits_18 (by decide) rfl ?_
        rw [nI_add]
        refine r_goto (pc := 21) 4 C dX9_bits_21 (by decide) ?_
        exact ih (8 - (k + 1)) (by omega) (k + 1) _ rfl (by omega) (by rw [bsF, hb])
  refine r_iconst (pc := 0) (v := nI 0) C dX9_bits_0 (by decide) ?_
  refine r_istore1 (pc := 1) C dX9_bits_1 rfl ?_
  refine r_iconst (pc := 2) (v := nI 0) C dX9_bits_2 (by decide) ?_
  refine r_istore2 (pc := 3) C dX9_bits_3 rfl ?_
  exact loop _ 0 (nI 0) rfl (by omega) rfl
