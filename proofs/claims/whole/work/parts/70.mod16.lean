/-! the reference: its keys -/
def moF (x : Int64) (c : Int32) : Int64 := if c = 0 then x else 27 * x + (c - nI 97 + nI 1).toInt64
def woF (a b c d e f g : Int32) : Int64 := moF (moF (moF (moF (moF (moF (moF 0 a) b) c) d) e) f) g
set_option maxHeartbeats 4000000 in
set_option maxRecDepth 100000 in
theorem tX9_word (Y : gY) (hY : Y.2.2.2 = wM) {G : gS} {a b c d e f g : Int32} : ∀ l : Launch, gM Y l yX9_word cX9_word 7 (some .long) (1, 22) [.int (a), .int (b), .int (c), .int (d), .int (e), .int (f), .int (g)] G (ql (fun r G' => r = woF a b c d e f g ∧ G' = G)) := by
  intro l
  refine gM_of hY rfl (Nat.le_of_ble_eq_true rfl) [some (.int (a)), some (.int (b)), some (.int (c)), some (.int (d)), some (.int (e)), some (.int (f)), some (.int (g))] rfl rfl ?_
  rintro Z rfl C
  refine r_lconst (pc := 0) (v := 0) C dX9_word_0 (by decide) ?_
  refine r_iload0 (pc := 1) C dX9_word_1 ?_
  refine r_callSl (pc := 2) C rfl dX9_word_2 kX9_225 (tX9_more Z.1 C.w) rfl rfl (Nat.le_of_ble_eq_true rfl) (by decide) (fun x2 G2 h2 => ?_)
  obtain ⟨rfl, h2b⟩ := h2
  have h2b := h2b.symm
  subst h2b
  refine r_iload1 (pc := 5) C dX9_word_5 ?_
  refine r_callSl (pc := 6) C rfl dX9_word_6 kX9_225 (tX9_more Z.1 C.w) rfl rfl (Nat.le_of_ble_eq_true rfl) (by decide) (fun x6 G6 h6 => ?_)
  obtain ⟨rfl, h6b⟩ := h6
  have h6b := h6b.symm
  subst h6b
  refine r_iload2 (pc := 9) C dX9_word_9 ?_
  refine r_callSl (pc := 10) C rfl dX9_word_10 kX9_225 (tX9_more Z.1 C.w) rfl rfl (Nat.le_of_ble_eq_true rfl) (by decide) (fun x10 G10 h10 => ?_)
  obtain ⟨rfl, h10b⟩ := h10
  have h10b := h10b.symm
  subst h10b
  refine r_iload3 (pc := 13) C dX9_word_13 ?_
  refine r_callSl (pc := 14) C rfl dX9_word_14 kX9_225 (tX9_more Z.1 C.w) rfl rfl (Nat.le_of_ble_eq_true rfl) (by decide) (fun x14 G14 h14 => ?_)
  obtain ⟨rfl, h14b⟩ := h14
  have h14b := h14b.symm
  subst h14b
  refine r_iload4 (pc := 17) C dX9_word_17 ?_
  refine r_callSl (pc := 19) C rfl dX9_word_19 kX9_225 (tX9_more Z.1 C.w) rfl rfl (Nat.le_of_ble_eq_true rfl) (by decide) (fun x19 G19 h19 => ?_)
  obtain ⟨rfl, h19b⟩ := h19
  have h19b := h19b.symm
  subst h19b
  refine r_iload5 (pc := 22) C dX9_word_22 ?_
  refine r_callSl (pc := 24) C rfl dX9_word_24 kX9_225 (tX9_more Z.1 C.w) rfl rfl (Nat.le_of_ble_eq_true rfl) (by decide) (fun x24 G24 h24 => ?_)
  obtain ⟨rfl, h24b⟩ := h24
  have h24b := h24b.symm
  subst h24b
  refine r_iload6 (pc := 27) C dX9_word_27 ?_
  refine r_callSl (pc := 29) C rfl dX9_word_29 kX9_225 (tX9_more Z.1 C.w) rfl rfl (Nat.le_of_ble_eq_true rfl) (by decide) (fun x29 G29 h29 => ?_)
  obtain ⟨rfl, h29b⟩ := h29
  have h29b := h29b.symm
  subst h29b
  exact r_lreturn (pc := 32) C dX9_word_32 (⟨rfl, rfl⟩)
theorem wo_0 : woF (nI 102) (nI 105) (nI 108) (nI 101) (nI 0) (nI 0) (nI 0) = lN (kyN.getD 0 0) := by decide +kernel
theorem wo_1 : woF (nI 105) (nI 102) (nI 0) (nI 0) (nI 0) (nI 0) (nI 0) = lN (kyN.getD 1 0) := by decide +kernel
theorem wo_2 : woF (nI 97) (nI 102) (nI 116) (nI 101) (nI 114) (nI 0) (nI 0) = lN (kyN.getD 2 0) := by decide +kernel
theorem wo_3 : woF (nI 111) (nI 114) (nI 0) (nI 0) (nI 0) (nI 0) (nI 0) = lN (kyN.getD 3 0) := by decide +kernel
theorem wo_4 : woF (nI 97) (nI 110) (nI 100) (nI 0) (nI 0) (nI 0) (nI 0) = lN (kyN.getD 4 0) := by decide +kernel
theorem wo_5 : woF (nI 107) (nI 105) (nI 110) (nI 100) (nI 0) (nI 0) (nI 0) = lN (kyN.getD 5 0) := by decide +kernel
theorem wo_6 : woF (nI 112) (nI 108) (nI 97) (nI 99) (nI 101) (nI 0) (nI 0) = lN (kyN.getD 6 0) := by decide +kernel
theorem wo_7 : woF (nI 109) (nI 97) (nI 114) (nI 107) (nI 0) (nI 0) (nI 0) = lN (kyN.getD 7 0) := by decide +kernel
theorem wo_8 : woF (nI 116) (nI 114) (nI 105) (nI 101) (nI 115) (nI 0) (nI 0) = lN (kyN.getD 8 0) := by decide +kernel
theorem wo_9 : woF (nI 98) (nI 97) (nI 100) (nI 0) (nI 0) (nI 0) (nI 0) = lN (kyN.getD 9 0) := by decide +kernel
theorem wo_10 : woF (nI 98) (nI 101) (nI 103) (nI 117) (nI 110) (nI 0) (nI 0) = lN (kyN.getD 10 0) := by decide +kernel
theorem wo_11 : woF (nI 116) (nI 105) (nI 99) (nI 107) (nI 0) (nI 0) (nI 0) = lN (kyN.getD 11 0) := by decide +kernel
