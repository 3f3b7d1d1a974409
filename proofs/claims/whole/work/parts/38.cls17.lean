/-- behind freshen: as it was, or a whole run -/
def frP (h : hQ) (st : Bool) (G G' : gS) : Prop := (st = false → G' = G) ∧ (st = true → stR G' = itN (tkF h true) 300 (rsF h (stR G)) ∧ Fr (fun q => sP q ∨ q = 0) G G' ∧ G'.1 0 = upd (G.1 0) 4 (nI 0))
theorem frP.fr {h : hQ} {st : Bool} {G G' : gS} (k : frP h st G G') : Fr (fun q => sP q ∨ q = 0) G G' := by
  cases st with
  | false => rw [k.1 rfl]; exact Fr.refl
  | true => exact (k.2 rfl).2.1
theorem sP0_no {q : Nat} (h1 : q < 15 ∨ (21 < q ∧ q < 32) ∨ (40 ≤ q ∧ q < 100) ∨ 103 ≤ q) (h2 : q ≠ 0) : ¬ (sP q ∨ q = 0) := fun h => h.elim (sP_no h1) h2
/-- what a run needs of the class's heap -/
def runOk (G : gS) (mc fc : Nat) (jk nk : Nat → Nat) (st : Bool) : Prop := G.1 6 1 = nI mc ∧ mc ≤ 8 ∧ kOk mc (mF G) ∧ keepOk G jk nk ∧ hOk (hC G jk nk mc) fc ∧ G.1 0 4 = bI st
set_option maxHeartbeats 4000000 in
set_option maxRecDepth 100000 in
theorem tX8_freshen (Y : gY) (hY : Y.2.2.2 = wC) {G : gS} {mc fc : Nat} {jk nk : Nat → Nat} {st : Bool} (hro : runOk G mc fc jk nk st) : ∀ l : Launch, gM Y l yX8_freshen cX8_freshen 1 none (6, 143) [.ref (Y.2.1 (0))] G (qv (fun G' => frP (hC G jk nk mc) st G G')) := by
  intro l
  refine gM_of hY rfl (Nat.le_of_ble_eq_true rfl) [some (.ref (Y.2.1 (0)))] rfl rfl ?_
  rintro Z rfl C
  obtain ⟨h1, h2, h3, h4, h5, h6⟩ := hro
  refine r_aload0 (pc := 0) C dX8_freshen_0 ?_
  refine gX8_41 (pc := 1) C dX8_freshen_1 ?_
  refine r_eqi h6 ?_
  refine r_if_eq (pc := 4) 20 C dX8_freshen_4 (by decide) (fun c4 => ?_) (fun c4 => ?_)
  · exact r_return (pc := 20) C dX8_freshen_20 (⟨fun _ => rfl, fun h => by rw [h] at c4; exact absurd c4 (by decide)⟩)
  · refine r_aload0 (pc := 7) C dX8_freshen_7 ?_
    refine gX8_37 (pc := 8) C dX8_freshen_8 ?_
    refine r_iconst (pc := 11) (v := nI 1) C dX8_freshen_11 (by decide) ?_
    refine r_callVv (pc := 12) C rfl dX8_freshen_12 kX8_151 gF5 jC15 (tX5_play Z.1 C.w (kp := true) h1 h2 h3 h4 h5) rfl rfl (Nat.le_of_ble_eq_true rfl) (by decide) (fun G12 h12 => ?_)
    refine r_aload0 (pc := 15) C dX8_freshen_15 ?_
    refine r_iconst (pc := 16) (v := nI 0) C dX8_freshen_16 (by decide) ?_
    refine pX8_41 (pc := 17) C dX8_freshen_17 rfl rfl ?_
    exact r_return (pc := 20) C dX8_freshen_20 (by
  obtain ⟨n, hn, hS, hF, hend⟩ := h12
  have hn3 : n = 300 := hend.elim id (fun h => by cases h.1)
  subst hn3
  refine ⟨fun h => by rw [h] at c4; exact absurd rfl c4, fun _ => ⟨?_, (hF.mono (fun q h => Or.inl h)).sI (Or.inr rfl), ?_⟩⟩
  · rw [← hS]
    refine Prod.ext ?_ rfl
    funext i
    simp only [stR, mF]
    by_cases h8 : i < 8
    · rw [if_pos h8, if_pos h8, sI_o (by omega)]
    · rw [if_neg h8, if_neg h8]
  · rw [sI_s, hF.1 0 (sP_no (by omega))])
set_option maxHeartbeats 4000000 in
set_option maxRecDepth 100000 in
theorem tX8_sends (Y : gY) (hY : Y.2.2.2 = wC) {G : gS} {mc fc : Nat} {jk nk : Nat → Nat} {st : Bool} (hro : runOk G mc fc jk nk st) {t : Int32} : ∀ l : Launch, gM Y l yX8_sends cX8_sends 2 (some .int) (7, 163) [.ref (Y.2.1 (0)), .int (t)] G (qi (fun r G' => if belB t (nI 300) = true then (frP (hC G jk nk mc) st G G' ∧ r = G'.1 17 (cN t)) else (r = -1 ∧ G' = G))) := by
  intro l
  refine gM_of hY rfl (Nat.le_of_ble_eq_true rfl) [some (.ref (Y.2.1 (0))), some (.int (t))] rfl rfl ?_
  rintro Z rfl C
  have hm8 := hro.2.1
  refine r_iload1 (pc := 0) C dX8_sends_0 ?_
  refine r_sipush (pc := 1) (v := nI 300) C dX8_sends_1 (by decide) ?_
  refine r_callSi (pc := 4) C rfl dX8_sends_4 kX8_53 (tX8_isBelow Z.1 C.w) rfl rfl (Nat.le_of_ble_eq_true rfl) (by decide) (fun x4 G4 h4 => ?_)
  obtain ⟨rfl, h4b⟩ := h4
  have h4b := h4b.symm
  subst h4b
  refine r_if_ne (pc := 7) 12 C dX8_sends_7 (by decide) (fun c7 => ?_) (fun c7 => ?_)
  · obtain ⟨x, hx, rfl⟩ := belB_t (bI_n.mp c7) (by decide)
    refine r_aload0 (pc := 12) C dX8_sends_12 ?_
    refine r_callVv (pc := 13) C rfl dX8_sends_13 kX8_118 gF8 jC0 (tX8_freshen Z.1 C.w hro) rfl rfl (Nat.le_of_ble_eq_true rfl) (by decide) (fun G13 h13 => ?_)
    have hF := h13.fr
    have e6 : G13.1 6 = G.1 6 := hF.1 6 (sP0_no (by omega) (by decide))
    refine r_aload0 (pc := 16) C dX8_sends_16 ?_
    refine gX8_37 (pc := 17) C dX8_sends_17 ?_
    refine gX8_128 (pc := 20) C dX8_sends_20 ?_
    refine r_iload1 (pc := 23) C dX8_sends_23 ?_
    refine r_iald (pc := 24) (_) C dX8_sends_24 aC17 (rfl) (by omega) ?_
    exact r_ireturn (pc := 25) C dX8_sends_25 (by rw [if_pos (show belB _ _ = true from bI_n.mp c7), cN_nI (by omega)]; exact ⟨h13, rfl⟩)
  · refine r_iconst (pc := 10) (v := (-1)) C dX8_sends_10 (by decide) ?_
    exact r_ireturn (pc := 11) C dX8_sends_11 (by rw [if_neg (fun h => by have k : belB _ _ = false := bI_z.mp c7; simp [k] at h)]; exact ⟨rfl, rfl⟩)
set_option maxHeartbeats 4000000 in
set_option maxRecDepth 100000 in
theorem tX8_up (Y : gY) (hY : Y.2.2.2 = wC) {G : gS} {mc fc : Nat} {jk nk : Nat → Nat} {st : Bool} (hro : runOk G mc fc jk nk st) : ∀ l : Launch, gM Y l yX8_up cX8_up 1 (some .int) (7, 163) [.ref (Y.2.1 (0))] G (qi (fun r G' => frP (hC G jk nk mc) st G G' ∧ r = upF (mF G') mc)) := by
  intro l
  refine gM_of hY rfl (Nat.le_of_ble_eq_true rfl) [some (.ref (Y.2.1 (0)))] rfl rfl ?_
  rintro Z rfl C
  have hm8 := hro.2.1
  refine r_aload0 (pc := 0) C dX8_up_0 ?_
  refine r_callVv (pc := 1) C rfl dX8_up_1 kX8_118 gF8 jC0 (tX8_freshen Z.1 C.w hro) rfl rfl (Nat.le_of_ble_eq_true rfl) (by decide) (fun G1 h1 => ?_)
  have hF := h1.fr
  have e6 : G1.1 6 = G.1 6 := hF.1 6 (sP0_no (by omega) (by decide))
  refine r_aload0 (pc := 4) C dX8_up_4 ?_
  refine gX8_37 (pc := 5) C dX8_up_5 ?_
  refine r_callVi (pc := 8) C rfl dX8_up_8 kX8_141 gF5 jC15 (tX5_upBits Z.1 C.w (mc := mc) (by rw [e6]; exact hro.1) hm8) rfl rfl (Nat.le_of_ble_eq_true rfl) (by decide) (fun x8 G8 h8 => ?_)
  obtain ⟨rfl, h8b⟩ := h8
  have h8b := h8b.symm
  subst h8b
  exact r_ireturn (pc := 11) C dX8_up_11 (⟨h1, rfl⟩)
set_option maxHeartbeats 4000000 in
set_option maxRecDepth 100000 in
theorem tX8_ends (Y : gY) (hY : Y.2.2.2 = wC) {G : gS} {mc fc : Nat} {jk nk : Nat → Nat} {st : Bool} (hro : runOk G mc fc jk nk st) : ∀ l : Launch, gM Y l yX8_ends cX8_ends 1 (some .int) (7, 163) [.ref (Y.2.1 (0))] G (qi (fun r G' => frP (hC G jk nk mc) st G G' ∧ r = (if nI 300 ≤ (if G.1 6 1 = 0 then nI 300 else G'.1 15 6 + nI 1) then -1 else (if G.1 6 1 = 0 then nI 300 else G'.1 15 6 + nI 1)))) := by
  intro l
  refine gM_of hY rfl (Nat.le_of_ble_eq_true rfl) [some (.ref (Y.2.1 (0)))] rfl rfl ?_
  rintro Z rfl C
  have hm8 := hro.2.1
  refine r_aload0 (pc := 0) C dX8_ends_0 ?_
  refine r_callVv (pc := 1) C rfl dX8_ends_1 kX8_118 gF8 jC0 (tX8_freshen Z.1 C.w hro) rfl rfl (Nat.le_of_ble_eq_true rfl) (by decide) (fun G1 h1 => ?_)
  have hF := h1.fr
  have e6 : G1.1 6 = G.1 6 := hF.1 6 (sP0_no (by omega) (by decide))
  refine r_aload0 (pc := 4) C dX8_ends_4 ?_
  refine gX8_37 (pc := 5) C dX8_ends_5 ?_
  refine r_callVi (pc := 8) C rfl dX8_ends_8 kX8_134 gF5 jC15 (tX5_settledFrom Z.1 C.w) rfl rfl (Nat.le_of_ble_eq_true rfl) (by decide) (fun x8 G8 h8 => ?_)
  obtain ⟨rfl, h8b⟩ := h8
  have h8b := h8b.symm
  subst h8b
  rw [e6]
  refine r_callSi (pc := 11) C rfl dX8_ends_11 kX8_137 (tX8_endOrNone Z.1 C.w) rfl rfl (Nat.le_of_ble_eq_true rfl) (by decide) (fun x11 G11 h11 => ?_)
  obtain ⟨rfl, h11b⟩ := h11
  have h11b := h11b.symm
  subst h11b
  exact r_ireturn (pc := 14) C dX8_ends_14 (⟨h1, rfl⟩)
set_option maxHeartbeats 4000000 in
set_option maxRecDepth 100000 in
theorem tX8_state (Y : gY) (hY : Y.2.2.2 = wC) {G : gS} {mc fc : Nat} {jk nk : Nat → Nat} {st : Bool} (hro : runOk G mc fc jk nk st) {m t q : Int32} : ∀ l : Launch, gM Y l yX8_state cX8_state 4 (some .int) (7, 163) [.ref (Y.2.1 (0)), .int (m), .int (t), .int (q)] G (qi (fun r G' => if belB m (nI mc) = true ∧ belB t (nI 300) = true ∧ belB q (nI 10) = true then (frP (hC G jk nk mc) st G G' ∧ r = rcd (G'.2.1 16 (300 * cN m + cN t)) (cN q)) else (r = -1000000 ∧ G' = G))) := by
  intro l
  refine gM_of hY rfl (Nat.le_of_ble_eq_true rfl) [some (.ref (Y.2.1 (0))), some (.int (m)), some (.int (t)), some (.int (q))] rfl rfl ?_
  rintro Z rfl C
  have hm8 := hro.2.1
  refine r_iload1 (pc := 0) C dX8_state_0 ?_
  refine r_aload0 (pc := 1) C dX8_state_1 ?_
  refine gX8_28 (pc := 2) C dX8_state_2 ?_
  refine gX8_72 (pc := 5) C dX8_state_5 ?_
  refine r_eqi hro.1 ?_
  refine r_callSi (pc := 8) C rfl dX8_state_8 kX8_53 (tX8_isBelow Z.1 C.w) rfl rfl (Nat.le_of_ble_eq_true rfl) (by decide) (fun x8 G8 h8 => ?_)
  obtain ⟨rfl, h8b⟩ := h8
  have h8b := h8b.symm
  subst h8b
  refine r_if_eq (pc := 11) 33 C dX8_state_11 (by decide) (fun c11 => ?_) (fun c11 => ?_)
  · refine r_ldc (pc := 33) C dX8_state_33 ctX8_124 ?_
    exact r_ireturn (pc := 35) C dX8_state_35 (by rw [if_neg (fun h => by have k : belB _ _ = false := bI_z.mp c11; simp [k] at h)]; exact ⟨rfl, rfl⟩)
  · refine r_iload2 (pc := 14) C dX8_state_14 ?_
    refine r_sipush (pc := 15) (v := nI 300) C dX8_state_15 (by decide) ?_
    refine r_callSi (pc := 18) C rfl dX8_state_18 kX8_53 (tX8_isBelow Z.1 C.w) rfl rfl (Nat.le_of_ble_eq_true rfl) (by decide) (fun x18 G18 h18 => ?_)
    obtain ⟨rfl, h18b⟩ := h18
    have h18b := h18b.symm
    subst h18b
    refine r_if_eq (pc := 21) 33 C dX8_state_21 (by decide) (fun c21 => ?_) (fun c21 => ?_)
    · refine r_ldc (pc := 33) C dX8_state_33 ctX8_124 ?_
      exact r_ireturn (pc := 35) C dX8_state_35 (by rw [if_neg (fun h => by have k : belB _ _ = false := bI_z.mp c21; simp [k] at h)]; exact ⟨rfl, rfl⟩)
    · refine r_iload3 (pc := 24) C dX8_state_24 ?_
      refine r_bipush (pc := 25) (v := nI 10) C dX8_state_25 (by decide) ?_
      refine r_callSi (pc := 27) C rfl dX8_state_27 kX8_53 (tX8_isBelow Z.1 C.w) rfl rfl (Nat.le_of_ble_eq_true rfl) (by decide) (fun x27 G27 h27 => ?_)
      obtain ⟨rfl, h27b⟩ := h27
      have h27b := h27b.symm
      subst h27b
      refine r_if_ne (pc := 30) 36 C dX8_state_30 (by decide) (fun c30 => ?_) (fun c30 => ?_)
      · obtain ⟨i, hi, rfl⟩ := belB_t (bI_n.mp c11) (by omega)
        obtain ⟨x, hx, rfl⟩ := belB_t (bI_n.mp c21) (by decide)
        obtain ⟨y, hy, rfl⟩ := belB_t (bI_n.mp c30) (by decide)
        refine r_aload0 (pc := 36) C dX8_state_36 ?_
        refine r_callVv (pc := 37) C rfl dX8_state_37 kX8_118 gF8 jC0 (tX8_freshen Z.1 C.w hro) rfl rfl (Nat.le_of_ble_eq_true rfl) (by decide) (fun G37 h37 => ?_)
        have hF := h37.fr
        have e6 : G37.1 6 = G.1 6 := hF.1 6 (sP0_no (by omega) (by decide))
        refine r_aload0 (pc := 40) C dX8_state_40 ?_
        refine gX8_37 (pc := 41) C dX8_state_41 ?_
        refine r_iload1 (pc := 44) C dX8_state_44 ?_
        refine r_iload2 (pc := 45) C dX8_state_45 ?_
        refine r_iload3 (pc := 46) C dX8_state_46 ?_
        refine r_callVi (pc := 47) C rfl dX8_state_47 kX8_125 gF5 jC15 (tX5_recorded Z.1 C.w (m := i) (t := x) (q := y) (by omega) hx hy) rfl rfl (Nat.le_of_ble_eq_true rfl) (by decide) (fun x47 G47 h47 => ?_)
        obtain ⟨rfl, h47b⟩ := h47
        have h47b := h47b.symm
        subst h47b
        exact r_ireturn (pc := 50) C dX8_state_50 (by rw [if_pos ⟨bI_n.mp c11, bI_n.mp c21, bI_n.mp c30⟩, cN_nI (by omega), cN_nI (by omega), cN_nI (by omega)]; exact ⟨h37, rfl⟩)
      · refine r_ldc (pc := 33) C dX8_state_33 ctX8_124 ?_
        exact r_ireturn (pc := 35) C dX8_state_35 (by rw [if_neg (fun h => by have k : belB _ _ = false := bI_z.mp c30; simp [k] at h)]; exact ⟨rfl, rfl⟩)
set_option maxHeartbeats 4000000 in
set_option maxRecDepth 100000 in
theorem tX8_log (Y : gY) (hY : Y.2.2.2 = wC) {G : gS} {mc fc : Nat} {jk nk : Nat → Nat} {st : Bool} (hro : runOk G mc fc jk nk st) {m ix : Int32} : ∀ l : Launch, gM Y l yX8_log cX8_log 3 (some .int) (7, 163) [.ref (Y.2.1 (0)), .int (m), .int (ix)] G (qi (fun r G' => if belB m (nI mc) = true ∧ 0 ≤ ix then (frP (hC G jk nk mc) st G G' ∧ r = chgF (fun t => rcd (G'.2.1 16 (300 * cN m + t)) 0) ix 300 0 (nI 0) (nI 0)) else (r = -1 ∧ G' = G))) := by
  intro l
  refine gM_of hY rfl (Nat.le_of_ble_eq_true rfl) [some (.ref (Y.2.1 (0))), some (.int (m)), some (.int (ix))] rfl rfl ?_
  rintro Z rfl C
  have hm8 := hro.2.1
  refine r_iload1 (pc := 0) C dX8_log_0 ?_
  refine r_aload0 (pc := 1) C dX8_log_1 ?_
  refine gX8_28 (pc := 2) C dX8_log_2 ?_
  refine gX8_72 (pc := 5) C dX8_log_5 ?_
  refine r_eqi hro.1 ?_
  refine r_callSi (pc := 8) C rfl dX8_log_8 kX8_53 (tX8_isBelow Z.1 C.w) rfl rfl (Nat.le_of_ble_eq_true rfl) (by decide) (fun x8 G8 h8 => ?_)
  obtain ⟨rfl, h8b⟩ := h8
  have h8b := h8b.symm
  subst h8b
  refine r_if_eq (pc := 11) 18 C dX8_log_11 (by decide) (fun c11 => ?_) (fun c11 => ?_)
  · refine r_iconst (pc := 18) (v := (-1)) C dX8_log_18 (by decide) ?_
    exact r_ireturn (pc := 19) C dX8_log_19 (by rw [if_neg (fun h => by have k : belB _ _ = false := bI_z.mp c11; simp [k] at h)]; exact ⟨rfl, rfl⟩)
  · refine r_iload2 (pc := 14) C dX8_log_14 ?_
    refine r_if_ge (pc := 15) 20 C dX8_log_15 (by decide) (fun c15 => ?_) (fun c15 => ?_)
    · obtain ⟨i, hi, rfl⟩ := belB_t (bI_n.mp c11) (by omega)
      refine r_aload0 (pc := 20) C dX8_log_20 ?_
      refine r_callVv (pc := 21) C rfl dX8_log_21 kX8_118 gF8 jC0 (tX8_freshen Z.1 C.w hro) rfl rfl (Nat.le_of_ble_eq_true rfl) (by decide) (fun G21 h21 => ?_)
      have hF := h21.fr
      have e6 : G21.1 6 = G.1 6 := hF.1 6 (sP0_no (by omega) (by decide))
      refine r_aload0 (pc := 24) C dX8_log_24 ?_
      refine gX8_37 (pc := 25) C dX8_log_25 ?_
      refine r_iload1 (pc := 28) C dX8_log_28 ?_
      refine r_iload2 (pc := 29) C dX8_log_29 ?_
      refine r_callVi (pc := 30) C rfl dX8_log_30 kX8_144 gF5 jC15 (tX5_change Z.1 C.w (m := i) (by omega)) rfl rfl (Nat.le_of_ble_eq_true rfl) (by decide) (fun x30 G30 h30 => ?_)
      obtain ⟨rfl, h30b⟩ := h30
      have h30b := h30b.symm
      subst h30b
      exact r_ireturn (pc := 33) C dX8_log_33 (by rw [if_pos ⟨bI_n.mp c11, c15⟩, cN_nI (by omega)]; exact ⟨h21, rfl⟩)
    · refine r_iconst (pc := 18) (v := (-1)) C dX8_log_18 (by decide) ?_
      exact r_ireturn (pc := 19) C dX8_log_19 (by rw [if_neg (fun h => c15 h.2)]; exact ⟨rfl, rfl⟩)
set_option maxHeartbeats 4000000 in
set_option maxRecDepth 100000 in
theorem tX8_sent (Y : gY) (hY : Y.2.2.2 = wC) {G : gS} {mc fc : Nat} {jk nk : Nat → Nat} {st : Bool} (hro : runOk G mc fc jk nk st) {f b : Int32} : ∀ l : Launch, gM Y l yX8_sent cX8_sent 3 (some .int) (7, 163) [.ref (Y.2.1 (0)), .int (f), .int (b)] G (qi (fun r G' => if (¬ f < 0 ∧ ¬ G.1 6 4 ≤ f ∧ ¬ b < 0 ∧ ¬ G.1 8 f.toNatClampNeg ≤ b) then (frP (hC G jk nk mc) st G G' ∧ r = G'.1 18 (cN f * 12 + cN b)) else (r = -1 ∧ G' = G))) := by
  intro l
  refine gM_of hY rfl (Nat.le_of_ble_eq_true rfl) [some (.ref (Y.2.1 (0))), some (.int (f)), some (.int (b))] rfl rfl ?_
  rintro Z rfl C
  have hm8 := hro.2.1
  have hfc : G.1 6 4 = nI fc := hro.2.2.2.2.1.2.1
  have hf6 : fc ≤ 6 := hro.2.2.2.2.1.2.2.1
  have hbl : ∀ f, f < fc → G.1 8 f = nI (cN (G.1 8 f)) ∧ 1 ≤ cN (G.1 8 f) ∧ cN (G.1 8 f) ≤ 12 := hro.2.2.2.2.1.2.2.2.1
  refine r_aload0 (pc := 0) C dX8_sent_0 ?_
  refine gX8_28 (pc := 1) C dX8_sent_1 ?_
  refine r_iload1 (pc := 4) C dX8_sent_4 ?_
  refine r_iload2 (pc := 5) C dX8_sent_5 ?_
  refine r_callVi (pc := 6) C rfl dX8_sent_6 kX8_106 gF1 jC6 (tX1_hasBlock Z.1 C.w hfc hf6) rfl rfl (Nat.le_of_ble_eq_true rfl) (by decide) (fun x6 G6 h6 => ?_)
  obtain ⟨rfl, h6b⟩ := h6
  have h6b := h6b.symm
  subst h6b
  refine r_if_ne (pc := 9) 14 C dX8_sent_9 (by decide) (fun c9 => ?_) (fun c9 => ?_)
  · obtain ⟨u1, u2, u3, u4⟩ := of_decide_eq_true (bI_n.mp c9)
    obtain ⟨i, hi, rfl⟩ := belB_t (x := f) (b := fc) (decide_eq_true ⟨u1, by rw [hfc] at u2; exact u2⟩) (by omega)
    rw [nI_clamp (show i < 2 ^ 31 by omega)] at u4
    obtain ⟨hb1, hb2, hb3⟩ := hbl i hi
    obtain ⟨y, hy, rfl⟩ := nI_of u3
    have hyb : y < 12 := by
      rcases Nat.lt_or_ge y 12 with g | g
      · exact g
      · exact absurd (by rw [hb1]; exact nI_le (by omega) hy) u4
    refine r_aload0 (pc := 14) C dX8_sent_14 ?_
    refine r_callVv (pc := 15) C rfl dX8_sent_15 kX8_118 gF8 jC0 (tX8_freshen Z.1 C.w hro) rfl rfl (Nat.le_of_ble_eq_true rfl) (by decide) (fun G15 h15 => ?_)
    have hF := h15.fr
    have e6 : G15.1 6 = G.1 6 := hF.1 6 (sP0_no (by omega) (by decide))
    refine r_aload0 (pc := 18) C dX8_sent_18 ?_
    refine gX8_37 (pc := 19) C dX8_sent_19 ?_
    refine gX8_131 (pc := 22) C dX8_sent_22 ?_
    refine r_iload1 (pc := 25) C dX8_sent_25 ?_
    refine r_bipush (pc := 26) (v := nI 12) C dX8_sent_26 (by decide) ?_
    refine r_imul (pc := 28) C dX8_sent_28 ?_
    refine r_eqi (pk_mul i 12) ?_
    refine r_iload2 (pc := 29) C dX8_sent_29 ?_
    refine r_iadd (pc := 30) C dX8_sent_30 ?_
    refine r_eqi (nI_add _ _) ?_
    refine r_iald (pc := 31) (_) C dX8_sent_31 aC18 (rfl) (by omega) ?_
    exact r_ireturn (pc := 32) C dX8_sent_32 (by rw [if_pos (of_decide_eq_true (bI_n.mp c9)), cN_nI (show i < 2 ^ 31 by omega), cN_nI hy]; exact ⟨h15, rfl⟩)
  · refine r_iconst (pc := 12) (v := (-1)) C dX8_sent_12 (by decide) ?_
    exact r_ireturn (pc := 13) C dX8_sent_13 (by rw [if_neg (fun h => of_decide_eq_false (bI_z.mp c9) h)]; exact ⟨rfl, rfl⟩)
set_option maxHeartbeats 4000000 in
set_option maxRecDepth 100000 in
theorem tX5_answerAtEnd (Y : gY) (hY : Y.2.2.2 = wC) {G : gS} {k i t : Nat} {jk nk : Nat → Nat} (hk : k < 2) (hi : i < 8) (ht : t < 300) (hko : keepOk G jk nk) : ∀ l : Launch, gM Y l yX5_answerAtEnd cX5_answerAtEnd 4 (some .int) (3, 72) [.ref (Y.2.1 (15)), .int (nI k), .int (nI i), .int (nI t)] G (qi (fun r G' => r = chC G (jk k) (nk k) (vq (G.1 (32 + i) 0) (G.1 (32 + i) 1) (G.1 (32 + i) 2) (rcd (G.2.1 16 (300 * i + t)) 5) (rcd (G.2.1 16 (300 * i + t)) 6) (rcd (G.2.1 16 (300 * i + t)) 8) (nI t)) (G.1 6 4) ∧ Fr sQ G G')) := by
  intro l
  refine gM_of hY rfl (Nat.le_of_ble_eq_true rfl) [some (.ref (Y.2.1 (15))), some (.int (nI k)), some (.int (nI i)), some (.int (nI t))] rfl rfl ?_
  rintro Z rfl C
  refine r_aload0 (pc := 0) C dX5_answerAtEnd_0 ?_
  refine r_aload0 (pc := 1) C dX5_answerAtEnd_1 ?_
  refine gX5_31 (pc := 2) C dX5_answerAtEnd_2 ?_
  refine gX5_85 (pc := 5) C dX5_answerAtEnd_5 ?_
  refine r_iload2 (pc := 8) C dX5_answerAtEnd_8 ?_
  refine r_aald (pc := 9) (i) C dX5_answerAtEnd_9 aC7 (fun _ => rfl) (rfl) (by omega) (rfl) ?_
  refine r_aload0 (pc := 10) C dX5_answerAtEnd_10 ?_
  refine r_iload2 (pc := 11) C dX5_answerAtEnd_11 ?_
  refine r_iload3 (pc := 12) C dX5_answerAtEnd_12 ?_
  refine r_iconst (pc := 13) (v := nI 5) C dX5_answerAtEnd_13 (by decide) ?_
  refine r_callVi (pc := 14) C rfl dX5_answerAtEnd_14 kX5_237 gF5 jC15 (tX5_recorded Z.1 C.w (m := i) (t := t) (q := 5) (by omega) ht (by decide)) rfl rfl (Nat.le_of_ble_eq_true rfl) (by decide) (fun x14 G14 h14 => ?_)
  obtain ⟨rfl, h14b⟩ := h14
  have h14b := h14b.symm
  subst h14b
  refine r_aload0 (pc := 17) C dX5_answerAtEnd_17 ?_
  refine r_iload2 (pc := 18) C dX5_answerAtEnd_18 ?_
  refine r_iload3 (pc := 19) C dX5_answerAtEnd_19 ?_
  refine r_bipush (pc := 20) (v := nI 6) C dX5_answerAtEnd_20 (by decide) ?_
  refine r_callVi (pc := 22) C rfl dX5_answerAtEnd_22 kX5_237 gF5 jC15 (tX5_recorded Z.1 C.w (m := i) (t := t) (q := 6) (by omega) ht (by decide)) rfl rfl (Nat.le_of_ble_eq_true rfl) (by decide) (fun x22 G22 h22 => ?_)
  obtain ⟨rfl, h22b⟩ := h22
  have h22b := h22b.symm
  subst h22b
  refine r_aload0 (pc := 25) C dX5_answerAtEnd_25 ?_
  refine r_iload2 (pc := 26) C dX5_answerAtEnd_26 ?_
  refine r_iload3 (pc := 27) C dX5_answerAtEnd_27 ?_
  refine r_bipush (pc := 28) (v := nI 8) C dX5_answerAtEnd_28 (by decide) ?_
  refine r_callVi (pc := 30) C rfl dX5_answerAtEnd_30 kX5_237 gF5 jC15 (tX5_recorded Z.1 C.w (m := i) (t := t) (q := 8) (by omega) ht (by decide)) rfl rfl (Nat.le_of_ble_eq_true rfl) (by decide) (fun x30 G30 h30 => ?_)
  obtain ⟨rfl, h30b⟩ := h30
  have h30b := h30b.symm
  subst h30b
  refine r_iload3 (pc := 33) C dX5_answerAtEnd_33 ?_
  refine r_callVv (pc := 34) C rfl dX5_answerAtEnd_34 kX5_133 gF5 jC15 (tX5_setVars Z.1 C.w (i := i) hi) rfl rfl (Nat.le_of_ble_eq_true rfl) (by decide) (fun G34 h34 => ?_)
  obtain ⟨hF34, hV34⟩ := h34
  obtain ⟨j1, j2⟩ := hko.2 k hk
  have j3 := hko.1 k
  refine r_aload0 (pc := 37) C dX5_answerAtEnd_37 ?_
  refine gX5_31 (pc := 38) C dX5_answerAtEnd_38 ?_
  refine gX5_140 (pc := 41) C dX5_answerAtEnd_41 ?_
  refine r_iload1 (pc := 44) C dX5_answerAtEnd_44 ?_
  refine r_aald (pc := 45) (k) C dX5_answerAtEnd_45 aC14 (fun _ => rfl) (rfl) (by omega) ((show G34.2.2 14 k = 40 + jk k from by rw [hF34.2.2]; exact j1)) ?_
  refine r_aload0 (pc := 46) C dX5_answerAtEnd_46 ?_
  refine gX5_28 (pc := 47) C dX5_answerAtEnd_47 ?_
  refine r_aload0 (pc := 50) C dX5_answerAtEnd_50 ?_
  refine gX5_31 (pc := 51) C dX5_answerAtEnd_51 ?_
  refine gX5_144 (pc := 54) C dX5_answerAtEnd_54 ?_
  refine r_eqi (y := G.1 6 4) (by rw [hF34.1 6 (by decide)]) ?_
  refine r_callVi (pc := 57) C rfl dX5_answerAtEnd_57 kX5_147 gF4 (jCr (by omega)) (tX4_choose Z.1 C.w (j := jk k) (n := nk k) j3 (j2.fr hF34 (by omega) (by omega) (by omega) (by omega))) rfl rfl (Nat.le_of_ble_eq_true rfl) (by decide) (fun x57 G57 h57 => ?_)
  exact r_ireturn (pc := 60) C dX5_answerAtEnd_60 (by
  obtain ⟨rfl, hF57⟩ := h57
  refine ⟨?_, (hF34.mono (fun q h => Or.inl h)).trans (hF57.mono (fun q h => Or.inr (by omega)))⟩
  rw [chC_fr hF34 (by omega) (by omega) (by omega) (by omega) (by omega), chC_v hV34])
set_option maxHeartbeats 4000000 in
set_option maxRecDepth 100000 in
theorem tX8_answer (Y : gY) (hY : Y.2.2.2 = wC) {G : gS} {mc fc : Nat} {jk nk : Nat → Nat} {st : Bool} (hro : runOk G mc fc jk nk st) {k m t : Int32} : ∀ l : Launch, gM Y l yX8_answer cX8_answer 4 (some .int) (7, 163) [.ref (Y.2.1 (0)), .int (k), .int (m), .int (t)] G (qi (fun r G' => if belB k (nI 2) = true ∧ belB m (nI mc) = true ∧ belB t (nI 300) = true then (∃ G1, frP (hC G jk nk mc) st G G1 ∧ Fr sQ G1 G' ∧ r = chC G (jk (cN k)) (nk (cN k)) (vq (G1.1 (32 + cN m) 0) (G1.1 (32 + cN m) 1) (G1.1 (32 + cN m) 2) (rcd (G1.2.1 16 (300 * cN m + cN t)) 5) (rcd (G1.2.1 16 (300 * cN m + cN t)) 6) (rcd (G1.2.1 16 (300 * cN m + cN t)) 8) (nI (cN t))) (G.1 6 4)) else (r = -1 ∧ G' = G))) := by
  intro l
  refine gM_of hY rfl (Nat.le_of_ble_eq_true rfl) [some (.ref (Y.2.1 (0))), some (.int (k)), some (.int (m)), some (.int (t))] rfl rfl ?_
  rintro Z rfl C
  have hm8 := hro.2.1
  refine r_iload1 (pc := 0) C dX8_answer_0 ?_
  refine r_iconst (pc := 1) (v := nI 2) C dX8_answer_1 (by decide) ?_
  refine r_callSi (pc := 2) C rfl dX8_answer_2 kX8_53 (tX8_isBelow Z.1 C.w) rfl rfl (Nat.le_of_ble_eq_true rfl) (by decide) (fun x2 G2 h2 => ?_)
  obtain ⟨rfl, h2b⟩ := h2
  have h2b := h2b.symm
  subst h2b
  refine r_if_eq (pc := 5) 32 C dX8_answer_5 (by decide) (fun c5 => ?_) (fun c5 => ?_)
  · refine r_iconst (pc := 32) (v := (-1)) C dX8_answer_32 (by decide) ?_
    exact r_ireturn (pc := 33) C dX8_answer_33 (by rw [if_neg (fun h => by have k : belB _ _ = false := bI_z.mp c5; simp [k] at h)]; exact ⟨rfl, rfl⟩)
  · refine r_iload2 (pc := 8) C dX8_answer_8 ?_
    refine r_aload0 (pc := 9) C dX8_answer_9 ?_
    refine gX8_28 (pc := 10) C dX8_answer_10 ?_
    refine gX8_72 (pc := 13) C dX8_answer_13 ?_
    refine r_eqi hro.1 ?_
    refine r_callSi (pc := 16) C rfl dX8_answer_16 kX8_53 (tX8_isBelow Z.1 C.w) rfl rfl (Nat.le_of_ble_eq_true rfl) (by decide) (fun x16 G16 h16 => ?_)
    obtain ⟨rfl, h16b⟩ := h16
    have h16b := h16b.symm
    subst h16b
    refine r_if_eq (pc := 19) 32 C dX8_answer_19 (by decide) (fun c19 => ?_) (fun c19 => ?_)
    · refine r_iconst (pc := 32) (v := (-1)) C dX8_answer_32 (by decide) ?_
      exact r_ireturn (pc := 33) C dX8_answer_33 (by rw [if_neg (fun h => by have k : belB _ _ = false := bI_z.mp c19; simp [k] at h)]; exact ⟨rfl, rfl⟩)
    · refine r_iload3 (pc := 22) C dX8_answer_22 ?_
      refine r_sipush (pc := 23) (v := nI 300) C dX8_answer_23 (by decide) ?_
      refine r_callSi (pc := 26) C rfl dX8_answer_26 kX8_53 (tX8_isBelow Z.1 C.w) rfl rfl (Nat.le_of_ble_eq_true rfl) (by decide) (fun x26 G26 h26 => ?_)
      obtain ⟨rfl, h26b⟩ := h26
      have h26b := h26b.symm
      subst h26b
      refine r_if_ne (pc := 29) 34 C dX8_answer_29 (by decide) (fun c29 => ?_) (fun c29 => ?_)
      · obtain ⟨u, hu, rfl⟩ := belB_t (bI_n.mp c5) (by decide)
        obtain ⟨i, hi, rfl⟩ := belB_t (bI_n.mp c19) (by omega)
        obtain ⟨x, hx, rfl⟩ := belB_t (bI_n.mp c29) (by decide)
        refine r_aload0 (pc := 34) C dX8_answer_34 ?_
        refine r_callVv (pc := 35) C rfl dX8_answer_35 kX8_118 gF8 jC0 (tX8_freshen Z.1 C.w hro) rfl rfl (Nat.le_of_ble_eq_true rfl) (by decide) (fun G35 h35 => ?_)
        have hF := h35.fr
        have e6 : G35.1 6 = G.1 6 := hF.1 6 (sP0_no (by omega) (by decide))
        refine r_aload0 (pc := 38) C dX8_answer_38 ?_
        refine gX8_37 (pc := 39) C dX8_answer_39 ?_
        refine r_iload1 (pc := 42) C dX8_answer_42 ?_
        refine r_iload2 (pc := 43) C dX8_answer_43 ?_
        refine r_iload3 (pc := 44) C dX8_answer_44 ?_
        refine r_callVi (pc := 45) C rfl dX8_answer_45 kX8_121 gF5 jC15 (tX5_answerAtEnd Z.1 C.w (k := u) (i := i) (t := x) (jk := jk) (nk := nk) hu (by omega) hx ⟨hro.2.2.2.1.1, fun k hk => ⟨by rw [hF.2.2]; exact (hro.2.2.2.1.2 k hk).1, by
    have := hro.2.2.2.1.1 k
    exact (hro.2.2.2.1.2 k hk).2.fr hF (sP0_no (by omega) (by omega)) (sP0_no (by omega) (by omega)) (sP0_no (by omega) (by omega)) (sP0_no (by omega) (by omega))⟩⟩) rfl rfl (Nat.le_of_ble_eq_true rfl) (by decide) (fun x45 G45 h45 => ?_)
        exact r_ireturn (pc := 48) C dX8_answer_48 (by
  rw [if_pos ⟨bI_n.mp c5, bI_n.mp c19, bI_n.mp c29⟩, cN_nI (by omega), cN_nI (by omega), cN_nI (by omega)]
  obtain ⟨rfl, hF45⟩ := h45
  refine ⟨G35, h35, hF45, ?_⟩
  have := hro.2.2.2.1.1 u
  rw [chC_fr hF (sP0_no (by omega) (by omega)) (sP0_no (by omega) (by omega)) (sP0_no (by omega) (by omega)) (sP0_no (by omega) (by omega)) (sP0_no (by omega) (by omega)), e6])
      · refine r_iconst (pc := 32) (v := (-1)) C dX8_answer_32 (by decide) ?_
        exact r_ireturn (pc := 33) C dX8_answer_33 (by rw [if_neg (fun h => by have k : belB _ _ = false := bI_z.mp c29; simp [k] at h)]; exact ⟨rfl, rfl⟩)
set_option maxHeartbeats 4000000 in
set_option maxRecDepth 100000 in
theorem tX8_count (Y : gY) (hY : Y.2.2.2 = wC) {G : gS} {mc fc : Nat} {jk nk : Nat → Nat} {st : Bool} (hro : runOk G mc fc jk nk st) {q : Int32} : ∀ l : Launch, gM Y l yX8_count cX8_count 2 (some .int) (7, 163) [.ref (Y.2.1 (0)), .int (q)] G (qi (fun r G' => if q = nI 0 then (r = G.1 6 1 ∧ G' = G) else if q = nI 1 then (r = G.1 6 4 ∧ G' = G) else if q = nI 2 then (r = G.1 (40 + jk 0) 0 ∧ G' = G) else if q = nI 3 then (r = G.1 (40 + jk 1) 0 ∧ G' = G) else if q = nI 4 then (r = G.1 11 0 ∧ G' = G) else if q = nI 5 then (r = G.1 6 5 ∧ G' = G) else if q = nI 6 then (frP (hC G jk nk mc) st G G' ∧ r = G'.1 15 5) else if q = nI 7 then (r = G.1 1 1 ∧ G' = G) else (r = -1 ∧ G' = G))) := by
  intro l
  refine gM_of hY rfl (Nat.le_of_ble_eq_true rfl) [some (.ref (Y.2.1 (0))), some (.int (q))] rfl rfl ?_
  rintro Z rfl C
  have hm8 := hro.2.1
  have hj0 := hro.2.2.2.1.1 0
  have hj1 := hro.2.2.2.1.1 1
  refine r_iload1 (pc := 0) C dX8_count_0 ?_
  by_cases s1_0 : q = nI 0
  · refine r_eqi s1_0 ?_
    refine r_tableIn (pc := 1) 48 C dX8_count_1 (by decide) (by decide) (off := 47) rfl (by decide) ?_
    refine r_aload0 (pc := 48) C dX8_count_48 ?_
    refine gX8_28 (pc := 49) C dX8_count_49 ?_
    refine gX8_72 (pc := 52) C dX8_count_52 ?_
    exact r_ireturn (pc := 55) C dX8_count_55 (by rw [if_pos s1_0]; exact ⟨rfl, rfl⟩)
  by_cases s1_1 : q = nI 1
  · refine r_eqi s1_1 ?_
    refine r_tableIn (pc := 1) 56 C dX8_count_1 (by decide) (by decide) (off := 55) rfl (by decide) ?_
    refine r_aload0 (pc := 56) C dX8_count_56 ?_
    refine gX8_28 (pc := 57) C dX8_count_57 ?_
    refine gX8_79 (pc := 60) C dX8_count_60 ?_
    exact r_ireturn (pc := 63) C dX8_count_63 (by rw [if_neg s1_0, if_pos s1_1]; exact ⟨rfl, rfl⟩)
  by_cases s1_2 : q = nI 2
  · refine r_eqi s1_2 ?_
    refine r_tableIn (pc := 1) 64 C dX8_count_1 (by decide) (by decide) (off := 63) rfl (by decide) ?_
    refine r_aload0 (pc := 64) C dX8_count_64 ?_
    refine gX8_28 (pc := 65) C dX8_count_65 ?_
    refine gX8_61 (pc := 68) C dX8_count_68 ?_
    refine r_iconst (pc := 71) (v := nI 0) C dX8_count_71 (by decide) ?_
    refine r_aald (pc := 72) (0) C dX8_count_72 aC14 (fun _ => rfl) (rfl) (by omega) ((show G.2.2 14 0 = 40 + jk 0 from (hro.2.2.2.1.2 0 (by decide)).1)) ?_
    refine gX8_158 (pc := 73) C (by omega) dX8_count_73 ?_
    exact r_ireturn (pc := 76) C dX8_count_76 (by rw [if_neg s1_0, if_neg s1_1, if_pos s1_2]; exact ⟨rfl, rfl⟩)
  by_cases s1_3 : q = nI 3
  · refine r_eqi s1_3 ?_
    refine r_tableIn (pc := 1) 77 C dX8_count_1 (by decide) (by decide) (off := 76) rfl (by decide) ?_
    refine r_aload0 (pc := 77) C dX8_count_77 ?_
    refine gX8_28 (pc := 78) C dX8_count_78 ?_
    refine gX8_61 (pc := 81) C dX8_count_81 ?_
    refine r_iconst (pc := 84) (v := nI 1) C dX8_count_84 (by decide) ?_
    refine r_aald (pc := 85) (1) C dX8_count_85 aC14 (fun _ => rfl) (rfl) (by omega) ((show G.2.2 14 1 = 40 + jk 1 from (hro.2.2.2.1.2 1 (by decide)).1)) ?_
    refine gX8_158 (pc := 86) C (by omega) dX8_count_86 ?_
    exact r_ireturn (pc := 89) C dX8_count_89 (by rw [if_neg s1_0, if_neg s1_1, if_neg s1_2, if_pos s1_3]; exact ⟨rfl, rfl⟩)
  by_cases s1_4 : q = nI 4
  · refine r_eqi s1_4 ?_
    refine r_tableIn (pc := 1) 90 C dX8_count_1 (by decide) (by decide) (off := 89) rfl (by decide) ?_
    refine r_aload0 (pc := 90) C dX8_count_90 ?_
    refine gX8_28 (pc := 91) C dX8_count_91 ?_
    refine gX8_93 (pc := 94) C dX8_count_94 ?_
    refine gX8_163 (pc := 97) C dX8_count_97 ?_
    exact r_ireturn (pc := 100) C dX8_count_100 (by rw [if_neg s1_0, if_neg s1_1, if_neg s1_2, if_neg s1_3, if_pos s1_4]; exact ⟨rfl, rfl⟩)
  by_cases s1_5 : q = nI 5
  · refine r_eqi s1_5 ?_
    refine r_tableIn (pc := 1) 101 C dX8_count_1 (by decide) (by decide) (off := 100) rfl (by decide) ?_
    refine r_aload0 (pc := 101) C dX8_count_101 ?_
    refine gX8_28 (pc := 102) C dX8_count_102 ?_
    refine gX8_86 (pc := 105) C dX8_count_105 ?_
    exact r_ireturn (pc := 108) C dX8_count_108 (by rw [if_neg s1_0, if_neg s1_1, if_neg s1_2, if_neg s1_3, if_neg s1_4, if_pos s1_5]; exact ⟨rfl, rfl⟩)
  by_cases s1_6 : q = nI 6
  · refine r_eqi s1_6 ?_
    refine r_tableIn (pc := 1) 109 C dX8_count_1 (by decide) (by decide) (off := 108) rfl (by decide) ?_
    refine r_aload0 (pc := 109) C dX8_count_109 ?_
    refine r_callVv (pc := 110) C rfl dX8_count_110 kX8_118 gF8 jC0 (tX8_freshen Z.1 C.w hro) rfl rfl (Nat.le_of_ble_eq_true rfl) (by decide) (fun G110 h110 => ?_)
    have hF := h110.fr
    have e6 : G110.1 6 = G.1 6 := hF.1 6 (sP0_no (by omega) (by decide))
    refine r_aload0 (pc := 113) C dX8_count_113 ?_
    refine gX8_37 (pc := 114) C dX8_count_114 ?_
    refine gX8_166 (pc := 117) C dX8_count_117 ?_
    exact r_ireturn (pc := 120) C dX8_count_120 (by rw [if_neg s1_0, if_neg s1_1, if_neg s1_2, if_neg s1_3, if_neg s1_4, if_neg s1_5, if_pos s1_6]; exact ⟨h110, rfl⟩)
  by_cases s1_7 : q = nI 7
  · refine r_eqi s1_7 ?_
    refine r_tableIn (pc := 1) 121 C dX8_count_1 (by decide) (by decide) (off := 120) rfl (by decide) ?_
    refine r_aload0 (pc := 121) C dX8_count_121 ?_
    refine gX8_13 (pc := 122) C dX8_count_122 ?_
    refine gX8_45 (pc := 125) C dX8_count_125 ?_
    exact r_ireturn (pc := 128) C dX8_count_128 (by rw [if_neg s1_0, if_neg s1_1, if_neg s1_2, if_neg s1_3, if_neg s1_4, if_neg s1_5, if_neg s1_6, if_pos s1_7]; exact ⟨rfl, rfl⟩)
  refine r_tableOut (pc := 1) 129 C dX8_count_1 (tsw_o 0 7 (fun v a b => by rcases (show v = 0 ∨ v = 1 ∨ v = 2 ∨ v = 3 ∨ v = 4 ∨ v = 5 ∨ v = 6 ∨ v = 7 by omega) with rfl | rfl | rfl | rfl | rfl | rfl | rfl | rfl <;> assumption) (by decide)) (by decide) ?_
  refine r_iconst (pc := 129) (v := (-1)) C dX8_count_129 (by decide) ?_
  exact r_ireturn (pc := 130) C dX8_count_130 (by rw [if_neg s1_0, if_neg s1_1, if_neg s1_2, if_neg s1_3, if_neg s1_4, if_neg s1_5, if_neg s1_6, if_neg s1_7]; exact ⟨rfl, rfl⟩)
set_option maxHeartbeats 4000000 in
set_option maxRecDepth 100000 in
theorem tX8_read (Y : gY) (hY : Y.2.2.2 = wC) {G : gS} {n jr : Nat} {jk nk : Nat → Nat} {k : Int32} (hT : tapeOk G n) (hjr : jr < 3) (hrj : G.2.2 3 3 = 40 + jr) (hko : keepOk G jk nk) : ∀ l : Launch, gM Y l yX8_read cX8_read 3 (some .int) (5, 107) [.ref (Y.2.1 (0)), .int (k)] G (qi (fun r G' => if belB k (nI 2) = true then (∃ G1, (r = (pRun (tB G) n 401 0 0 pS0).1 ∧ G1.1 3 8 = (pRun (tB G) n 401 0 0 pS0).2.1 ∧ Fr (sT jr) G G1 ∧ (r = nI 0 → RS G1 jr true (pRun (tB G) n 401 0 0 pS0).2.2.2.2.2.2.2 ∧ ∃ k, pInv k (pRun (tB G) n 401 0 0 pS0).2.2)) ∧ G' = (if r = 0 then sI (sR (sR (sI G1 1 1 (nI 0)) 3 3 (40 + jk (cN k))) 14 (cN k) (40 + jr)) 0 4 (nI 1) else sI G1 1 1 (nI 0))) else (r = -1 ∧ G' = G))) := by
  intro l
  refine gM_of hY rfl (Nat.le_of_ble_eq_true rfl) [some (.ref (Y.2.1 (0))), some (.int (k)), none] rfl rfl ?_
  rintro Z rfl C
  refine r_iload1 (pc := 0) C dX8_read_0 ?_
  refine r_iconst (pc := 1) (v := nI 2) C dX8_read_1 (by decide) ?_
  refine r_callSi (pc := 2) C rfl dX8_read_2 kX8_53 (tX8_isBelow Z.1 C.w) rfl rfl (Nat.le_of_ble_eq_true rfl) (by decide) (fun x2 G2 h2 => ?_)
  obtain ⟨rfl, h2b⟩ := h2
  have h2b := h2b.symm
  subst h2b
  refine r_if_ne (pc := 5) 10 C dX8_read_5 (by decide) (fun c5 => ?_) (fun c5 => ?_)
  · obtain ⟨u, hu, rfl⟩ := belB_t (bI_n.mp c5) (by decide)
    obtain ⟨j1, j2⟩ := hko.2 u hu
    have j3 := hko.1 u
    refine r_aload0 (pc := 10) C dX8_read_10 ?_
    refine gX8_24 (pc := 11) C dX8_read_11 ?_
    refine r_callVi (pc := 14) C rfl dX8_read_14 kX8_57 gF3 jC3 (tX3_compile Z.1 C.w (j := jr) hjr hrj hT) rfl rfl (Nat.le_of_ble_eq_true rfl) (by decide) (fun x14 G14 h14 => ?_)
    refine r_istore2 (pc := 17) C dX8_read_17 rfl ?_
    refine r_aload0 (pc := 18) C dX8_read_18 ?_
    refine gX8_13 (pc := 19) C dX8_read_19 ?_
    refine r_iconst (pc := 22) (v := nI 0) C dX8_read_22 (by decide) ?_
    refine pX8_45 (pc := 23) C dX8_read_23 ?_
    refine r_iload2 (pc := 26) C dX8_read_26 ?_
    refine r_if_ne (pc := 27) 60 C dX8_read_27 (by decide) (fun c27 => ?_) (fun c27 => ?_)
    · refine r_iload2 (pc := 60) C dX8_read_60 ?_
      exact r_ireturn (pc := 61) C dX8_read_61 (by rw [if_pos (show belB _ _ = true from bI_n.mp c5), cN_nI (by omega)]; exact ⟨G14, h14, by rw [if_neg c27]⟩)
    · refine r_aload0 (pc := 30) C dX8_read_30 ?_
      refine gX8_28 (pc := 31) C dX8_read_31 ?_
      refine gX8_61 (pc := 34) C dX8_read_34 ?_
      refine r_iload1 (pc := 37) C dX8_read_37 ?_
      refine r_aload0 (pc := 38) C dX8_read_38 ?_
      refine gX8_24 (pc := 39) C dX8_read_39 ?_
      refine r_aload0 (pc := 42) C dX8_read_42 ?_
      refine gX8_28 (pc := 43) C dX8_read_43 ?_
      refine gX8_61 (pc := 46) C dX8_read_46 ?_
      refine r_iload1 (pc := 49) C dX8_read_49 ?_
      refine r_aald (pc := 50) (u) C dX8_read_50 aC14 (fun _ => rfl) (rfl) (by omega) ((show G14.2.2 14 u = 40 + jk u from by rw [h14.2.2.1.2.2]; exact j1)) ?_
      refine r_callVr (pc := 51) C rfl dX8_read_51 kX8_65 gF3 jC3 (tX3_exchange Z.1 C.w (y := 40 + jk u)) rfl rfl (Nat.le_of_ble_eq_true rfl) (by decide) (fun x51 G51 h51 => ?_)
      obtain ⟨rfl, rfl⟩ := h51
      refine r_eqr (y := 40 + jr) (show G14.2.2 3 3 = 40 + jr from by rw [h14.2.2.1.2.2]; exact hrj) ?_
      refine r_aast (pc := 54) (u) C dX8_read_54 aC14 (fun _ => rfl) (fun _ => rfl) gF4 (jCr hjr) (rfl) (by omega) ?_
      refine r_aload0 (pc := 55) C dX8_read_55 ?_
      refine r_iconst (pc := 56) (v := nI 1) C dX8_read_56 (by decide) ?_
      refine pX8_41 (pc := 57) C dX8_read_57 rfl rfl ?_
      refine r_iload2 (pc := 60) C dX8_read_60 ?_
      exact r_ireturn (pc := 61) C dX8_read_61 (by rw [if_pos (show belB _ _ = true from bI_n.mp c5), cN_nI (by omega)]; exact ⟨G14, h14, by rw [if_pos c27]⟩)
  · refine r_iconst (pc := 8) (v := (-1)) C dX8_read_8 (by decide) ?_
    exact r_ireturn (pc := 9) C dX8_read_9 (by rw [if_neg (fun h => by have k : belB _ _ = false := bI_z.mp c5; simp [k] at h)]; exact ⟨rfl, rfl⟩)
