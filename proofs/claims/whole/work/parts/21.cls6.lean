def anC (G : gS) (jk nk : Nat → Nat) : Nat → (Nat → Int32) → Int32 := fun k v => chC G (jk k) (nk k) v (G.1 6 4)
def ahF (G : gS) (jk nk : Nat → Nat) : Nat → (Nat → Int32) → Int32 := fun k v => ahC G (jk k) (nk k) v
def sA (q : Nat) : Prop := sMr q ∨ sQ q
theorem sA_no {q : Nat} (h1 : q < 32 ∨ 40 ≤ q) (h2 : q ≠ 21) (h3 : q < 100 ∨ 103 ≤ q) : ¬ sA q := by
  rintro (h | h | h)
  · have := h.1; have := h.2; omega
  · exact h2 h
  · omega
theorem anC_fr {G G' : gS} {jk nk : Nat → Nat} (hF : Fr sA G G') (hj : ∀ k, jk k < 3) : anC G' jk nk = anC G jk nk := by
  funext k v
  have := hj k
  unfold anC
  rw [hF.1 6 (sA_no (by omega) (by omega) (by omega)), chC_fr hF (sA_no (by omega) (by omega) (by omega)) (sA_no (by omega) (by omega) (by omega)) (sA_no (by omega) (by omega) (by omega)) (sA_no (by omega) (by omega) (by omega)) (sA_no (by omega) (by omega) (by omega))]
theorem ahF_fr {G G' : gS} {jk nk : Nat → Nat} (hF : Fr sA G G') (hj : ∀ k, jk k < 3) : ahF G' jk nk = ahF G jk nk := by
  funext k v
  have := hj k
  unfold ahF
  rw [ahC_fr hF (sA_no (by omega) (by omega) (by omega)) (sA_no (by omega) (by omega) (by omega)) (sA_no (by omega) (by omega) (by omega)) (sA_no (by omega) (by omega) (by omega)) (sA_no (by omega) (by omega) (by omega))]
theorem mF_one {G G' : gS} {i : Nat} {f : Nat → Int32} (hF : Fr (fun q => q = 32 + i ∨ sQ q) G G') (hi : i < 8) (h : G'.1 (32 + i) = f) : mF G' = va_up (mF G) i f := by
  funext j
  by_cases e : j = i
  · subst e; rw [va_up_self, mF_i hi, h]
  · rw [va_up_ne _ _ e]
    simp only [mF]
    by_cases h8 : j < 8
    · rw [if_pos h8, if_pos h8, hF.1 _ (by rintro (h | h | h) <;> omega)]
    · rw [if_neg h8, if_neg h8]
set_option maxHeartbeats 4000000 in
set_option maxRecDepth 100000 in
theorem tX5_ask (Y : gY) (hY : Y.2.2.2 = wC) {G : gS} {mc t : Nat} {jk nk : Nat → Nat} (hmc : G.1 6 1 = nI mc) (hm8 : mc ≤ 8) (ht : t < 300) (hK : kOk mc (mF G)) (hj3 : ∀ k, jk k < 3) (hjk : ∀ k, k < 2 → G.2.2 14 k = 40 + jk k ∧ RW G (jk k) (nk k)) : ∀ l : Launch, gM Y l yX5_ask cX5_ask 4 none (4, 98) [.ref (Y.2.1 (15)), .int (nI t)] G (qv (fun G' => Fr sA G G' ∧ mF G' = itN (askS mc (nI t) (fun i => bt (G.1 12 t) i) (fun k => bt (G.1 12 t) (16 + k)) (anC G jk nk) (ahF G jk nk)) mc (mF G) ∧ kOk mc (mF G'))) := by
  intro l
  refine gM_of hY rfl (Nat.le_of_ble_eq_true rfl) [some (.ref (Y.2.1 (15))), some (.int (nI t)), none, none] rfl rfl ?_
  rintro Z rfl C
  have loop : ∀ (k0 : Nat) (x : Nat) (Gx : gS) (o3 : Option Value), k0 = mc - x → x ≤ mc → Fr sA G Gx → mF Gx = itN (askS mc (nI t) (fun i => bt (G.1 12 t) i) (fun k => bt (G.1 12 t) (16 + k)) (anC G jk nk) (ahF G jk nk)) x (mF G) → kOk mc (mF Gx) → WW Z (qv (fun G' => Fr sA G G' ∧ mF G' = itN (askS mc (nI t) (fun i => bt (G.1 12 t) i) (fun k => bt (G.1 12 t) (16 + k)) (anC G jk nk) (ahF G jk nk)) mc (mF G) ∧ kOk mc (mF G'))) 2 [some (.ref (ad Z (15))), some (.int (nI t)), some (.int (nI x)), o3] [] Gx := by
    intro k0
    induction k0 using Nat.strongRecOn with
    | _ k0 ih =>
      intro x Gx o3 hk0 hx hF hM hK
      have e6 : Gx.1 6 1 = nI mc := by rw [hF.1 _ (sA_no (by omega) (by omega) (by omega))]; exact hmc
      refine r_iload2 (pc := 2) C dX5_ask_2 ?_
      refine r_aload0 (pc := 3) C dX5_ask_3 ?_
      refine gX5_31 (pc := 4) C dX5_ask_4 ?_
      refine gX5_82 (pc := 7) C dX5_ask_7 ?_
      refine r_eqi e6 ?_
      refine r_icmp_ge (pc := 10) 52 C dX5_ask_10 (by decide) (fun c10 => ?_) (fun c10 => ?_)
      · obtain rfl : x = mc := by have := (nI_leI (by omega) (by omega)).mp c10; omega
        exact r_return (pc := 52) C dX5_ask_52 (⟨hF, hM, hK⟩)
      · have hlt10 : x < mc := by
          rcases Nat.lt_or_ge x mc with h | h
          · exact h
          · exact absurd (nI_le h (by omega)) c10
        refine r_aload0 (pc := 13) C dX5_ask_13 ?_
        refine gX5_31 (pc := 14) C dX5_ask_14 ?_
        refine gX5_85 (pc := 17) C dX5_ask_17 ?_
        refine r_iload2 (pc := 20) C dX5_ask_20 ?_
        refine r_aald (pc := 21) (x) C dX5_ask_21 aC7 (fun _ => rfl) (rfl) (by omega) (rfl) ?_
        refine r_astore3 (pc := 22) C dX5_ask_22 rfl ?_
        refine r_aload3 (pc := 23) C dX5_ask_23 ?_
        refine gX5_99 (pc := 24) C (by omega) dX5_ask_24 ?_
        refine r_iconst (pc := 27) (v := nI 1) C dX5_ask_27 (by decide) ?_
        refine r_icmp_ne (pc := 28) 46 C dX5_ask_28 (by decide) (fun c28 => ?_) (fun c28 => ?_)
        · refine r_iinc2 (pc := 46) (nI 1) C dX5_ask_46 (by decide) rfl ?_
          rw [nI_add]
          refine r_goto (pc := 49) 2 C dX5_ask_49 (by decide) ?_
          refine ih (mc - (x + 1)) (by omega) (x + 1) _ _ rfl (by omega) hF ?_ hK
          rw [itN_s, ← hM, askS, if_neg (by rw [mF_i (show x < 8 by omega)]; exact fun h => c28 h.1)]
        · refine r_iload1 (pc := 31) C dX5_ask_31 ?_
          refine r_aload3 (pc := 32) C dX5_ask_32 ?_
          refine gX5_114 (pc := 33) C (by omega) dX5_ask_33 ?_
          refine r_icmp_lt (pc := 36) 46 C dX5_ask_36 (by decide) (fun c36 => ?_) (fun c36 => ?_)
          · refine r_iinc2 (pc := 46) (nI 1) C dX5_ask_46 (by decide) rfl ?_
            rw [nI_add]
            refine r_goto (pc := 49) 2 C dX5_ask_49 (by decide) ?_
            refine ih (mc - (x + 1)) (by omega) (x + 1) _ _ rfl (by omega) hF ?_ hK
            rw [itN_s, ← hM, askS, if_neg (by rw [mF_i (show x < 8 by omega)]; exact fun h => h.2 c36)]
          · refine r_aload0 (pc := 39) C dX5_ask_39 ?_
            refine r_iload2 (pc := 40) C dX5_ask_40 ?_
            refine r_aload3 (pc := 41) C dX5_ask_41 ?_
            refine r_iload1 (pc := 42) C dX5_ask_42 ?_
            refine r_callVv (pc := 43) C rfl dX5_ask_43 kX5_117 gF5 jC15 (tX5_question Z.1 C.w (mc := mc) (i := x) (t := t) (jk := jk) (nk := nk) e6 hm8 hlt10 ht hK (fun k hk => ⟨by rw [hF.2.2]; exact (hjk k hk).1, hj3 k, (hjk k hk).2.fr hF (by have := hj3 k; exact sA_no (by omega) (by omega) (by omega)) (by have := hj3 k; exact sA_no (by omega) (by omega) (by omega)) (by have := hj3 k; exact sA_no (by omega) (by omega) (by omega)) (by have := hj3 k; exact sA_no (by omega) (by omega) (by omega))⟩)) rfl rfl (Nat.le_of_ble_eq_true rfl) (by decide) (fun G43 h43 => ?_)
            obtain ⟨hF43, h43⟩ := h43
            refine r_iinc2 (pc := 46) (nI 1) C dX5_ask_46 (by decide) rfl ?_
            rw [nI_add]
            refine r_goto (pc := 49) 2 C dX5_ask_49 (by decide) ?_
            have hc := anC_fr (nk := nk) hF hj3
            have ha := ahF_fr (nk := nk) hF hj3
            have hrowE : G43.1 (32 + x) = qsF (nI t) (hrd (bt (G.1 12 t) x) (fun k => bt (G.1 12 t) (16 + k)) (anC G jk nk) (ahF G jk nk) (vqF (nI t) (mF Gx x))) (waitsF mc (mF Gx) x (hrd (bt (G.1 12 t) x) (fun k => bt (G.1 12 t) (16 + k)) (anC G jk nk) (ahF G jk nk) (vqF (nI t) (mF Gx x))).2) (mF Gx x) := by
              rw [h43, ← hc, ← ha, mF_i (show x < 8 by omega), hF.1 12 (sA_no (by omega) (by omega) (by omega))]
              rfl
            refine ih (mc - (x + 1)) (by omega) (x + 1) _ _ rfl (by omega) (hF.trans (hF43.mono ?_)) ?_ ?_
            · rintro q (h | h)
              · exact Or.inl ⟨by omega, by omega⟩
              · exact Or.inr h
            · rw [mF_one hF43 (by omega) hrowE, itN_s, ← hM, askS, if_pos (by rw [mF_i (show x < 8 by omega)]; exact ⟨c28, c36⟩)]
            · rw [mF_one hF43 (by omega) hrowE]
              exact kOk_up hK (m0_qs _ _ _ _)
  refine r_iconst (pc := 0) (v := nI 0) C dX5_ask_0 (by decide) ?_
  refine r_istore2 (pc := 1) C dX5_ask_1 rfl ?_
  exact loop _ 0 G none rfl (Nat.zero_le _) Fr.refl rfl hK
set_option maxHeartbeats 4000000 in
set_option maxRecDepth 100000 in
theorem tX5_install (Y : gY) (hY : Y.2.2.2 = wC) {G : gS} {mc fc t : Nat} (hmc : G.1 6 1 = nI mc) (hm8 : mc ≤ 8) (ht : t < 300) (hK : kOk mc (mF G)) (hfc : fc ≤ 6) (hO : ∀ i, i < mc → fOk fc (G.1 8) (mF G i)) : ∀ l : Launch, gM Y l yX5_install cX5_install 4 none (2, 42) [.ref (Y.2.1 (15)), .int (nI t)] G (qv (fun G' => Fr sMr G G' ∧ mF G' = itN (insS (G.1 8) (nI t)) mc (mF G) ∧ kOk mc (mF G'))) := by
  intro l
  refine gM_of hY rfl (Nat.le_of_ble_eq_true rfl) [some (.ref (Y.2.1 (15))), some (.int (nI t)), none, none] rfl rfl ?_
  rintro Z rfl C
  have loop : ∀ (k0 : Nat) (x : Nat) (Gx : gS) (o3 : Option Value), k0 = mc - x → x ≤ mc → Fr sMr G Gx → mF Gx = itN (insS (G.1 8) (nI t)) x (mF G) → kOk mc (mF Gx) → (∀ i, x ≤ i → mF Gx i = mF G i) → WW Z (qv (fun G' => Fr sMr G G' ∧ mF G' = itN (insS (G.1 8) (nI t)) mc (mF G) ∧ kOk mc (mF G'))) 2 [some (.ref (ad Z (15))), some (.int (nI t)), some (.int (nI x)), o3] [] Gx := by
    intro k0
    induction k0 using Nat.strongRecOn with
    | _ k0 ih =>
      intro x Gx o3 hk0 hx hF hM hK hU
      have e6 : Gx.1 6 1 = nI mc := by rw [hF.1 _ (by intro h; have := h.1; omega)]; exact hmc
      refine r_iload2 (pc := 2) C dX5_install_2 ?_
      refine r_aload0 (pc := 3) C dX5_install_3 ?_
      refine gX5_31 (pc := 4) C dX5_install_4 ?_
      refine gX5_82 (pc := 7) C dX5_install_7 ?_
      refine r_eqi e6 ?_
      refine r_icmp_ge (pc := 10) 61 C dX5_install_10 (by decide) (fun c10 => ?_) (fun c10 => ?_)
      · obtain rfl : x = mc := by have := (nI_leI (by omega) (by omega)).mp c10; omega
        exact r_return (pc := 61) C dX5_install_61 (⟨hF, hM, hK⟩)
      · have hlt10 : x < mc := by
          rcases Nat.lt_or_ge x mc with h | h
          · exact h
          · exact absurd (nI_le h (by omega)) c10
        refine r_aload0 (pc := 13) C dX5_install_13 ?_
        refine gX5_31 (pc := 14) C dX5_install_14 ?_
        refine gX5_85 (pc := 17) C dX5_install_17 ?_
        refine r_iload2 (pc := 20) C dX5_install_20 ?_
        refine r_aald (pc := 21) (x) C dX5_install_21 aC7 (fun _ => rfl) (rfl) (by omega) (rfl) ?_
        refine r_astore3 (pc := 22) C dX5_install_22 rfl ?_
        refine r_aload3 (pc := 23) C dX5_install_23 ?_
        refine gX5_99 (pc := 24) C (by omega) dX5_install_24 ?_
        refine r_iconst (pc := 27) (v := nI 3) C dX5_install_27 (by decide) ?_
        refine r_icmp_ne (pc := 28) 55 C dX5_install_28 (by decide) (fun c28 => ?_) (fun c28 => ?_)
        · refine r_iinc2 (pc := 55) (nI 1) C dX5_install_55 (by decide) rfl ?_
          rw [nI_add]
          refine r_goto (pc := 58) 2 C dX5_install_58 (by decide) ?_
          refine ih (mc - (x + 1)) (by omega) (x + 1) _ _ rfl (by omega) hF ?_ hK (fun i hi => hU i (by omega))
          rw [itN_s, ← hM, insS, if_neg (by rw [mF_i (show x < 8 by omega)]; exact fun h => c28 h.1)]
        · refine r_aload3 (pc := 31) C dX5_install_31 ?_
          refine gX5_188 (pc := 32) C (by omega) dX5_install_32 ?_
          refine r_iload1 (pc := 35) C dX5_install_35 ?_
          refine r_icmp_gt (pc := 36) 55 C dX5_install_36 (by decide) (fun c36 => ?_) (fun c36 => ?_)
          · refine r_iinc2 (pc := 55) (nI 1) C dX5_install_55 (by decide) rfl ?_
            rw [nI_add]
            refine r_goto (pc := 58) 2 C dX5_install_58 (by decide) ?_
            refine ih (mc - (x + 1)) (by omega) (x + 1) _ _ rfl (by omega) hF ?_ hK (fun i hi => hU i (by omega))
            rw [itN_s, ← hM, insS, if_neg (by rw [mF_i (show x < 8 by omega)]; exact fun h => h.2 c36)]
          · have hOk := (hO x hlt10).2
            rw [← hU x (Nat.le_refl _), mF_i (show x < 8 by omega)] at hOk
            obtain ⟨f1, f2⟩ := hOk c28
            refine r_aload3 (pc := 39) C dX5_install_39 ?_
            refine r_aload0 (pc := 40) C dX5_install_40 ?_
            refine gX5_31 (pc := 41) C dX5_install_41 ?_
            refine gX5_209 (pc := 44) C dX5_install_44 ?_
            refine r_aload3 (pc := 47) C dX5_install_47 ?_
            refine gX5_191 (pc := 48) C (by omega) dX5_install_48 ?_
            refine r_iald (pc := 51) (_) C dX5_install_51 aC8 (f1) (by omega) ?_
            refine r_eqi (y := G.1 8 (cN (Gx.1 (32 + x) 4))) (by rw [hF.1 _ (by intro h; have := h.1; omega)]) ?_
            refine r_callVv (pc := 52) C rfl dX5_install_52 kX5_226 gF2 (jCm (by omega)) (tX2_write Z.1 C.w (by omega)) rfl rfl (Nat.le_of_ble_eq_true rfl) (by decide) (fun G52 h52 => ?_)
            subst h52
            refine r_iinc2 (pc := 55) (nI 1) C dX5_install_55 (by decide) rfl ?_
            rw [nI_add]
            refine r_goto (pc := 58) 2 C dX5_install_58 (by decide) ?_
            refine ih (mc - (x + 1)) (by omega) (x + 1) _ _ rfl (by omega) (hF.sW (sMr_i (by omega))) ?_ ?_ (fun i hi => by rw [mF_W (by omega), va_up_ne _ _ (by omega)]; exact hU i (by omega))
            · rw [mF_W (by omega), itN_s, ← hM, insS, if_pos (by rw [mF_i (show x < 8 by omega)]; exact ⟨c28, c36⟩), mF_i (show x < 8 by omega)]
            · rw [mF_W (by omega)]; exact kOk_up hK (by rw [mF_i (by omega)]; exact m0_write _ _)
  refine r_iconst (pc := 0) (v := nI 0) C dX5_install_0 (by decide) ?_
  refine r_istore2 (pc := 1) C dX5_install_1 rfl ?_
  exact loop _ 0 G none rfl (Nat.zero_le _) Fr.refl rfl hK (fun _ _ => rfl)
set_option maxHeartbeats 4000000 in
set_option maxRecDepth 100000 in
theorem tX5_isSettled (Y : gY) (hY : Y.2.2.2 = wC) {G : gS} {mc : Nat} (hmc : G.1 6 1 = nI mc) (hm8 : mc ≤ 8) : ∀ l : Launch, gM Y l yX5_isSettled cX5_isSettled 2 (some .boolean) (1, 20) [.ref (Y.2.1 (15))] G (qi (fun r G' => r = bI (doneF mc (mF G)) ∧ G' = G)) := by
  intro l
  refine gM_of hY rfl (Nat.le_of_ble_eq_true rfl) [some (.ref (Y.2.1 (15))), none] rfl rfl ?_
  rintro Z rfl C
  have loop : ∀ (k0 : Nat) (x : Nat), k0 = mc - x → x ≤ mc → anyN (fun i => !mDone (mF G i)) x = false → WW Z (qi (fun r G' => r = bI (doneF mc (mF G)) ∧ G' = G)) 2 [some (.ref (ad Z (15))), some (.int (nI x))] [] G := by
    intro k0
    induction k0 using Nat.strongRecOn with
    | _ k0 ih =>
      intro x hk0 hx hp
      refine r_iload1 (pc := 2) C dX5_isSettled_2 ?_
      refine r_aload0 (pc := 3) C dX5_isSettled_3 ?_
      refine gX5_31 (pc := 4) C dX5_isSettled_4 ?_
      refine gX5_82 (pc := 7) C dX5_isSettled_7 ?_
      refine r_eqi hmc ?_
      refine r_icmp_ge (pc := 10) 36 C dX5_isSettled_10 (by decide) (fun c10 => ?_) (fun c10 => ?_)
      · obtain rfl : x = mc := by have := (nI_leI (by omega) (by omega)).mp c10; omega
        refine r_iconst (pc := 36) (v := nI 1) C dX5_isSettled_36 (by decide) ?_
        exact r_zreturn (pc := 37) C dX5_isSettled_37 (rfl) (⟨by rw [doneF, hp]; rfl, rfl⟩)
      · have hlt10 : x < mc := by
          rcases Nat.lt_or_ge x mc with h | h
          · exact h
          · exact absurd (nI_le h (by omega)) c10
        refine r_aload0 (pc := 13) C dX5_isSettled_13 ?_
        refine gX5_31 (pc := 14) C dX5_isSettled_14 ?_
        refine gX5_85 (pc := 17) C dX5_isSettled_17 ?_
        refine r_iload1 (pc := 20) C dX5_isSettled_20 ?_
        refine r_aald (pc := 21) (x) C dX5_isSettled_21 aC7 (fun _ => rfl) (rfl) (by omega) (rfl) ?_
        refine r_callVi (pc := 22) C rfl dX5_isSettled_22 kX5_229 gF2 (jCm (by omega)) (tX2_isSettled Z.1 C.w (by omega)) rfl rfl (Nat.le_of_ble_eq_true rfl) (by decide) (fun x22 G22 h22 => ?_)
        obtain ⟨rfl, h22b⟩ := h22
        have h22b := h22b.symm
        subst h22b
        refine r_if_ne (pc := 25) 30 C dX5_isSettled_25 (by decide) (fun c25 => ?_) (fun c25 => ?_)
        · refine r_iinc1 (pc := 30) (nI 1) C dX5_isSettled_30 (by decide) rfl ?_
          rw [nI_add]
          refine r_goto (pc := 33) 2 C dX5_isSettled_33 (by decide) ?_
          exact ih (mc - (x + 1)) (by omega) (x + 1) rfl (by omega) (anyN_f hp (by rw [mF_i (by omega), bI_n.mp c25]; rfl))
        · refine r_iconst (pc := 28) (v := nI 0) C dX5_isSettled_28 (by decide) ?_
          exact r_zreturn (pc := 29) C dX5_isSettled_29 (rfl) (⟨by rw [doneF, anyN_t (x := x) (by rw [mF_i (by omega), bI_z.mp c25]; rfl) hlt10]; rfl, rfl⟩)
  refine r_iconst (pc := 0) (v := nI 0) C dX5_isSettled_0 (by decide) ?_
  refine r_istore1 (pc := 1) C dX5_isSettled_1 rfl ?_
  exact loop _ 0 rfl (Nat.zero_le _) rfl
set_option maxHeartbeats 4000000 in
set_option maxRecDepth 100000 in
theorem tX5_keep (Y : gY) (hY : Y.2.2.2 = wC) {G : gS} {mc t : Nat} (hmc : G.1 6 1 = nI mc) (hm8 : mc ≤ 8) (ht : t < 300) : ∀ l : Launch, gM Y l yX5_keep cX5_keep 3 none (1, 24) [.ref (Y.2.1 (15)), .int (nI t)] G (qv (fun G' => G'.1 = G.1 ∧ G'.2.2 = G.2.2 ∧ (∀ r, r ≠ 16 → G'.2.1 r = G.2.1 r) ∧ G'.2.1 16 = kpL t (mF G) mc (G.2.1 16))) := by
  intro l
  refine gM_of hY rfl (Nat.le_of_ble_eq_true rfl) [some (.ref (Y.2.1 (15))), some (.int (nI t)), none] rfl rfl ?_
  rintro Z rfl C
  have loop : ∀ (k0 : Nat) (x : Nat) (Gx : gS), k0 = mc - x → x ≤ mc → Gx.1 = G.1 → Gx.2.2 = G.2.2 → (∀ r, r ≠ 16 → Gx.2.1 r = G.2.1 r) → Gx.2.1 16 = kpL t (mF G) x (G.2.1 16) → WW Z (qv (fun G' => G'.1 = G.1 ∧ G'.2.2 = G.2.2 ∧ (∀ r, r ≠ 16 → G'.2.1 r = G.2.1 r) ∧ G'.2.1 16 = kpL t (mF G) mc (G.2.1 16))) 2 [some (.ref (ad Z (15))), some (.int (nI t)), some (.int (nI x))] [] Gx := by
    intro k0
    induction k0 using Nat.strongRecOn with
    | _ k0 ih =>
      intro x Gx hk0 hx h1 h2 h3 h4
      have e6 : Gx.1 6 1 = nI mc := by rw [h1]; exact hmc
      refine r_iload2 (pc := 2) C dX5_keep_2 ?_
      refine r_aload0 (pc := 3) C dX5_keep_3 ?_
      refine gX5_31 (pc := 4) C dX5_keep_4 ?_
      refine gX5_82 (pc := 7) C dX5_keep_7 ?_
      refine r_eqi e6 ?_
      refine r_icmp_ge (pc := 10) 43 C dX5_keep_10 (by decide) (fun c10 => ?_) (fun c10 => ?_)
      · obtain rfl : x = mc := by have := (nI_leI (by omega) (by omega)).mp c10; omega
        exact r_return (pc := 43) C dX5_keep_43 (⟨h1, h2, h3, h4⟩)
      · have hlt10 : x < mc := by
          rcases Nat.lt_or_ge x mc with h | h
          · exact h
          · exact absurd (nI_le h (by omega)) c10
        refine r_aload0 (pc := 13) C dX5_keep_13 ?_
        refine gX5_9 (pc := 14) C dX5_keep_14 ?_
        refine r_iload2 (pc := 17) C dX5_keep_17 ?_
        refine r_sipush (pc := 18) (v := nI 300) C dX5_keep_18 (by decide) ?_
        refine r_imul (pc := 21) C dX5_keep_21 ?_
        refine r_eqi (pk_mul x 300) ?_
        refine r_iload1 (pc := 22) C dX5_keep_22 ?_
        refine r_iadd (pc := 23) C dX5_keep_23 ?_
        refine r_eqi (nI_add _ _) ?_
        refine r_aload0 (pc := 24) C dX5_keep_24 ?_
        refine gX5_31 (pc := 25) C dX5_keep_25 ?_
        refine gX5_85 (pc := 28) C dX5_keep_28 ?_
        refine r_iload2 (pc := 31) C dX5_keep_31 ?_
        refine r_aald (pc := 32) (x) C dX5_keep_32 aC7 (fun _ => rfl) (rfl) (by omega) (rfl) ?_
        refine r_callVl (pc := 33) C rfl dX5_keep_33 kX5_230 gF2 (jCm (by omega)) (tX2_snapshot Z.1 C.w (by omega)) rfl rfl (Nat.le_of_ble_eq_true rfl) (by decide) (fun x33 G33 h33 => ?_)
        obtain ⟨rfl, h33b⟩ := h33
        have h33b := h33b.symm
        subst h33b
        refine r_last (pc := 36) (_) C dX5_keep_36 aC16 (rfl) (by omega) ?_
        refine r_iinc2 (pc := 37) (nI 1) C dX5_keep_37 (by decide) rfl ?_
        rw [nI_add]
        refine r_goto (pc := 40) 2 C dX5_keep_40 (by decide) ?_
        refine ih (mc - (x + 1)) (by omega) (x + 1) _ rfl (by omega) h1 h2 (fun r hr => (sL_o hr).trans (h3 r hr)) ?_
        rw [sL_s, h4, kpL, mF_i (by omega), h1, Nat.mul_comm]
  refine r_iconst (pc := 0) (v := nI 0) C dX5_keep_0 (by decide) ?_
  refine r_istore2 (pc := 1) C dX5_keep_1 rfl ?_
  exact loop _ 0 G rfl (Nat.zero_le _) rfl rfl (fun _ _ => rfl) rfl
set_option maxHeartbeats 4000000 in
set_option maxRecDepth 100000 in
theorem tX5_recorded (Y : gY) (hY : Y.2.2.2 = wC) {G : gS} {m t q : Nat} (hm : m < 8) (ht : t < 300) (hq : q < 10) : ∀ l : Launch, gM Y l yX5_recorded cX5_recorded 6 (some .int) (0, 0) [.ref (Y.2.1 (15)), .int (nI m), .int (nI t), .int (nI q)] G (qi (fun r G' => r = rcd (G.2.1 16 (300 * m + t)) q ∧ G' = G)) := by
  intro l
  refine gM_of hY rfl (Nat.le_of_ble_eq_true rfl) [some (.ref (Y.2.1 (15))), some (.int (nI m)), some (.int (nI t)), some (.int (nI q)), none, none] rfl rfl ?_
  rintro Z rfl C
  refine r_stI (pc := 0) (n := "SHIFTS") tSh C dX5_recorded_0 (by decide) (by decide) (fun hAt hA => ?_)
  refine r_iload3 (pc := 3) C dX5_recorded_3 ?_
  refine r_iconst (pc := 4) (v := nI 1) C dX5_recorded_4 (by decide) ?_
  refine r_iadd (pc := 5) C dX5_recorded_5 ?_
  refine r_eqi (nI_add q 1) ?_
  refine r_tald (pc := 6) (_) C dX5_recorded_6 hA (by decide) (rfl) (by show q + 1 < 11; omega) ?_
  refine r_stI (pc := 7) (n := "SHIFTS") tSh C dX5_recorded_7 (by decide) (by decide) (fun hBt hB => ?_)
  refine r_iload3 (pc := 10) C dX5_recorded_10 ?_
  refine r_tald (pc := 11) (_) C dX5_recorded_11 hB (by decide) (rfl) (by show q < 11; omega) ?_
  refine r_isub (pc := 12) C dX5_recorded_12 ?_
  refine r_istore4 (pc := 13) C dX5_recorded_13 rfl ?_
  refine r_aload0 (pc := 15) C dX5_recorded_15 ?_
  refine gX5_9 (pc := 16) C dX5_recorded_16 ?_
  refine r_iload1 (pc := 19) C dX5_recorded_19 ?_
  refine r_sipush (pc := 20) (v := nI 300) C dX5_recorded_20 (by decide) ?_
  refine r_imul (pc := 23) C dX5_recorded_23 ?_
  refine r_eqi (pk_mul m 300) ?_
  refine r_iload2 (pc := 24) C dX5_recorded_24 ?_
  refine r_iadd (pc := 25) C dX5_recorded_25 ?_
  refine r_eqi (nI_add _ _) ?_
  refine r_lald (pc := 26) (_) C dX5_recorded_26 aC16 (rfl) (by omega) ?_
  refine r_stI (pc := 27) (n := "SHIFTS") tSh C dX5_recorded_27 (by decide) (by decide) (fun hDt hD => ?_)
  refine r_iload3 (pc := 30) C dX5_recorded_30 ?_
  refine r_tald (pc := 31) (_) C dX5_recorded_31 hD (by decide) (rfl) (by show q < 11; omega) ?_
  refine r_lushr (pc := 32) C dX5_recorded_32 ?_
  refine r_l2i (pc := 33) C dX5_recorded_33 ?_
  refine r_iconst (pc := 34) (v := nI 1) C dX5_recorded_34 (by decide) ?_
  refine r_iload4 (pc := 35) C dX5_recorded_35 ?_
  refine r_ishl (pc := 37) C dX5_recorded_37 ?_
  refine r_iconst (pc := 38) (v := nI 1) C dX5_recorded_38 (by decide) ?_
  refine r_isub (pc := 39) C dX5_recorded_39 ?_
  refine r_iand (pc := 40) C dX5_recorded_40 ?_
  refine r_istore5 (pc := 41) C dX5_recorded_41 rfl ?_
  refine r_iload5 (pc := 43) C dX5_recorded_43 ?_
  refine r_iconst (pc := 45) (v := nI 1) C dX5_recorded_45 (by decide) ?_
  refine r_isub (pc := 46) C dX5_recorded_46 ?_
  exact r_ireturn (pc := 47) C dX5_recorded_47 (⟨by rw [Nat.mul_comm]; rfl, rfl⟩)
set_option maxHeartbeats 4000000 in
set_option maxRecDepth 100000 in
theorem tX5_upBits (Y : gY) (hY : Y.2.2.2 = wC) {G : gS} {mc : Nat} (hmc : G.1 6 1 = nI mc) (hm8 : mc ≤ 8) : ∀ l : Launch, gM Y l yX5_upBits cX5_upBits 3 (some .int) (0, 0) [.ref (Y.2.1 (15))] G (qi (fun r G' => r = upF (mF G) mc ∧ G' = G)) := by
  intro l
  refine gM_of hY rfl (Nat.le_of_ble_eq_true rfl) [some (.ref (Y.2.1 (15))), none, none] rfl rfl ?_
  rintro Z rfl C
  have loop : ∀ (k0 : Nat) (x : Nat) (b : Int32), k0 = mc - x → x ≤ mc → b = upF (mF G) x → WW Z (qi (fun r G' => r = upF (mF G) mc ∧ G' = G)) 4 [some (.ref (ad Z (15))), some (.int (b)), some (.int (nI x))] [] G := by
    intro k0
    induction k0 using Nat.strongRecOn with
    | _ k0 ih =>
      intro x b hk0 hx hp
      refine r_iload2 (pc := 4) C dX5_upBits_4 ?_
      refine r_aload0 (pc := 5) C dX5_upBits_5 ?_
      refine gX5_31 (pc := 6) C dX5_upBits_6 ?_
      refine gX5_82 (pc := 9) C dX5_upBits_9 ?_
      refine r_eqi hmc ?_
      refine r_icmp_ge (pc := 12) 43 C dX5_upBits_12 (by decide) (fun c12 => ?_) (fun c12 => ?_)
      · obtain rfl : x = mc := by have := (nI_leI (by omega) (by omega)).mp c12; omega
        refine r_iload1 (pc := 43) C dX5_upBits_43 ?_
        exact r_ireturn (pc := 44) C dX5_upBits_44 (⟨hp, rfl⟩)
      · have hlt12 : x < mc := by
          rcases Nat.lt_or_ge x mc with h | h
          · exact h
          · exact absurd (nI_le h (by omega)) c12
        refine r_aload0 (pc := 15) C dX5_upBits_15 ?_
        refine gX5_31 (pc := 16) C dX5_upBits_16 ?_
        refine gX5_85 (pc := 19) C dX5_upBits_19 ?_
        refine r_iload2 (pc := 22) C dX5_upBits_22 ?_
        refine r_aald (pc := 23) (x) C dX5_upBits_23 aC7 (fun _ => rfl) (rfl) (by omega) (rfl) ?_
        refine gX5_99 (pc := 24) C (by omega) dX5_upBits_24 ?_
        refine r_iconst (pc := 27) (v := nI 4) C dX5_upBits_27 (by decide) ?_
        refine r_icmp_ne (pc := 28) 37 C dX5_upBits_28 (by decide) (fun c28 => ?_) (fun c28 => ?_)
        · refine r_iinc2 (pc := 37) (nI 1) C dX5_upBits_37 (by decide) rfl ?_
          rw [nI_add]
          refine r_goto (pc := 40) 4 C dX5_upBits_40 (by decide) ?_
          exact ih (mc - (x + 1)) (by omega) (x + 1) _ rfl (by omega) (by rw [upF, mF_i (by omega), if_neg c28, hp])
        · refine r_iload1 (pc := 31) C dX5_upBits_31 ?_
          refine r_iconst (pc := 32) (v := nI 1) C dX5_upBits_32 (by decide) ?_
          refine r_iload2 (pc := 33) C dX5_upBits_33 ?_
          refine r_ishl (pc := 34) C dX5_upBits_34 ?_
          refine r_ior (pc := 35) C dX5_upBits_35 ?_
          refine r_istore1 (pc := 36) C dX5_upBits_36 rfl ?_
          refine r_iinc2 (pc := 37) (nI 1) C dX5_upBits_37 (by decide) rfl ?_
          rw [nI_add]
          refine r_goto (pc := 40) 4 C dX5_upBits_40 (by decide) ?_
          exact ih (mc - (x + 1)) (by omega) (x + 1) _ rfl (by omega) (by rw [upF, mF_i (by omega), if_pos c28, hp])
  refine r_iconst (pc := 0) (v := nI 0) C dX5_upBits_0 (by decide) ?_
  refine r_istore1 (pc := 1) C dX5_upBits_1 rfl ?_
  refine r_iconst (pc := 2) (v := nI 0) C dX5_upBits_2 (by decide) ?_
  refine r_istore2 (pc := 3) C dX5_upBits_3 rfl ?_
  exact loop _ 0 (nI 0) rfl (Nat.zero_le _) rfl
set_option maxHeartbeats 4000000 in
set_option maxRecDepth 100000 in
theorem tX5_settledFrom (Y : gY) (hY : Y.2.2.2 = wC) {G : gS} : ∀ l : Launch, gM Y l yX5_settledFrom cX5_settledFrom 1 (some .int) (0, 0) [.ref (Y.2.1 (15))] G (qi (fun r G' => r = (if G.1 6 1 = 0 then nI 300 else G.1 15 6 + nI 1) ∧ G' = G)) := by
  intro l
  refine gM_of hY rfl (Nat.le_of_ble_eq_true rfl) [some (.ref (Y.2.1 (15)))] rfl rfl ?_
  rintro Z rfl C
  refine r_aload0 (pc := 0) C dX5_settledFrom_0 ?_
  refine gX5_31 (pc := 1) C dX5_settledFrom_1 ?_
  refine gX5_82 (pc := 4) C dX5_settledFrom_4 ?_
  refine r_if_ne (pc := 7) 16 C dX5_settledFrom_7 (by decide) (fun c7 => ?_) (fun c7 => ?_)
  · refine r_aload0 (pc := 16) C dX5_settledFrom_16 ?_
    refine gX5_55 (pc := 17) C dX5_settledFrom_17 ?_
    refine r_iconst (pc := 20) (v := nI 1) C dX5_settledFrom_20 (by decide) ?_
    refine r_iadd (pc := 21) C dX5_settledFrom_21 ?_
    exact r_ireturn (pc := 22) C dX5_settledFrom_22 (by first | exact ⟨(if_neg c7).symm, rfl⟩ | exact ⟨(if_pos c7).symm, rfl⟩)
  · refine r_sipush (pc := 10) (v := nI 300) C dX5_settledFrom_10 (by decide) ?_
    refine r_goto (pc := 13) 22 C dX5_settledFrom_13 (by decide) ?_
    exact r_ireturn (pc := 22) C dX5_settledFrom_22 (by first | exact ⟨(if_neg c7).symm, rfl⟩ | exact ⟨(if_pos c7).symm, rfl⟩)
def ush (x : Int32) (k : Nat) : Int32 := (x.toUInt32 >>> ((nI k).toUInt32 &&& Int32.toUInt32 31)).toInt32
def bc1 (x : Int32) : Int32 := x - (ush x 1 &&& 1431655765)
def bc2 (x : Int32) : Int32 := (x &&& 858993459) + (ush x 2 &&& 858993459)
def bc3 (x : Int32) : Int32 := (x + ush x 4) &&& 252645135
def bc4 (x : Int32) : Int32 := x + ush x 8
def bc5 (x : Int32) : Int32 := x + ush x 16
def bcP (x : Int32) : Int32 := bc5 (bc4 (bc3 (bc2 (bc1 x)))) &&& nI 63
set_option maxHeartbeats 4000000 in
set_option maxRecDepth 100000 in
theorem tJ6_bitCount_0f7a4 (Y : gY) (hY : Y.2.2.2 = wC) {G : gS} {x : Int32} : ∀ l : Launch, gM Y l yJ6_bitCount_0f7a4 cJ6_bitCount_0f7a4 1 (some .int) (0, 0) [.int (x)] G (qi (fun r G' => r = bcP x ∧ G' = G)) := by
  intro l
  refine gM_of hY rfl (Nat.le_of_ble_eq_true rfl) [some (.int (x))] rfl rfl ?_
  rintro Z rfl C
  refine r_iload0 (pc := 0) C dJ6_bitCount_0f7a4_0 ?_
  refine r_iload0 (pc := 1) C dJ6_bitCount_0f7a4_1 ?_
  refine r_iconst (pc := 2) (v := nI 1) C dJ6_bitCount_0f7a4_2 (by decide) ?_
  refine r_iushr (pc := 3) C dJ6_bitCount_0f7a4_3 ?_
  refine r_ldcw (pc := 4) C dJ6_bitCount_0f7a4_4 ctJ6_265 ?_
  refine r_iand (pc := 7) C dJ6_bitCount_0f7a4_7 ?_
  refine r_isub (pc := 8) C dJ6_bitCount_0f7a4_8 ?_
  refine r_istore0 (pc := 9) C dJ6_bitCount_0f7a4_9 ?_
  refine r_iload0 (pc := 10) C dJ6_bitCount_0f7a4_10 ?_
  refine r_ldcw (pc := 11) C dJ6_bitCount_0f7a4_11 ctJ6_266 ?_
  refine r_iand (pc := 14) C dJ6_bitCount_0f7a4_14 ?_
  refine r_iload0 (pc := 15) C dJ6_bitCount_0f7a4_15 ?_
  refine r_iconst (pc := 16) (v := nI 2) C dJ6_bitCount_0f7a4_16 (by decide) ?_
  refine r_iushr (pc := 17) C dJ6_bitCount_0f7a4_17 ?_
  refine r_ldcw (pc := 18) C dJ6_bitCount_0f7a4_18 ctJ6_266 ?_
  refine r_iand (pc := 21) C dJ6_bitCount_0f7a4_21 ?_
  refine r_iadd (pc := 22) C dJ6_bitCount_0f7a4_22 ?_
  refine r_istore0 (pc := 23) C dJ6_bitCount_0f7a4_23 ?_
  refine r_iload0 (pc := 24) C dJ6_bitCount_0f7a4_24 ?_
  refine r_iload0 (pc := 25) C dJ6_bitCount_0f7a4_25 ?_
  refine r_iconst (pc := 26) (v := nI 4) C dJ6_bitCount_0f7a4_26 (by decide) ?_
  refine r_iushr (pc := 27) C dJ6_bitCount_0f7a4_27 ?_
  refine r_iadd (pc := 28) C dJ6_bitCount_0f7a4_28 ?_
  refine r_ldcw (pc := 29) C dJ6_bitCount_0f7a4_29 ctJ6_267 ?_
  refine r_iand (pc := 32) C dJ6_bitCount_0f7a4_32 ?_
  refine r_istore0 (pc := 33) C dJ6_bitCount_0f7a4_33 ?_
  refine r_iload0 (pc := 34) C dJ6_bitCount_0f7a4_34 ?_
  refine r_iload0 (pc := 35) C dJ6_bitCount_0f7a4_35 ?_
  refine r_bipush (pc := 36) (v := nI 8) C dJ6_bitCount_0f7a4_36 (by decide) ?_
  refine r_iushr (pc := 38) C dJ6_bitCount_0f7a4_38 ?_
  refine r_iadd (pc := 39) C dJ6_bitCount_0f7a4_39 ?_
  refine r_istore0 (pc := 40) C dJ6_bitCount_0f7a4_40 ?_
  refine r_iload0 (pc := 41) C dJ6_bitCount_0f7a4_41 ?_
  refine r_iload0 (pc := 42) C dJ6_bitCount_0f7a4_42 ?_
  refine r_bipush (pc := 43) (v := nI 16) C dJ6_bitCount_0f7a4_43 (by decide) ?_
  refine r_iushr (pc := 45) C dJ6_bitCount_0f7a4_45 ?_
  refine r_iadd (pc := 46) C dJ6_bitCount_0f7a4_46 ?_
  refine r_istore0 (pc := 47) C dJ6_bitCount_0f7a4_47 ?_
  refine r_iload0 (pc := 48) C dJ6_bitCount_0f7a4_48 ?_
  refine r_bipush (pc := 49) (v := nI 63) C dJ6_bitCount_0f7a4_49 (by decide) ?_
  refine r_iand (pc := 51) C dJ6_bitCount_0f7a4_51 ?_
  exact r_ireturn (pc := 52) C dJ6_bitCount_0f7a4_52 (⟨rfl, rfl⟩)
set_option maxHeartbeats 4000000 in
set_option maxRecDepth 100000 in
theorem tX5_cost (Y : gY) (hY : Y.2.2.2 = wC) {G : gS} {mc : Nat} (hmc : G.1 6 1 = nI mc) (hm8 : mc ≤ 8) : ∀ l : Launch, gM Y l yX5_cost cX5_cost 2 (some .int) (1, 22) [.ref (Y.2.1 (15))] G (qi (fun r G' => r = ((G.1 6 1 - bcP (upF (mF G) mc)) * nI 301 + (if G.1 6 1 = 0 then nI 300 else G.1 15 6 + nI 1)) * nI 2401 + G.1 15 5 ∧ G' = G)) := by
  intro l
  refine gM_of hY rfl (Nat.le_of_ble_eq_true rfl) [some (.ref (Y.2.1 (15))), none] rfl rfl ?_
  rintro Z rfl C
  refine r_aload0 (pc := 0) C dX5_cost_0 ?_
  refine gX5_31 (pc := 1) C dX5_cost_1 ?_
  refine gX5_82 (pc := 4) C dX5_cost_4 ?_
  refine r_aload0 (pc := 7) C dX5_cost_7 ?_
  refine r_callVi (pc := 8) C rfl dX5_cost_8 kX5_241 gF5 jC15 (tX5_upBits Z.1 C.w hmc hm8) rfl rfl (Nat.le_of_ble_eq_true rfl) (by decide) (fun x8 G8 h8 => ?_)
  obtain ⟨rfl, h8b⟩ := h8
  have h8b := h8b.symm
  subst h8b
  refine r_callSi (pc := 11) C rfl dX5_cost_11 kX5_245 (tJ6_bitCount_0f7a4 Z.1 C.w) rfl rfl (Nat.le_of_ble_eq_true rfl) (by decide) (fun x11 G11 h11 => ?_)
  obtain ⟨rfl, h11b⟩ := h11
  have h11b := h11b.symm
  subst h11b
  refine r_isub (pc := 14) C dX5_cost_14 ?_
  refine r_istore1 (pc := 15) C dX5_cost_15 rfl ?_
  refine r_iload1 (pc := 16) C dX5_cost_16 ?_
  refine r_sipush (pc := 17) (v := nI 301) C dX5_cost_17 (by decide) ?_
  refine r_imul (pc := 20) C dX5_cost_20 ?_
  refine r_aload0 (pc := 21) C dX5_cost_21 ?_
  refine r_callVi (pc := 22) C rfl dX5_cost_22 kX5_250 gF5 jC15 (tX5_settledFrom Z.1 C.w) rfl rfl (Nat.le_of_ble_eq_true rfl) (by decide) (fun x22 G22 h22 => ?_)
  obtain ⟨rfl, h22b⟩ := h22
  have h22b := h22b.symm
  subst h22b
  refine r_iadd (pc := 25) C dX5_cost_25 ?_
  refine r_sipush (pc := 26) (v := nI 2401) C dX5_cost_26 (by decide) ?_
  refine r_imul (pc := 29) C dX5_cost_29 ?_
  refine r_aload0 (pc := 30) C dX5_cost_30 ?_
  refine gX5_79 (pc := 31) C dX5_cost_31 ?_
  refine r_iadd (pc := 34) C dX5_cost_34 ?_
  exact r_ireturn (pc := 35) C dX5_cost_35 (⟨rfl, rfl⟩)
set_option maxHeartbeats 4000000 in
set_option maxRecDepth 100000 in
theorem tX5_change (Y : gY) (hY : Y.2.2.2 = wC) {G : gS} {m : Nat} (hm : m < 8) {ix : Int32} : ∀ l : Launch, gM Y l yX5_change cX5_change 7 (some .int) (1, 25) [.ref (Y.2.1 (15)), .int (nI m), .int (ix)] G (qi (fun r G' => r = chgF (fun t => rcd (G.2.1 16 (300 * m + t)) 0) ix 300 0 (nI 0) (nI 0) ∧ G' = G)) := by
  intro l
  refine gM_of hY rfl (Nat.le_of_ble_eq_true rfl) [some (.ref (Y.2.1 (15))), some (.int (nI m)), some (.int (ix)), none, none, none, none] rfl rfl ?_
  rintro Z rfl C
  have loop : ∀ (k0 : Nat) (x : Nat) (b n : Int32) (o6 : Option Value), k0 = 300 - x → x ≤ 300 → chgF (fun t => rcd (G.2.1 16 (300 * m + t)) 0) ix (300 - x) x b n = chgF (fun t => rcd (G.2.1 16 (300 * m + t)) 0) ix 300 0 (nI 0) (nI 0) → WW Z (qi (fun r G' => r = chgF (fun t => rcd (G.2.1 16 (300 * m + t)) 0) ix 300 0 (nI 0) (nI 0) ∧ G' = G)) 8 [some (.ref (ad Z (15))), some (.int (nI m)), some (.int (ix)), some (.int (b)), some (.int (n)), some (.int (nI x)), o6] [] G := by
    intro k0
    induction k0 using Nat.strongRecOn with
    | _ k0 ih =>
      intro x b n o6 hk0 hx hp
      refine r_iload5 (pc := 8) C dX5_change_8 ?_
      refine r_sipush (pc := 10) (v := nI 300) C dX5_change_10 (by decide) ?_
      refine r_icmp_ge (pc := 13) 59 C dX5_change_13 (by decide) (fun c13 => ?_) (fun c13 => ?_)
      · obtain rfl : x = 300 := by have := (nI_leI (by omega) (by omega)).mp c13; omega
        refine r_iconst (pc := 59) (v := (-1)) C dX5_change_59 (by decide) ?_
        exact r_ireturn (pc := 60) C dX5_change_60 (⟨by rw [← hp]; rfl, rfl⟩)
      · have hlt13 : x < 300 := by
          rcases Nat.lt_or_ge x 300 with h | h
          · exact h
          · exact absurd (nI_le h (by omega)) c13
        refine r_aload0 (pc := 16) C dX5_change_16 ?_
        refine r_iload1 (pc := 17) C dX5_change_17 ?_
        refine r_iload5 (pc := 18) C dX5_change_18 ?_
        refine r_iconst (pc := 20) (v := nI 0) C dX5_change_20 (by decide) ?_
        refine r_callVi (pc := 21) C rfl dX5_change_21 kX5_237 gF5 jC15 (tX5_recorded Z.1 C.w (m := m) (t := x) (q := 0) hm (by omega) (by omega)) rfl rfl (Nat.le_of_ble_eq_true rfl) (by decide) (fun x21 G21 h21 => ?_)
        obtain ⟨rfl, h21b⟩ := h21
        have h21b := h21b.symm
        subst h21b
        refine r_istore6 (pc := 24) C dX5_change_24 rfl ?_
        refine r_iload6 (pc := 26) C dX5_change_26 ?_
        refine r_iload3 (pc := 28) C dX5_change_28 ?_
        refine r_icmp_eq (pc := 29) 53 C dX5_change_29 (by decide) (fun c29 => ?_) (fun c29 => ?_)
        · refine r_iinc5 (pc := 53) (nI 1) C dX5_change_53 (by decide) rfl ?_
          rw [nI_add]
          refine r_goto (pc := 56) 8 C dX5_change_56 (by decide) ?_
          refine ih (300 - (x + 1)) (by omega) (x + 1) _ _ _ rfl (by omega) ?_
          rw [← hp, show 300 - x = (300 - (x + 1)) + 1 by omega, chgF, if_pos c29]
        · refine r_iload4 (pc := 32) C dX5_change_32 ?_
          refine r_iload2 (pc := 34) C dX5_change_34 ?_
          refine r_icmp_ne (pc := 35) 47 C dX5_change_35 (by decide) (fun c35 => ?_) (fun c35 => ?_)
          · refine r_iinc4 (pc := 47) (nI 1) C dX5_change_47 (by decide) rfl ?_
            refine r_iload6 (pc := 50) C dX5_change_50 ?_
            refine r_istore3 (pc := 52) C dX5_change_52 rfl ?_
            refine r_iinc5 (pc := 53) (nI 1) C dX5_change_53 (by decide) rfl ?_
            rw [nI_add]
            refine r_goto (pc := 56) 8 C dX5_change_56 (by decide) ?_
            refine ih (300 - (x + 1)) (by omega) (x + 1) _ _ _ rfl (by omega) ?_
            rw [← hp, show 300 - x = (300 - (x + 1)) + 1 by omega, chgF, if_neg c29, if_neg c35]
          · refine r_bipush (pc := 38) (v := nI 10) C dX5_change_38 (by decide) ?_
            refine r_iload5 (pc := 40) C dX5_change_40 ?_
            refine r_imul (pc := 42) C dX5_change_42 ?_
            refine r_iload6 (pc := 43) C dX5_change_43 ?_
            refine r_iadd (pc := 45) C dX5_change_45 ?_
            exact r_ireturn (pc := 46) C dX5_change_46 (⟨by rw [← hp, show 300 - x = (300 - (x + 1)) + 1 by omega, chgF, if_neg c29, if_pos c35], rfl⟩)
  refine r_iconst (pc := 0) (v := nI 0) C dX5_change_0 (by decide) ?_
  refine r_istore3 (pc := 1) C dX5_change_1 rfl ?_
  refine r_iconst (pc := 2) (v := nI 0) C dX5_change_2 (by decide) ?_
  refine r_istore4 (pc := 3) C dX5_change_3 rfl ?_
  refine r_iconst (pc := 5) (v := nI 0) C dX5_change_5 (by decide) ?_
  refine r_istore5 (pc := 6) C dX5_change_6 rfl ?_
  exact loop _ 0 (nI 0) (nI 0) none rfl (Nat.zero_le _) rfl
set_option maxHeartbeats 4000000 in
set_option maxRecDepth 100000 in
theorem tX5_wantedBlock (Y : gY) (hY : Y.2.2.2 = wC) {G : gS} {i : Nat} (hi : i < 8) : ∀ l : Launch, gM Y l yX5_wantedBlock cX5_wantedBlock 1 (some .int) (0, 0) [.ref (Y.2.1 (32 + i))] G (qi (fun r G' => r = G.1 (32 + i) 4 * nI 12 + G.1 (32 + i) 5 ∧ G' = G)) := by
  intro l
  refine gM_of hY rfl (Nat.le_of_ble_eq_true rfl) [some (.ref (Y.2.1 (32 + i)))] rfl rfl ?_
  rintro Z rfl C
  refine r_aload0 (pc := 0) C dX5_wantedBlock_0 ?_
  refine gX5_191 (pc := 1) C (by omega) dX5_wantedBlock_1 ?_
  refine r_bipush (pc := 4) (v := nI 12) C dX5_wantedBlock_4 (by decide) ?_
  refine r_imul (pc := 6) C dX5_wantedBlock_6 ?_
  refine r_aload0 (pc := 7) C dX5_wantedBlock_7 ?_
  refine gX5_194 (pc := 8) C (by omega) dX5_wantedBlock_8 ?_
  refine r_iadd (pc := 11) C dX5_wantedBlock_11 ?_
  exact r_ireturn (pc := 12) C dX5_wantedBlock_12 (⟨rfl, rfl⟩)
set_option maxHeartbeats 4000000 in
set_option maxRecDepth 100000 in
theorem tX5_goOn (Y : gY) (hY : Y.2.2.2 = wC) {G : gS} {i a : Nat} (hi : i < 8) (hf : G.1 (32 + i) 4 = nI a) (ha : a < 6) {s : Int32} : ∀ l : Launch, gM Y l yX5_goOn cX5_goOn 5 none (2, 44) [.ref (Y.2.1 (15)), .ref (Y.2.1 (32 + i)), .int (s)] G (qv (fun G' => G' = sW G (32 + i) (goF (G.1 6 4) (G.1 9 a) s (G.1 (32 + i))))) := by
  intro l
  refine gM_of hY rfl (Nat.le_of_ble_eq_true rfl) [some (.ref (Y.2.1 (15))), some (.ref (Y.2.1 (32 + i))), some (.int (s)), none, none] rfl rfl ?_
  rintro Z rfl C
  refine r_aload0 (pc := 0) C dX5_goOn_0 ?_
  refine gX5_31 (pc := 1) C dX5_goOn_1 ?_
  refine gX5_216 (pc := 4) C dX5_goOn_4 ?_
  refine r_aload1 (pc := 7) C dX5_goOn_7 ?_
  refine gX5_191 (pc := 8) C (by omega) dX5_goOn_8 ?_
  refine r_iald (pc := 11) (_) C dX5_goOn_11 aC9 (hf) (by omega) ?_
  refine r_istore3 (pc := 12) C dX5_goOn_12 rfl ?_
  refine r_aload1 (pc := 13) C dX5_goOn_13 ?_
  refine gX5_219 (pc := 14) C (by omega) dX5_goOn_14 ?_
  refine r_iconst (pc := 17) (v := nI 1) C dX5_goOn_17 (by decide) ?_
  refine r_iadd (pc := 18) C dX5_goOn_18 ?_
  refine r_istore4 (pc := 19) C dX5_goOn_19 rfl ?_
  refine r_iload3 (pc := 21) C dX5_goOn_21 ?_
  refine r_iconst (pc := 22) (v := (-1)) C dX5_goOn_22 (by decide) ?_
  refine r_icmp_ne (pc := 23) 34 C dX5_goOn_23 (by decide) (fun c23 => ?_) (fun c23 => ?_)
  · refine r_iload4 (pc := 34) C dX5_goOn_34 ?_
    refine r_iconst (pc := 36) (v := nI 4) C dX5_goOn_36 (by decide) ?_
    refine r_icmp_ge (pc := 37) 51 C dX5_goOn_37 (by decide) (fun c37 => ?_) (fun c37 => ?_)
    · refine r_aload1 (pc := 51) C dX5_goOn_51 ?_
      refine r_iconst (pc := 52) (v := nI 5) C dX5_goOn_52 (by decide) ?_
      refine r_callVv (pc := 53) C rfl dX5_goOn_53 kX5_223 gF2 (jCm (by omega)) (tX2_enterRescue Z.1 C.w hi) rfl rfl (Nat.le_of_ble_eq_true rfl) (by decide) (fun G53 h53 => ?_)
      subst h53
      refine r_goto (pc := 56) 67 C dX5_goOn_56 (by decide) ?_
      exact r_return (pc := 67) C dX5_goOn_67 (by rw [goF, if_neg c23, if_pos (Or.inl c37)])
    · refine r_iload3 (pc := 40) C dX5_goOn_40 ?_
      refine r_aload0 (pc := 41) C dX5_goOn_41 ?_
      refine gX5_31 (pc := 42) C dX5_goOn_42 ?_
      refine gX5_144 (pc := 45) C dX5_goOn_45 ?_
      refine r_icmp_lt (pc := 48) 59 C dX5_goOn_48 (by decide) (fun c48 => ?_) (fun c48 => ?_)
      · refine r_aload1 (pc := 59) C dX5_goOn_59 ?_
        refine r_iload3 (pc := 60) C dX5_goOn_60 ?_
        refine r_iload4 (pc := 61) C dX5_goOn_61 ?_
        refine r_iload2 (pc := 63) C dX5_goOn_63 ?_
        refine r_callVv (pc := 64) C rfl dX5_goOn_64 kX5_164 gF2 (jCm (by omega)) (tX2_fetch Z.1 C.w hi) rfl rfl (Nat.le_of_ble_eq_true rfl) (by decide) (fun G64 h64 => ?_)
        subst h64
        exact r_return (pc := 67) C dX5_goOn_67 (by rw [goF, if_neg c23, if_neg (fun h => h.elim c37 (Int32.not_le.mpr c48))])
      · refine r_aload1 (pc := 51) C dX5_goOn_51 ?_
        refine r_iconst (pc := 52) (v := nI 5) C dX5_goOn_52 (by decide) ?_
        refine r_callVv (pc := 53) C rfl dX5_goOn_53 kX5_223 gF2 (jCm (by omega)) (tX2_enterRescue Z.1 C.w hi) rfl rfl (Nat.le_of_ble_eq_true rfl) (by decide) (fun G53 h53 => ?_)
        subst h53
        refine r_goto (pc := 56) 67 C dX5_goOn_56 (by decide) ?_
        exact r_return (pc := 67) C dX5_goOn_67 (by rw [goF, if_neg c23, if_pos (Or.inr (Int32.not_lt.mp c48))])
  · refine r_aload1 (pc := 26) C dX5_goOn_26 ?_
    refine r_iload2 (pc := 27) C dX5_goOn_27 ?_
    refine r_callVv (pc := 28) C rfl dX5_goOn_28 kX5_222 gF2 (jCm (by omega)) (tX2_install Z.1 C.w hi) rfl rfl (Nat.le_of_ble_eq_true rfl) (by decide) (fun G28 h28 => ?_)
    subst h28
    refine r_goto (pc := 31) 67 C dX5_goOn_31 (by decide) ?_
    exact r_return (pc := 67) C dX5_goOn_67 (by rw [goF, if_pos c23])
