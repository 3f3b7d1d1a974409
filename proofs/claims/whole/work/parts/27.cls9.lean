/-- what has been told, as the class's heap has it -/
def hC (G : gS) (jk nk : Nat → Nat) (mc : Nat) : hQ := (mc, G.1 6 4, G.1 6 5, G.1 8, G.1 9, G.1 10, fun t i => bt (G.1 12 t) (8 + i), fun t i => bt (G.1 12 t) i, fun t k => bt (G.1 12 t) (16 + k), wrC G, anC G jk nk, ahF G jk nk)
/-- the roles that a run changes -/
def sP (q : Nat) : Prop := sMr q ∨ (15 ≤ q ∧ q ≤ 21) ∨ (100 ≤ q ∧ q < 103)
theorem sP_no {q : Nat} (h1 : q < 15 ∨ (21 < q ∧ q < 32) ∨ (40 ≤ q ∧ q < 100) ∨ 103 ≤ q) : ¬ sP q := by
  rintro (h | h | h)
  · have := h.1; have := h.2; omega
  · omega
  · omega
theorem hC_fr {G G' : gS} {jk nk : Nat → Nat} {mc : Nat} (hF : Fr sP G G') (hj : ∀ k, jk k < 3) : hC G' jk nk mc = hC G jk nk mc := by
  unfold hC wrC
  have e1 : anC G' jk nk = anC G jk nk := by
    funext k v
    have := hj k
    unfold anC
    rw [hF.1 6 (sP_no (by omega)), chC_fr hF (sP_no (by omega)) (sP_no (by omega)) (sP_no (by omega)) (sP_no (by omega)) (sP_no (by omega))]
  have e2 : ahF G' jk nk = ahF G jk nk := by
    funext k v
    have := hj k
    unfold ahF
    rw [ahC_fr hF (sP_no (by omega)) (sP_no (by omega)) (sP_no (by omega)) (sP_no (by omega)) (sP_no (by omega))]
  rw [e1, e2, hF.1 6 (sP_no (by omega)), hF.1 8 (sP_no (by omega)), hF.1 9 (sP_no (by omega)), hF.1 10 (sP_no (by omega)), hF.1 12 (sP_no (by omega)), hF.2.1 13 (sP_no (by omega))]
def stR (G : gS) : rS := (mF G, G.1 17, G.1 18, G.1 19, G.1 15 5, G.1 15 6, G.2.1 16)
theorem hC_line {G : gS} {mc t : Nat} {S : Prop} {L : List Nat} (h : lineOk (nI t) mc (mF G) L) : lineOk (nI t) mc (mF G) (lineC (nI t) mc (mF G)) := by rw [← lineC_eq h]; exact h
/-- the keepers' rules stand where the class has them -/
def keepOk (G : gS) (jk nk : Nat → Nat) : Prop := (∀ k, jk k < 3) ∧ ∀ k, k < 2 → G.2.2 14 k = 40 + jk k ∧ RW G (jk k) (nk k)
theorem keepOk.fr {G G' : gS} {jk nk : Nat → Nat} (h : keepOk G jk nk) (hF : Fr sP G G') : keepOk G' jk nk := ⟨h.1, fun k hk => ⟨by rw [hF.2.2]; exact (h.2 k hk).1, by
    have := h.1 k
    exact (h.2 k hk).2.fr hF (sP_no (by omega)) (sP_no (by omega)) (sP_no (by omega)) (sP_no (by omega))⟩⟩
set_option maxHeartbeats 4000000 in
set_option maxRecDepth 100000 in
theorem tX5_play (Y : gY) (hY : Y.2.2.2 = wC) {G : gS} {mc fc : Nat} {jk nk : Nat → Nat} {kp : Bool} (hmc : G.1 6 1 = nI mc) (hm8 : mc ≤ 8) (hK : kOk mc (mF G)) (hko : keepOk G jk nk) (hh : hOk (hC G jk nk mc) fc) : ∀ l : Launch, gM Y l yX5_play cX5_play 3 none (5, 121) [.ref (Y.2.1 (15)), .int (bI kp)] G (qv (fun G' => ∃ n, n ≤ 300 ∧ stR G' = itN (tkF (hC G jk nk mc) kp) n (rsF (hC G jk nk mc) (stR G)) ∧ Fr sP G G' ∧ (n = 300 ∨ (kp = false ∧ 0 < n ∧ doneF mc (mF G') = true ∧ ¬ nI (n - 1) < G.1 11 1)))) := by
  intro l
  refine gM_of hY rfl (Nat.le_of_ble_eq_true rfl) [some (.ref (Y.2.1 (15))), some (.int (bI kp)), none] rfl rfl ?_
  rintro Z rfl C
  have loop : ∀ (k0 : Nat) (x : Nat) (Gx : gS), k0 = 300 - x → x ≤ 300 → Fr sP G Gx → stR Gx = itN (tkF (hC G jk nk mc) kp) x (rsF (hC G jk nk mc) (stR G)) → inF (hC G jk nk mc) fc (mF Gx) → WW Z (qv (fun G' => ∃ n, n ≤ 300 ∧ stR G' = itN (tkF (hC G jk nk mc) kp) n (rsF (hC G jk nk mc) (stR G)) ∧ Fr sP G G' ∧ (n = 300 ∨ (kp = false ∧ 0 < n ∧ doneF mc (mF G') = true ∧ ¬ nI (n - 1) < G.1 11 1)))) 6 [some (.ref (ad Z (15))), some (.int (bI kp)), some (.int (nI x))] [] Gx := by
    intro k0
    induction k0 using Nat.strongRecOn with
    | _ k0 ih =>
      intro x Gx hk0 hx hF hT0 hin
      refine r_iload2 (pc := 6) C dX5_play_6 ?_
      refine r_sipush (pc := 7) (v := nI 300) C dX5_play_7 (by decide) ?_
      refine r_icmp_ge (pc := 10) 82 C dX5_play_10 (by decide) (fun c10 => ?_) (fun c10 => ?_)
      · obtain rfl : x = 300 := by have := (nI_leI (by omega) (by omega)).mp c10; omega
        exact r_return (pc := 82) C dX5_play_82 (⟨300, by omega, hT0, hF, Or.inl rfl⟩)
      · have hlt10 : x < 300 := by
          rcases Nat.lt_or_ge x 300 with h | h
          · exact h
          · exact absurd (nI_le h (by omega)) c10
        have e6 : Gx.1 6 1 = nI mc := by rw [hF.1 6 (sP_no (by omega))]; exact hmc
        refine r_aload0 (pc := 13) C dX5_play_13 ?_
        refine r_iload2 (pc := 14) C dX5_play_14 ?_
        refine r_callVv (pc := 15) C rfl dX5_play_15 kX5_38 gF5 jC15 (tX5_power Z.1 C.w (mc := mc) (t := x) e6 hm8 hlt10 hin.1) rfl rfl (Nat.le_of_ble_eq_true rfl) (by decide) (fun G15 h15 => ?_)
        have hF15b := h15.1
        obtain ⟨hF15, hM15, hK15⟩ := h15
        have hF15 : Fr sP Gx G15 := hF15.mono (fun q h => Or.inl h)
        have hM15 : mF G15 = fPw (hC G jk nk mc) x (mF Gx) := by rw [hM15, hF.1 12 (sP_no (by omega)), hF.1 10 (sP_no (by omega))]; rfl
        have hi15 : inF (hC G jk nk mc) fc (mF G15) := by rw [hM15]; exact inF_pw x hin
        refine r_aload0 (pc := 18) C dX5_play_18 ?_
        refine r_iload2 (pc := 19) C dX5_play_19 ?_
        refine r_callVv (pc := 20) C rfl dX5_play_20 kX5_42 gF5 jC15 (tX5_ask Z.1 C.w (mc := mc) (t := x) (jk := jk) (nk := nk) (by rw [hF15.1 6 (sP_no (by omega))]; exact e6) hm8 hlt10 hi15.1 hko.1 ((hko.fr hF).fr hF15).2) rfl rfl (Nat.le_of_ble_eq_true rfl) (by decide) (fun G20 h20 => ?_)
        obtain ⟨hF20, hM20, hK20⟩ := h20
        have hF20a := hF20
        have hFa : Fr sP G G15 := hF.trans hF15
        have hF20 : Fr sP G15 G20 := hF20.mono (fun q h => by
          rcases h with h | h | h
          · exact Or.inl h
          · exact Or.inr (Or.inl (by omega))
          · exact Or.inr (Or.inr h))
        have hM20 : mF G20 = (fAsk (hC G jk nk mc) x (fPw (hC G jk nk mc) x (mF Gx))) := by
          rw [hM20, show anC G15 jk nk = hAn (hC G15 jk nk mc) from rfl, show ahF G15 jk nk = hAh (hC G15 jk nk mc) from rfl, hC_fr hFa hko.1, hM15, hFa.1 12 (sP_no (by omega))]
          rfl
        have hFb : Fr sP G G20 := hFa.trans hF20
        have hi20 : inF (hC G jk nk mc) fc (mF G20) := by rw [hM20, ← hM15]; exact inF_ask hh x hi15
        refine r_aload0 (pc := 23) C dX5_play_23 ?_
        refine r_iload2 (pc := 24) C dX5_play_24 ?_
        refine r_callVv (pc := 25) C rfl dX5_play_25 kX5_45 gF5 jC15 (tX5_send Z.1 C.w (mc := mc) (t := x) (fc := fc) (by rw [hFb.1 6 (sP_no (by omega))]; exact hmc) hm8 hlt10 hi20.1 hh.2.2.1 (by rw [hFb.1 8 (sP_no (by omega))]; exact hi20.2)) rfl rfl (Nat.le_of_ble_eq_true rfl) (by decide) (fun G25 h25 => ?_)
        obtain ⟨S, hS, hF25, hM25, q15, q17, q18, q19, hK25⟩ := h25
        have hF25a := hF25
        have hF25 : Fr sP G20 G25 := hF25.mono (fun q h => by
          rcases h with h | h | h
          · exact Or.inl h
          · exact Or.inr (Or.inl (by omega))
          · exact Or.inr (Or.inl (by omega)))
        have e18 : G20.1 18 = Gx.1 18 := by rw [hF20a.1 18 (sA_no (by omega) (by omega) (by omega)), hF15b.1 18 (by intro h; have := h.1; omega)]
        have e19 : G20.1 19 = Gx.1 19 := by rw [hF20a.1 19 (sA_no (by omega) (by omega) (by omega)), hF15b.1 19 (by intro h; have := h.1; omega)]
        have e17 : G20.1 17 = Gx.1 17 := by rw [hF20a.1 17 (sA_no (by omega) (by omega) (by omega)), hF15b.1 17 (by intro h; have := h.1; omega)]
        have e15 : G20.1 15 = Gx.1 15 := by rw [hF20a.1 15 (sA_no (by omega) (by omega) (by omega)), hF15b.1 15 (by intro h; have := h.1; omega)]
        have hS : S = fSd (hC G jk nk mc) x (fAsk (hC G jk nk mc) x (fPw (hC G jk nk mc) x (mF Gx))) (Gx.1 19) (Gx.1 18) := by rw [hS, hFb.1 6 (sP_no (by omega)), e18, e19, hM20]; rfl
        have hM25 : mF G25 = fRv (hC G jk nk mc) x (fAsk (hC G jk nk mc) x (fPw (hC G jk nk mc) x (mF Gx))) S.2.1 := by rw [hM25, hFb.1 6 (sP_no (by omega)), hFb.1 8 (sP_no (by omega)), hFb.1 9 (sP_no (by omega)), hFb.1 12 (sP_no (by omega)), show wrC G20 = hWr (hC G20 jk nk mc) from rfl, hC_fr hFb hko.1, hM20]; rfl
        have hFc : Fr sP G G25 := hFb.trans hF25
        have hi25 : inF (hC G jk nk mc) fc (mF G25) := by rw [hM25, ← hM20]; exact inF_rv hh (line_ex _ _ _) hi20
        refine r_aload0 (pc := 28) C dX5_play_28 ?_
        refine r_iload2 (pc := 29) C dX5_play_29 ?_
        refine r_callVv (pc := 30) C rfl dX5_play_30 kX5_48 gF5 jC15 (tX5_install Z.1 C.w (mc := mc) (t := x) (fc := fc) (by rw [hFc.1 6 (sP_no (by omega))]; exact hmc) hm8 hlt10 hi25.1 hh.2.2.1 (by rw [hFc.1 8 (sP_no (by omega))]; exact hi25.2)) rfl rfl (Nat.le_of_ble_eq_true rfl) (by decide) (fun G30 h30 => ?_)
        obtain ⟨hF30, hM30, hK30⟩ := h30
        have hF30a := hF30
        have hF30 : Fr sP G25 G30 := hF30.mono (fun q h => Or.inl h)
        have hM30 : mF G30 = fIn (hC G jk nk mc) x (fRv (hC G jk nk mc) x (fAsk (hC G jk nk mc) x (fPw (hC G jk nk mc) x (mF Gx))) S.2.1) := by rw [hM30, hFc.1 8 (sP_no (by omega)), hM25]; rfl
        have hFd : Fr sP G G30 := hFc.trans hF30
        have hi30 : inF (hC G jk nk mc) fc (mF G30) := by rw [hM30, ← hM25]; exact inF_in x hi25
        have z15 : G30.1 15 = upd (Gx.1 15) 5 (Gx.1 15 5 + S.1) := by rw [hF30a.1 15 (by intro h; have := h.1; omega), q15, e15]
        have z17 : G30.1 17 = upd (Gx.1 17) x S.1 := by rw [hF30a.1 17 (by intro h; have := h.1; omega), q17, e17]
        have z18 : G30.1 18 = S.2.2 := by rw [hF30a.1 18 (by intro h; have := h.1; omega), q18]
        have z19 : G30.1 19 = S.2.1 := by rw [hF30a.1 19 (by intro h; have := h.1; omega), q19]
        have z16 : G30.2.1 16 = Gx.2.1 16 := by rw [hF30a.2.1 16 (by intro h; have := h.1; omega), hF25a.2.1 16 (sS_no (by omega) (by omega) (by omega)), hF20a.2.1 16 (sA_no (by omega) (by omega) (by omega)), hF15b.2.1 16 (by intro h; have := h.1; omega)]
        refine r_aload0 (pc := 33) C dX5_play_33 ?_
        refine r_callVi (pc := 34) C rfl dX5_play_34 kX5_51 gF5 jC15 (tX5_isSettled Z.1 C.w (mc := mc) (by rw [hFd.1 6 (sP_no (by omega))]; exact hmc) hm8) rfl rfl (Nat.le_of_ble_eq_true rfl) (by decide) (fun x34 G34 h34 => ?_)
        obtain ⟨rfl, h34b⟩ := h34
        have h34b := h34b.symm
        subst h34b
        refine r_if_ne (pc := 37) 48 C dX5_play_37 (by decide) (fun c37 => ?_) (fun c37 => ?_)
        · have hdn : doneF mc (mF G30) = true := bI_n.mp c37
          refine r_iload1 (pc := 48) C dX5_play_48 ?_
          refine r_if_ne (pc := 49) 67 C dX5_play_49 (by decide) (fun c49 => ?_) (fun c49 => ?_)
          · refine r_iload1 (pc := 67) C dX5_play_67 ?_
            refine r_if_eq (pc := 68) 76 C dX5_play_68 (by decide) (fun c68 => ?_) (fun c68 => ?_)
            · exact absurd c68 (by rw [bI_n.mp c49]; decide)
            refine r_aload0 (pc := 71) C dX5_play_71 ?_
            refine r_iload2 (pc := 72) C dX5_play_72 ?_
            refine r_callVv (pc := 73) C rfl dX5_play_73 kX5_70 gF5 jC15 (tX5_keep Z.1 C.w (mc := mc) (t := x) (by rw [hFd.1 6 (sP_no (by omega))]; exact hmc) hm8 hlt10) rfl rfl (Nat.le_of_ble_eq_true rfl) (by decide) (fun G73 h73 => ?_)
            obtain ⟨h73a, h73b, h73c, h73d⟩ := h73
            refine r_iinc2 (pc := 76) (nI 1) C dX5_play_76 (by decide) rfl ?_
            rw [nI_add]
            refine r_goto (pc := 79) 6 C dX5_play_79 (by decide) ?_
            have hkp : kp = true := bI_n.mp c68
            have hMn : mF G73 = mF G30 := by
              funext i
              simp only [mF, h73a]
            have hT : stR G73 = tkF (hC G jk nk mc) kp x (stR Gx) := by
              refine Prod.ext ?_ (Prod.ext ?_ (Prod.ext ?_ (Prod.ext ?_ (Prod.ext ?_ (Prod.ext ?_ ?_)))))
              · show mF G73 = fIn _ _ _; rw [hMn, hM30, hS]; rfl
              · show G73.1 17 = _; rw [h73a, z17, hS]; rfl
              · show G73.1 18 = _; rw [h73a, z18, hS]; rfl
              · show G73.1 19 = _; rw [h73a, z19, hS]; rfl
              · show G73.1 15 5 = _; rw [h73a, z15, upd_s, hS]; rfl
              · show G73.1 15 6 = if doneF _ _ then _ else _
                rw [h73a, z15, upd_o (by decide)]
                have hdn2 := hdn
                rw [hM30, hS] at hdn2
                exact (if_pos hdn2).symm
              · show G73.2.1 16 = if kp then _ else _
                rw [if_pos hkp, h73d, hM30, hS]
                rw [z16]; rfl
            have hFn : Fr sP G G73 := by
              refine ⟨fun r hr => ?_, fun r hr => ?_, ?_⟩
              · rw [h73a]; exact hFd.1 r hr
              · rw [h73c r (fun e => hr (by rw [e]; exact Or.inr (Or.inl (by omega))))]; exact hFd.2.1 r hr
              · rw [h73b]; exact hFd.2.2
            exact ih (300 - (x + 1)) (by omega) (x + 1) _ rfl (by omega) hFn (by rw [itN_s, ← hT0, hT]) (by rw [show mF G73 = mF G30 from hMn]; exact hi30)
          · refine r_iload2 (pc := 52) C dX5_play_52 ?_
            refine r_aload0 (pc := 53) C dX5_play_53 ?_
            refine gX5_31 (pc := 54) C dX5_play_54 ?_
            refine gX5_59 (pc := 57) C dX5_play_57 ?_
            refine gX5_65 (pc := 60) C dX5_play_60 ?_
            refine r_eqi (y := G.1 11 1) (by rw [hFd.1 11 (sP_no (by omega))]) ?_
            refine r_icmp_lt (pc := 63) 67 C dX5_play_63 (by decide) (fun c63 => ?_) (fun c63 => ?_)
            · refine r_iload1 (pc := 67) C dX5_play_67 ?_
              refine r_if_eq (pc := 68) 76 C dX5_play_68 (by decide) (fun c68 => ?_) (fun c68 => ?_)
              rotate_left
              · exact absurd c68 (fun h => h c49)
              refine r_iinc2 (pc := 76) (nI 1) C dX5_play_76 (by decide) rfl ?_
              rw [nI_add]
              refine r_goto (pc := 79) 6 C dX5_play_79 (by decide) ?_
              have hkp : kp = false := bI_z.mp c68
              have hT : stR G30 = tkF (hC G jk nk mc) kp x (stR Gx) := by
                refine Prod.ext ?_ (Prod.ext ?_ (Prod.ext ?_ (Prod.ext ?_ (Prod.ext ?_ (Prod.ext ?_ ?_)))))
                · show mF G30 = fIn _ _ _; rw [hM30, hS]; rfl
                · show G30.1 17 = _; rw [z17, hS]; rfl
                · show G30.1 18 = _; rw [z18, hS]; rfl
                · show G30.1 19 = _; rw [z19, hS]; rfl
                · show G30.1 15 5 = _; rw [z15, upd_s, hS]; rfl
                · show G30.1 15 6 = if doneF _ _ then _ else _
                  rw [z15, upd_o (by decide)]
                  have hdn2 := hdn
                  rw [hM30, hS] at hdn2
                  exact (if_pos hdn2).symm
                · show G30.2.1 16 = if kp then _ else _
                  rw [if_neg (by rw [hkp]; decide)]
                  exact z16
              have hFn : Fr sP G G30 := hFd
              exact ih (300 - (x + 1)) (by omega) (x + 1) _ rfl (by omega) hFn (by rw [itN_s, ← hT0, hT]) (by rw [show mF G30 = mF G30 from rfl]; exact hi30)
            · exact r_return (pc := 66) C dX5_play_66 (⟨x + 1, by omega, by
        have hkp : kp = false := bI_z.mp c49
        rw [itN_s, ← hT0]
        refine Prod.ext ?_ (Prod.ext ?_ (Prod.ext ?_ (Prod.ext ?_ (Prod.ext ?_ (Prod.ext ?_ ?_)))))
        · show mF G30 = fIn _ _ _; rw [hM30, hS]; rfl
        · show G30.1 17 = _; rw [z17, hS]; rfl
        · show G30.1 18 = _; rw [z18, hS]; rfl
        · show G30.1 19 = _; rw [z19, hS]; rfl
        · show G30.1 15 5 = _; rw [z15, upd_s, hS]; rfl
        · show G30.1 15 6 = if doneF _ _ then _ else _
          rw [z15, upd_o (by decide)]
          have hdn2 := hdn
          rw [hM30, hS] at hdn2
          exact (if_pos hdn2).symm
        · show G30.2.1 16 = if kp then _ else _
          rw [if_neg (by rw [hkp]; decide)]
          exact z16, hFd, Or.inr ⟨bI_z.mp c49, by omega, hdn, c63⟩⟩)
        · have hdn : doneF mc (mF G30) = false := bI_z.mp c37
          refine r_aload0 (pc := 40) C dX5_play_40 ?_
          refine r_iload2 (pc := 41) C dX5_play_41 ?_
          refine pX5_55 (pc := 42) C dX5_play_42 ?_
          refine r_goto (pc := 45) 67 C dX5_play_45 (by decide) ?_
          refine r_iload1 (pc := 67) C dX5_play_67 ?_
          refine r_if_eq (pc := 68) 76 C dX5_play_68 (by decide) (fun c68 => ?_) (fun c68 => ?_)
          · refine r_iinc2 (pc := 76) (nI 1) C dX5_play_76 (by decide) rfl ?_
            rw [nI_add]
            refine r_goto (pc := 79) 6 C dX5_play_79 (by decide) ?_
            have hkp : kp = false := bI_z.mp c68
            have hMn0 : mF (sI G30 15 6 (nI x)) = mF G30 := by
              funext i
              simp only [mF]
              by_cases h8 : i < 8
              · rw [if_pos h8, if_pos h8, sI_o (by omega)]
              · rw [if_neg h8, if_neg h8]
            have hT : stR (sI G30 15 6 (nI x)) = tkF (hC G jk nk mc) kp x (stR Gx) := by
              refine Prod.ext ?_ (Prod.ext ?_ (Prod.ext ?_ (Prod.ext ?_ (Prod.ext ?_ (Prod.ext ?_ ?_)))))
              · show mF (sI G30 15 6 (nI x)) = fIn _ _ _; rw [hMn0, hM30, hS]; rfl
              · show (sI G30 15 6 (nI x)).1 17 = _; rw [sI_o (by decide), z17, hS]; rfl
              · show (sI G30 15 6 (nI x)).1 18 = _; rw [sI_o (by decide), z18, hS]; rfl
              · show (sI G30 15 6 (nI x)).1 19 = _; rw [sI_o (by decide), z19, hS]; rfl
              · show (sI G30 15 6 (nI x)).1 15 5 = _; rw [sI_s, upd_o (by decide), z15, upd_s, hS]; rfl
              · show (sI G30 15 6 (nI x)).1 15 6 = if doneF _ _ then _ else _
                rw [sI_s, upd_s]
                have hdn2 := hdn
                rw [hM30, hS] at hdn2
                exact (if_neg (fun h => Bool.false_ne_true (hdn2.symm.trans h))).symm
              · show (sI G30 15 6 (nI x)).2.1 16 = if kp then _ else _
                rw [if_neg (by rw [hkp]; decide)]
                exact z16
            have hFn : Fr sP G (sI G30 15 6 (nI x)) := hFd.sI (Or.inr (Or.inl (by omega)))
            exact ih (300 - (x + 1)) (by omega) (x + 1) _ rfl (by omega) hFn (by rw [itN_s, ← hT0, hT]) (by rw [show mF (sI G30 15 6 (nI x)) = mF G30 from hMn0]; exact hi30)
          · refine r_aload0 (pc := 71) C dX5_play_71 ?_
            refine r_iload2 (pc := 72) C dX5_play_72 ?_
            refine r_callVv (pc := 73) C rfl dX5_play_73 kX5_70 gF5 jC15 (tX5_keep Z.1 C.w (mc := mc) (t := x) (by rw [sI_o (by decide), hFd.1 6 (sP_no (by omega))]; exact hmc) hm8 hlt10) rfl rfl (Nat.le_of_ble_eq_true rfl) (by decide) (fun G73 h73 => ?_)
            obtain ⟨h73a, h73b, h73c, h73d⟩ := h73
            refine r_iinc2 (pc := 76) (nI 1) C dX5_play_76 (by decide) rfl ?_
            rw [nI_add]
            refine r_goto (pc := 79) 6 C dX5_play_79 (by decide) ?_
            have hkp : kp = true := bI_n.mp c68
            have hMn0 : mF (sI G30 15 6 (nI x)) = mF G30 := by
              funext i
              simp only [mF]
              by_cases h8 : i < 8
              · rw [if_pos h8, if_pos h8, sI_o (by omega)]
              · rw [if_neg h8, if_neg h8]
            have hMn : mF G73 = mF G30 := by
              rw [← hMn0]
              funext i
              simp only [mF, h73a]
            have hT : stR G73 = tkF (hC G jk nk mc) kp x (stR Gx) := by
              refine Prod.ext ?_ (Prod.ext ?_ (Prod.ext ?_ (Prod.ext ?_ (Prod.ext ?_ (Prod.ext ?_ ?_)))))
              · show mF G73 = fIn _ _ _; rw [hMn, hM30, hS]; rfl
              · show G73.1 17 = _; rw [h73a, sI_o (by decide), z17, hS]; rfl
              · show G73.1 18 = _; rw [h73a, sI_o (by decide), z18, hS]; rfl
              · show G73.1 19 = _; rw [h73a, sI_o (by decide), z19, hS]; rfl
              · show G73.1 15 5 = _; rw [h73a, sI_s, upd_o (by decide), z15, upd_s, hS]; rfl
              · show G73.1 15 6 = if doneF _ _ then _ else _
                rw [h73a, sI_s, upd_s]
                have hdn2 := hdn
                rw [hM30, hS] at hdn2
                exact (if_neg (fun h => Bool.false_ne_true (hdn2.symm.trans h))).symm
              · show G73.2.1 16 = if kp then _ else _
                rw [if_pos hkp, h73d, hMn0, hM30, hS]
                rw [show (sI G30 15 6 (nI x)).2.1 16 = G30.2.1 16 from rfl, z16]; rfl
            have hFn : Fr sP G G73 := by
              refine ⟨fun r hr => ?_, fun r hr => ?_, ?_⟩
              · rw [h73a]; exact (hFd.sI (Or.inr (Or.inl (by omega)))).1 r hr
              · rw [h73c r (fun e => hr (by rw [e]; exact Or.inr (Or.inl (by omega))))]; exact hFd.2.1 r hr
              · rw [h73b]; exact hFd.2.2
            exact ih (300 - (x + 1)) (by omega) (x + 1) _ rfl (by omega) hFn (by rw [itN_s, ← hT0, hT]) (by rw [show mF G73 = mF G30 from hMn]; exact hi30)
  refine r_aload0 (pc := 0) C dX5_play_0 ?_
  refine r_callVv (pc := 1) C rfl dX5_play_1 kX5_35 gF5 jC15 (tX5_reset Z.1 C.w hmc hm8) rfl rfl (Nat.le_of_ble_eq_true rfl) (by decide) (fun G1 h1 => ?_)
  obtain ⟨hF1, hM1, r15, r18, r19⟩ := h1
  refine r_iconst (pc := 4) (v := nI 0) C dX5_play_4 (by decide) ?_
  refine r_istore2 (pc := 5) C dX5_play_5 rfl ?_
  have hF1p : Fr sP G G1 := hF1.mono (fun q h => by
    rcases h with h | h | h | h
    · exact Or.inl h
    · exact Or.inr (Or.inl (by omega))
    · exact Or.inr (Or.inl (by omega))
    · exact Or.inr (Or.inl (by omega)))
  refine loop _ 0 G1 rfl (Nat.zero_le _) hF1p ?_ (by rw [hM1]; exact inF_rs hK)
  refine Prod.ext ?_ (Prod.ext ?_ (Prod.ext ?_ (Prod.ext ?_ (Prod.ext ?_ (Prod.ext ?_ ?_)))))
  · exact hM1
  · exact hF1.1 17 (by rintro (h | h | h | h); exact absurd h.1 (by omega); all_goals omega)
  · exact r18
  · exact r19
  · show G1.1 15 5 = nI 0; rw [r15]; rfl
  · show G1.1 15 6 = -1; rw [r15]; rfl
  · exact hF1.2.1 16 (by rintro (h | h | h | h); exact absurd h.1 (by omega); all_goals omega)
