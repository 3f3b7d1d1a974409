theorem drop_c {L : List Nat} {x : Nat} (h : x < L.length) : L.drop x = L.getD x 0 :: L.drop (x + 1) := by
  rw [List.drop_eq_getElem_cons h, List.getD_eq_getElem?_getD, List.getElem?_eq_getElem h]
  rfl
def sS (q : Nat) : Prop := sMr q ∨ q = 15 ∨ (17 ≤ q ∧ q ≤ 20)
theorem sS_no {q : Nat} (h1 : q < 32 ∨ 40 ≤ q) (h2 : q ≠ 15) (h3 : q < 17 ∨ 20 < q) : ¬ sS q := by
  rintro (h | h | h)
  · have := h.1; have := h.2; omega
  · exact h2 h
  · omega
/-- what the receiving does to MACHINE i's row; ls: the TICK of each block's last sending -/
def rvS (fc : Int32) (bl nx : Nat → Int32) (t : Int32) (lost : Nat → Bool) (wrong : Nat → Bool) (ls : Nat → Int32) (i : Nat) (f : Nat → Int32) : Nat → Int32 := rcvF fc bl nx t (decide (ls (blkN f) = t)) (lost i) (wrong (blkN f)) f
theorem m0_go (a b c : Int32) (f : Nat → Int32) : goF a b c f 0 = f 0 := by
  unfold goF
  split
  · rfl
  · split <;> rfl
theorem m0_rcv (fc : Int32) (bl nx : Nat → Int32) (t : Int32) (a b c : Bool) (f : Nat → Int32) : rcvF fc bl nx t a b c f 0 = f 0 := by
  unfold rcvF
  split
  · exact m0_none f
  · split
    · exact m0_wrong f
    · split
      · rfl
      · rw [m0_go]; rfl
def wrC (G : gS) (t b : Nat) : Bool := btL (G.2.1 13 (2 * t + b / 36)) (b % 36)
set_option maxHeartbeats 4000000 in
set_option maxRecDepth 100000 in
theorem tX5_send (Y : gY) (hY : Y.2.2.2 = wC) {G : gS} {mc t fc : Nat} (hmc : G.1 6 1 = nI mc) (hm8 : mc ≤ 8) (ht : t < 300) (hK : kOk mc (mF G)) (hfc : fc ≤ 6) (hO : ∀ i, i < mc → fOk fc (G.1 8) (mF G i)) : ∀ l : Launch, gM Y l yX5_send cX5_send 6 none (4, 92) [.ref (Y.2.1 (15)), .int (nI t)] G (qv (fun G' => ∃ S, S = sdL (G.1 6 5) (nI t) (mF G) (lineC (nI t) mc (mF G)) (nI 0, G.1 19, G.1 18) ∧ Fr sS G G' ∧ mF G' = rvL (rvS (G.1 6 4) (G.1 8) (G.1 9) (nI t) (bt (G.1 12 t)) (wrC G t) S.2.1) (lineC (nI t) mc (mF G)) (mF G) ∧ G'.1 15 = upd (G.1 15) 5 (G.1 15 5 + S.1) ∧ G'.1 17 = upd (G.1 17) t S.1 ∧ G'.1 18 = S.2.2 ∧ G'.1 19 = S.2.1 ∧ kOk mc (mF G'))) := by
  intro l
  refine gM_of hY rfl (Nat.le_of_ble_eq_true rfl) [some (.ref (Y.2.1 (15))), some (.int (nI t)), none, none, none, none] rfl rfl ?_
  rintro Z rfl C
  refine r_aload0 (pc := 0) C dX5_send_0 ?_
  refine r_iload1 (pc := 1) C dX5_send_1 ?_
  refine r_callVi (pc := 2) C rfl dX5_send_2 kX5_174 gF5 jC15 (tX5_lineUp Z.1 C.w hmc hm8 ht) rfl rfl (Nat.le_of_ble_eq_true rfl) (by decide) (fun x2 G2 h2 => ?_)
  obtain ⟨L, rfl, hF2, hL, hLm, hR⟩ := h2
  have tail : ∀ (S : Int32 × (Nat → Int32) × (Nat → Int32)) (Gx : gS) (o4 o5 : Option Value), S = sdL (G.1 6 5) (nI t) (mF G) (lineC (nI t) mc (mF G)) (nI 0, G.1 19, G.1 18) → Fr (fun q => q = 18 ∨ q = 19 ∨ q = 20) G Gx → Gx.1 18 = S.2.2 → Gx.1 19 = S.2.1 → (∀ k, k < L.length → Gx.1 20 k = nI (L.getD k 0)) → WW Z (qv (fun G' => ∃ S, S = sdL (G.1 6 5) (nI t) (mF G) (lineC (nI t) mc (mF G)) (nI 0, G.1 19, G.1 18) ∧ Fr sS G G' ∧ mF G' = rvL (rvS (G.1 6 4) (G.1 8) (G.1 9) (nI t) (bt (G.1 12 t)) (wrC G t) S.2.1) (lineC (nI t) mc (mF G)) (mF G) ∧ G'.1 15 = upd (G.1 15) 5 (G.1 15 5 + S.1) ∧ G'.1 17 = upd (G.1 17) t S.1 ∧ G'.1 18 = S.2.2 ∧ G'.1 19 = S.2.1 ∧ kOk mc (mF G'))) 87 [some (.ref (ad Z (15))), some (.int (nI t)), some (.int (nI L.length)), some (.int (S.1)), o4, o5] [] Gx := by
    intro S Gx o4 o5 hS hF1 x18 x19 x20
    have loop2 : ∀ (k0 : Nat) (x : Nat) (Gy : gS) (o5 : Option Value), k0 = L.length - x → x ≤ L.length → Fr sS G Gy → Gy.1 15 = upd (G.1 15) 5 (G.1 15 5 + S.1) → Gy.1 17 = upd (G.1 17) t S.1 → Gy.1 18 = S.2.2 → Gy.1 19 = S.2.1 → (∀ k, k < L.length → Gy.1 20 k = nI (L.getD k 0)) → rvL (rvS (G.1 6 4) (G.1 8) (G.1 9) (nI t) (bt (G.1 12 t)) (wrC G t) S.2.1) (L.drop x) (mF Gy) = rvL (rvS (G.1 6 4) (G.1 8) (G.1 9) (nI t) (bt (G.1 12 t)) (wrC G t) S.2.1) L (mF G) → (∀ i, i ∈ L.drop x → mF Gy i = mF G i) → kOk mc (mF Gy) → WW Z (qv (fun G' => ∃ S, S = sdL (G.1 6 5) (nI t) (mF G) (lineC (nI t) mc (mF G)) (nI 0, G.1 19, G.1 18) ∧ Fr sS G G' ∧ mF G' = rvL (rvS (G.1 6 4) (G.1 8) (G.1 9) (nI t) (bt (G.1 12 t)) (wrC G t) S.2.1) (lineC (nI t) mc (mF G)) (mF G) ∧ G'.1 15 = upd (G.1 15) 5 (G.1 15 5 + S.1) ∧ G'.1 17 = upd (G.1 17) t S.1 ∧ G'.1 18 = S.2.2 ∧ G'.1 19 = S.2.1 ∧ kOk mc (mF G'))) 107 [some (.ref (ad Z (15))), some (.int (nI t)), some (.int (nI L.length)), some (.int (S.1)), some (.int (nI x)), o5] [] Gy := by
      intro k0
      induction k0 using Nat.strongRecOn with
      | _ k0 ih =>
        intro x Gy o5 hk0 hx hF y15 y17 y18 y19 y20 hV hU hK
        refine r_iload4 (pc := 107) C dX5_send_107 ?_
        refine r_iload2 (pc := 109) C dX5_send_109 ?_
        refine r_icmp_ge (pc := 110) 131 C dX5_send_110 (by decide) (fun c110 => ?_) (fun c110 => ?_)
        · obtain rfl : x = L.length := by have := (nI_leI (by omega) (by omega)).mp c110; omega
          exact r_return (pc := 131) C dX5_send_131 (⟨S, hS, hF, by rw [← lineC_eq hL, ← hV, List.drop_length]; rfl, y15, y17, y18, y19, hK⟩)
        · have hlt110 : x < L.length := by
            rcases Nat.lt_or_ge x L.length with h | h
            · exact h
            · exact absurd (nI_le h (by omega)) c110
          have hum : L.getD x 0 ∈ L.drop x := by rw [drop_c hlt110]; exact List.mem_cons_self
          obtain ⟨hu1, hu2⟩ := (hL.1 _).mp (getD_mem hlt110)
          have hu2 := (of_decide_eq_true hu2).1
          have hy := hU _ hum
          rw [mF_i (show L.getD x 0 < 8 by omega)] at hy
          have hOu := hO (L.getD x 0) hu1
          refine r_aload0 (pc := 113) C dX5_send_113 ?_
          refine r_aload0 (pc := 114) C dX5_send_114 ?_
          refine gX5_25 (pc := 115) C dX5_send_115 ?_
          refine r_iload4 (pc := 118) C dX5_send_118 ?_
          refine r_iald (pc := 120) (_) C dX5_send_120 aC20 (rfl) (by omega) ?_
          refine r_eqi (y := nI (L.getD x 0)) (y20 x hlt110) ?_
          refine r_iload1 (pc := 121) C dX5_send_121 ?_
          refine r_callVv (pc := 122) C rfl dX5_send_122 kX5_185 gF5 jC15 (tX5_receive Z.1 C.w (i := L.getD x 0) (t := t) (fc := fc) (by omega) ht hfc (by rw [hF.1 8 (sS_no (by omega) (by omega) (by omega)), hy]; exact hOu) (by rw [hy]; exact hu2)) rfl rfl (Nat.le_of_ble_eq_true rfl) (by decide) (fun G122 h122 => ?_)
          refine r_iinc4 (pc := 125) (nI 1) C dX5_send_125 (by decide) rfl ?_
          rw [nI_add]
          refine r_goto (pc := 128) 107 C dX5_send_128 (by decide) ?_
          have hrow : mF G122 = va_up (mF Gy) (L.getD x 0) (rvS (G.1 6 4) (G.1 8) (G.1 9) (nI t) (bt (G.1 12 t)) (wrC G t) S.2.1 (L.getD x 0) (mF Gy (L.getD x 0))) := by
            rw [h122, mF_W (by omega), rvS, mF_i (show L.getD x 0 < 8 by omega), hF.1 6 (sS_no (by omega) (by omega) (by omega)), hF.1 8 (sS_no (by omega) (by omega) (by omega)), hF.1 9 (sS_no (by omega) (by omega) (by omega)), hF.1 12 (sS_no (by omega) (by omega) (by omega)), hF.2.1 13 (sS_no (by omega) (by omega) (by omega)), y19]
            rfl
          have hnd : L.getD x 0 ∉ L.drop (x + 1) := by
            have h1 := (line_nodup hL.2).sublist (List.drop_sublist x L)
            rw [drop_c hlt110] at h1
            exact (List.nodup_cons.mp h1).1
          have hFn : Fr sS G G122 := by rw [h122]; exact hF.sW (Or.inl (sMr_i (by omega)))
          refine ih (L.length - (x + 1)) (by omega) (x + 1) _ _ rfl (by omega) hFn (by rw [h122, sW_o _ _ _ (by omega)]; exact y15) (by rw [h122, sW_o _ _ _ (by omega)]; exact y17) (by rw [h122, sW_o _ _ _ (by omega)]; exact y18) (by rw [h122, sW_o _ _ _ (by omega)]; exact y19) (by rw [h122, sW_o _ _ _ (by omega)]; exact y20) ?_ ?_ ?_
          · rw [← hV, drop_c hlt110, hrow]; rfl
          · intro i hi
            rw [hrow, va_up_ne _ _ (show i ≠ L.getD x 0 from fun e => hnd (by rw [← e]; exact hi))]
            exact hU i (by rw [drop_c hlt110]; exact List.mem_cons_of_mem _ hi)
          · rw [hrow]; exact kOk_up hK (m0_rcv _ _ _ _ _ _ _ _)
    refine r_aload0 (pc := 87) C dX5_send_87 ?_
    refine gX5_15 (pc := 88) C dX5_send_88 ?_
    refine r_iload1 (pc := 91) C dX5_send_91 ?_
    refine r_iload3 (pc := 92) C dX5_send_92 ?_
    refine r_iast (pc := 93) (_) C dX5_send_93 aC17 (rfl) (by omega) ?_
    refine r_aload0 (pc := 94) C dX5_send_94 ?_
    refine r_dup (pc := 95) C dX5_send_95 rfl ?_
    refine gX5_79 (pc := 96) C dX5_send_96 ?_
    refine r_eqi (y := G.1 15 5) (by rw [sI_o (by decide), hF1.1 15 (by omega)]) ?_
    refine r_iload3 (pc := 99) C dX5_send_99 ?_
    refine r_iadd (pc := 100) C dX5_send_100 ?_
    refine pX5_79 (pc := 101) C dX5_send_101 ?_
    refine r_iconst (pc := 104) (v := nI 0) C dX5_send_104 (by decide) ?_
    refine r_istore4 (pc := 105) C dX5_send_105 rfl ?_
    have hFy : Fr sS G (sI (sI Gx 17 t S.1) 15 5 (G.1 15 5 + S.1)) := ((hF1.mono (fun q h => Or.inr (Or.inr (by omega)))).sI (Or.inr (Or.inr (by omega)))).sI (Or.inr (Or.inl rfl))
    have hMy : mF (sI (sI Gx 17 t S.1) 15 5 (G.1 15 5 + S.1)) = mF G := by
      funext i
      simp only [mF]
      by_cases h8 : i < 8
      · rw [if_pos h8, if_pos h8, sI_o (by omega), sI_o (by omega), hF1.1 _ (by omega)]
      · rw [if_neg h8, if_neg h8]
    refine loop2 _ 0 _ _ rfl (Nat.zero_le _) hFy ?_ ?_ ?_ ?_ ?_ (by rw [hMy]; rfl) (fun i _ => by rw [hMy]) (by rw [hMy]; exact hK)
    · rw [sI_s, sI_o (by decide), hF1.1 15 (by omega)]
    · rw [sI_o (by decide), sI_s, hF1.1 17 (by omega)]
    · rw [sI_o (by decide), sI_o (by decide)]; exact x18
    · rw [sI_o (by decide), sI_o (by decide)]; exact x19
    · intro k hk
      rw [sI_o (by decide), sI_o (by decide)]; exact x20 k hk
  have loop1 : ∀ (k0 : Nat) (x : Nat) (s : Int32 × (Nat → Int32) × (Nat → Int32)) (Gx : gS) (o5 : Option Value), k0 = L.length - x → x ≤ L.length → Fr (fun q => q = 18 ∨ q = 19 ∨ q = 20) G Gx → Gx.1 18 = s.2.2 → Gx.1 19 = s.2.1 → (∀ k, k < L.length → Gx.1 20 k = nI (L.getD k 0)) → sdL (G.1 6 5) (nI t) (mF G) (L.drop x) s = sdL (G.1 6 5) (nI t) (mF G) L (nI 0, G.1 19, G.1 18) → WW Z (qv (fun G' => ∃ S, S = sdL (G.1 6 5) (nI t) (mF G) (lineC (nI t) mc (mF G)) (nI 0, G.1 19, G.1 18) ∧ Fr sS G G' ∧ mF G' = rvL (rvS (G.1 6 4) (G.1 8) (G.1 9) (nI t) (bt (G.1 12 t)) (wrC G t) S.2.1) (lineC (nI t) mc (mF G)) (mF G) ∧ G'.1 15 = upd (G.1 15) 5 (G.1 15 5 + S.1) ∧ G'.1 17 = upd (G.1 17) t S.1 ∧ G'.1 18 = S.2.2 ∧ G'.1 19 = S.2.1 ∧ kOk mc (mF G'))) 11 [some (.ref (ad Z (15))), some (.int (nI t)), some (.int (nI L.length)), some (.int (s.1)), some (.int (nI x)), o5] [] Gx := by
    intro k0
    induction k0 using Nat.strongRecOn with
    | _ k0 ih =>
      intro x s Gx o5 hk0 hx hF1 x18 x19 x20 hV
      refine r_iload4 (pc := 11) C dX5_send_11 ?_
      refine r_iload2 (pc := 13) C dX5_send_13 ?_
      refine r_icmp_ge (pc := 14) 87 C dX5_send_14 (by decide) (fun c14 => ?_) (fun c14 => ?_)
      · obtain rfl : x = L.length := by have := (nI_leI (by omega) (by omega)).mp c14; omega
        exact tail s Gx _ _ (by rw [← lineC_eq hL, ← hV, List.drop_length]; rfl) hF1 x18 x19 x20
      · have hlt14 : x < L.length := by
          rcases Nat.lt_or_ge x L.length with h | h
          · exact h
          · exact absurd (nI_le h (by omega)) c14
        refine r_iload3 (pc := 17) C dX5_send_17 ?_
        refine r_aload0 (pc := 18) C dX5_send_18 ?_
        refine gX5_31 (pc := 19) C dX5_send_19 ?_
        refine gX5_178 (pc := 22) C dX5_send_22 ?_
        refine r_eqi (y := G.1 6 5) (by rw [hF1.1 6 (by omega)]) ?_
        refine r_icmp_ge (pc := 25) 87 C dX5_send_25 (by decide) (fun c25 => ?_) (fun c25 => ?_)
        · exact tail s Gx _ _ (by rw [← lineC_eq hL, ← hV, sdL_full _ c25]) hF1 x18 x19 x20
        · obtain ⟨hu1, hu2⟩ := (hL.1 _).mp (getD_mem hlt14)
          have hu2 := (of_decide_eq_true hu2).1
          obtain ⟨o1, o2, o3, o4, o5b⟩ := (hO (L.getD x 0) hu1).1 hu2
          have hmu : mF G (L.getD x 0) = G.1 (32 + L.getD x 0) := mF_i (by omega)
          have hb72 : blkN (mF G (L.getD x 0)) < 72 := by unfold blkN; omega
          refine r_aload0 (pc := 28) C dX5_send_28 ?_
          refine gX5_31 (pc := 29) C dX5_send_29 ?_
          refine gX5_85 (pc := 32) C dX5_send_32 ?_
          refine r_aload0 (pc := 35) C dX5_send_35 ?_
          refine gX5_25 (pc := 36) C dX5_send_36 ?_
          refine r_iload4 (pc := 39) C dX5_send_39 ?_
          refine r_iald (pc := 41) (_) C dX5_send_41 aC20 (rfl) (by omega) ?_
          refine r_eqi (y := nI (L.getD x 0)) (x20 x hlt14) ?_
          refine r_aald (pc := 42) (L.getD x 0) C dX5_send_42 aC7 (fun _ => rfl) (rfl) (by omega) (rfl) ?_
          refine r_callSi (pc := 43) C rfl dX5_send_43 kX5_181 (tX5_wantedBlock Z.1 C.w (by omega)) rfl rfl (Nat.le_of_ble_eq_true rfl) (by decide) (fun x43 G43 h43 => ?_)
          obtain ⟨rfl, h43b⟩ := h43
          have h43b := h43b.symm
          subst h43b
          refine r_eqi (y := nI (blkN (mF G (L.getD x 0)))) (by
            rw [hF1.1 _ (by omega), ← hmu, o1, o3, pk_mul, nI_add]
            unfold blkN
            rw [o1, o3, cN_nI (by omega), cN_nI (by omega), Nat.mul_comm]) ?_
          refine r_istore5 (pc := 46) C dX5_send_46 rfl ?_
          refine r_aload0 (pc := 48) C dX5_send_48 ?_
          refine gX5_22 (pc := 49) C dX5_send_49 ?_
          refine r_iload5 (pc := 52) C dX5_send_52 ?_
          refine r_iald (pc := 54) (_) C dX5_send_54 aC19 (rfl) (by omega) ?_
          refine r_eqi (y := s.2.1 (blkN (mF G (L.getD x 0)))) (by rw [x19]) ?_
          refine r_iload1 (pc := 55) C dX5_send_55 ?_
          refine r_icmp_eq (pc := 56) 81 C dX5_send_56 (by decide) (fun c56 => ?_) (fun c56 => ?_)
          · refine r_iinc4 (pc := 81) (nI 1) C dX5_send_81 (by decide) rfl ?_
            rw [nI_add]
            refine r_goto (pc := 84) 11 C dX5_send_84 (by decide) ?_
            refine ih (L.length - (x + 1)) (by omega) (x + 1) s _ _ rfl (by omega) hF1 x18 x19 x20 ?_
            rw [← hV, drop_c hlt14]
            show sdL _ _ _ _ _ = sdL _ _ _ _ (sdS _ _ _ s)
            rw [sdS, if_pos (Or.inr c56)]
          · refine r_aload0 (pc := 59) C dX5_send_59 ?_
            refine gX5_22 (pc := 60) C dX5_send_60 ?_
            refine r_iload5 (pc := 63) C dX5_send_63 ?_
            refine r_iload1 (pc := 65) C dX5_send_65 ?_
            refine r_iast (pc := 66) (_) C dX5_send_66 aC19 (rfl) (by omega) ?_
            refine r_aload0 (pc := 67) C dX5_send_67 ?_
            refine gX5_19 (pc := 68) C dX5_send_68 ?_
            refine r_iload5 (pc := 71) C dX5_send_71 ?_
            refine r_dup2 (pc := 73) C dX5_send_73 rfl rfl ?_
            refine r_iald (pc := 74) (_) C dX5_send_74 aC18 (rfl) (by omega) ?_
            refine r_eqi (y := s.2.2 (blkN (mF G (L.getD x 0)))) (by rw [sI_o (by decide), x18]) ?_
            refine r_iconst (pc := 75) (v := nI 1) C dX5_send_75 (by decide) ?_
            refine r_iadd (pc := 76) C dX5_send_76 ?_
            refine r_iast (pc := 77) (_) C dX5_send_77 aC18 (rfl) (by omega) ?_
            refine r_iinc3 (pc := 78) (nI 1) C dX5_send_78 (by decide) rfl ?_
            refine r_iinc4 (pc := 81) (nI 1) C dX5_send_81 (by decide) rfl ?_
            rw [nI_add]
            refine r_goto (pc := 84) 11 C dX5_send_84 (by decide) ?_
            refine ih (L.length - (x + 1)) (by omega) (x + 1) (s.1 + nI 1, upd s.2.1 (blkN (mF G (L.getD x 0))) (nI t), upd s.2.2 (blkN (mF G (L.getD x 0))) (s.2.2 (blkN (mF G (L.getD x 0))) + nI 1)) _ _ rfl (by omega) ((hF1.sI (Or.inr (Or.inl rfl))).sI (Or.inl rfl)) ?_ ?_ ?_ ?_
            · rw [sI_s, sI_o (by decide), x18]
            · rw [sI_o (by decide), sI_s, x19]
            · intro k hk; rw [sI_o (by decide), sI_o (by decide)]; exact x20 k hk
            · rw [← hV, drop_c hlt14]
              show sdL _ _ _ _ _ = sdL _ _ _ _ (sdS _ _ _ s)
              rw [sdS, if_neg (fun h => h.elim c25 c56)]
  refine r_istore2 (pc := 5) C dX5_send_5 rfl ?_
  refine r_iconst (pc := 6) (v := nI 0) C dX5_send_6 (by decide) ?_
  refine r_istore3 (pc := 7) C dX5_send_7 rfl ?_
  refine r_iconst (pc := 8) (v := nI 0) C dX5_send_8 (by decide) ?_
  refine r_istore4 (pc := 9) C dX5_send_9 rfl ?_
  exact loop1 _ 0 (nI 0, G.1 19, G.1 18) G2 none rfl (Nat.zero_le _) (hF2.mono (fun q h => Or.inr (Or.inr h))) (hF2.1 18 (by omega)) (hF2.1 19 (by omega)) hR rfl
