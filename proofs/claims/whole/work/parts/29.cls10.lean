set_option maxHeartbeats 4000000 in
set_option maxRecDepth 100000 in
theorem tX6_isBlank (Y : gY) (hY : Y.2.2.2 = wC) {G : gS} {c : Nat} (hc : c < 256) : ∀ l : Launch, gM Y l yX6_isBlank cX6_isBlank 1 (some .boolean) (0, 0) [.int (nI c)] G (qi (fun r G' => r = bI (isBl c) ∧ G' = G)) := by
  intro l
  refine gM_of hY rfl (Nat.le_of_ble_eq_true rfl) [some (.int (nI c))] rfl rfl ?_
  rintro Z rfl C
  refine r_iload0 (pc := 0) C dX6_isBlank_0 ?_
  refine r_bipush (pc := 1) (v := nI 32) C dX6_isBlank_1 (by decide) ?_
  refine r_icmp_eq (pc := 3) 24 C dX6_isBlank_3 (by decide) (fun c3 => ?_) (fun c3 => ?_)
  · refine r_iconst (pc := 24) (v := nI 1) C dX6_isBlank_24 (by decide) ?_
    refine r_goto (pc := 25) 29 C dX6_isBlank_25 (by decide) ?_
    exact r_zreturn (pc := 29) C dX6_isBlank_29 (rfl) (by
  refine ⟨?_, rfl⟩
  simp only [nI_eq (show c < 2 ^ 31 by omega) (show 32 < 2 ^ 31 by decide), nI_eq (show c < 2 ^ 31 by omega) (show 9 < 2 ^ 31 by decide), nI_eq (show c < 2 ^ 31 by omega) (show 10 < 2 ^ 31 by decide), nI_eq (show c < 2 ^ 31 by omega) (show 13 < 2 ^ 31 by decide)] at *
  simp [isBl, bI, *])
  · refine r_iload0 (pc := 6) C dX6_isBlank_6 ?_
    refine r_bipush (pc := 7) (v := nI 9) C dX6_isBlank_7 (by decide) ?_
    refine r_icmp_eq (pc := 9) 24 C dX6_isBlank_9 (by decide) (fun c9 => ?_) (fun c9 => ?_)
    · refine r_iconst (pc := 24) (v := nI 1) C dX6_isBlank_24 (by decide) ?_
      refine r_goto (pc := 25) 29 C dX6_isBlank_25 (by decide) ?_
      exact r_zreturn (pc := 29) C dX6_isBlank_29 (rfl) (by
  refine ⟨?_, rfl⟩
  simp only [nI_eq (show c < 2 ^ 31 by omega) (show 32 < 2 ^ 31 by decide), nI_eq (show c < 2 ^ 31 by omega) (show 9 < 2 ^ 31 by decide), nI_eq (show c < 2 ^ 31 by omega) (show 10 < 2 ^ 31 by decide), nI_eq (show c < 2 ^ 31 by omega) (show 13 < 2 ^ 31 by decide)] at *
  simp [isBl, bI, *])
    · refine r_iload0 (pc := 12) C dX6_isBlank_12 ?_
      refine r_bipush (pc := 13) (v := nI 10) C dX6_isBlank_13 (by decide) ?_
      refine r_icmp_eq (pc := 15) 24 C dX6_isBlank_15 (by decide) (fun c15 => ?_) (fun c15 => ?_)
      · refine r_iconst (pc := 24) (v := nI 1) C dX6_isBlank_24 (by decide) ?_
        refine r_goto (pc := 25) 29 C dX6_isBlank_25 (by decide) ?_
        exact r_zreturn (pc := 29) C dX6_isBlank_29 (rfl) (by
  refine ⟨?_, rfl⟩
  simp only [nI_eq (show c < 2 ^ 31 by omega) (show 32 < 2 ^ 31 by decide), nI_eq (show c < 2 ^ 31 by omega) (show 9 < 2 ^ 31 by decide), nI_eq (show c < 2 ^ 31 by omega) (show 10 < 2 ^ 31 by decide), nI_eq (show c < 2 ^ 31 by omega) (show 13 < 2 ^ 31 by decide)] at *
  simp [isBl, bI, *])
      · refine r_iload0 (pc := 18) C dX6_isBlank_18 ?_
        refine r_bipush (pc := 19) (v := nI 13) C dX6_isBlank_19 (by decide) ?_
        refine r_icmp_ne (pc := 21) 28 C dX6_isBlank_21 (by decide) (fun c21 => ?_) (fun c21 => ?_)
        · refine r_iconst (pc := 28) (v := nI 0) C dX6_isBlank_28 (by decide) ?_
          exact r_zreturn (pc := 29) C dX6_isBlank_29 (rfl) (by
  refine ⟨?_, rfl⟩
  simp only [nI_eq (show c < 2 ^ 31 by omega) (show 32 < 2 ^ 31 by decide), nI_eq (show c < 2 ^ 31 by omega) (show 9 < 2 ^ 31 by decide), nI_eq (show c < 2 ^ 31 by omega) (show 10 < 2 ^ 31 by decide), nI_eq (show c < 2 ^ 31 by omega) (show 13 < 2 ^ 31 by decide)] at *
  simp [isBl, bI, *])
        · refine r_iconst (pc := 24) (v := nI 1) C dX6_isBlank_24 (by decide) ?_
          refine r_goto (pc := 25) 29 C dX6_isBlank_25 (by decide) ?_
          exact r_zreturn (pc := 29) C dX6_isBlank_29 (rfl) (by
  refine ⟨?_, rfl⟩
  simp only [nI_eq (show c < 2 ^ 31 by omega) (show 32 < 2 ^ 31 by decide), nI_eq (show c < 2 ^ 31 by omega) (show 9 < 2 ^ 31 by decide), nI_eq (show c < 2 ^ 31 by omega) (show 10 < 2 ^ 31 by decide), nI_eq (show c < 2 ^ 31 by omega) (show 13 < 2 ^ 31 by decide)] at *
  simp [isBl, bI, *])
set_option maxHeartbeats 4000000 in
set_option maxRecDepth 100000 in
theorem tX6_isLetter (Y : gY) (hY : Y.2.2.2 = wC) {G : gS} {c : Nat} (hc : c < 256) : ∀ l : Launch, gM Y l yX6_isLetter cX6_isLetter 1 (some .boolean) (0, 0) [.int (nI c)] G (qi (fun r G' => r = bI (isLe c) ∧ G' = G)) := by
  intro l
  refine gM_of hY rfl (Nat.le_of_ble_eq_true rfl) [some (.int (nI c))] rfl rfl ?_
  rintro Z rfl C
  refine r_iload0 (pc := 0) C dX6_isLetter_0 ?_
  refine r_bipush (pc := 1) (v := nI 97) C dX6_isLetter_1 (by decide) ?_
  refine r_icmp_lt (pc := 3) 16 C dX6_isLetter_3 (by decide) (fun c3 => ?_) (fun c3 => ?_)
  · refine r_iconst (pc := 16) (v := nI 0) C dX6_isLetter_16 (by decide) ?_
    exact r_zreturn (pc := 17) C dX6_isLetter_17 (rfl) (⟨bI_dn (fun h => absurd ((nI_ltI (by omega) (by decide)).mp c3) (by omega)), rfl⟩)
  · refine r_iload0 (pc := 6) C dX6_isLetter_6 ?_
    refine r_bipush (pc := 7) (v := nI 122) C dX6_isLetter_7 (by decide) ?_
    refine r_icmp_gt (pc := 9) 16 C dX6_isLetter_9 (by decide) (fun c9 => ?_) (fun c9 => ?_)
    · refine r_iconst (pc := 16) (v := nI 0) C dX6_isLetter_16 (by decide) ?_
      exact r_zreturn (pc := 17) C dX6_isLetter_17 (rfl) (⟨bI_dn (fun h => absurd ((nI_ltI (by decide) (by omega)).mp c9) (by omega)), rfl⟩)
    · refine r_iconst (pc := 12) (v := nI 1) C dX6_isLetter_12 (by decide) ?_
      refine r_goto (pc := 13) 17 C dX6_isLetter_13 (by decide) ?_
      exact r_zreturn (pc := 17) C dX6_isLetter_17 (rfl) (⟨bI_d ⟨(nI_leI (by decide) (by omega)).mp (Int32.not_lt.mp c3), (nI_leI (by omega) (by decide)).mp (Int32.not_lt.mp c9)⟩, rfl⟩)
set_option maxHeartbeats 4000000 in
set_option maxRecDepth 100000 in
theorem tX6_isDigit (Y : gY) (hY : Y.2.2.2 = wC) {G : gS} {c : Nat} (hc : c < 256) : ∀ l : Launch, gM Y l yX6_isDigit cX6_isDigit 1 (some .boolean) (0, 0) [.int (nI c)] G (qi (fun r G' => r = bI (isDi c) ∧ G' = G)) := by
  intro l
  refine gM_of hY rfl (Nat.le_of_ble_eq_true rfl) [some (.int (nI c))] rfl rfl ?_
  rintro Z rfl C
  refine r_iload0 (pc := 0) C dX6_isDigit_0 ?_
  refine r_bipush (pc := 1) (v := nI 48) C dX6_isDigit_1 (by decide) ?_
  refine r_icmp_lt (pc := 3) 16 C dX6_isDigit_3 (by decide) (fun c3 => ?_) (fun c3 => ?_)
  · refine r_iconst (pc := 16) (v := nI 0) C dX6_isDigit_16 (by decide) ?_
    exact r_zreturn (pc := 17) C dX6_isDigit_17 (rfl) (⟨bI_dn (fun h => absurd ((nI_ltI (by omega) (by decide)).mp c3) (by omega)), rfl⟩)
  · refine r_iload0 (pc := 6) C dX6_isDigit_6 ?_
    refine r_bipush (pc := 7) (v := nI 57) C dX6_isDigit_7 (by decide) ?_
    refine r_icmp_gt (pc := 9) 16 C dX6_isDigit_9 (by decide) (fun c9 => ?_) (fun c9 => ?_)
    · refine r_iconst (pc := 16) (v := nI 0) C dX6_isDigit_16 (by decide) ?_
      exact r_zreturn (pc := 17) C dX6_isDigit_17 (rfl) (⟨bI_dn (fun h => absurd ((nI_ltI (by decide) (by omega)).mp c9) (by omega)), rfl⟩)
    · refine r_iconst (pc := 12) (v := nI 1) C dX6_isDigit_12 (by decide) ?_
      refine r_goto (pc := 13) 17 C dX6_isDigit_13 (by decide) ?_
      exact r_zreturn (pc := 17) C dX6_isDigit_17 (rfl) (⟨bI_d ⟨(nI_leI (by decide) (by omega)).mp (Int32.not_lt.mp c3), (nI_leI (by omega) (by decide)).mp (Int32.not_lt.mp c9)⟩, rfl⟩)
set_option maxHeartbeats 4000000 in
set_option maxRecDepth 100000 in
theorem tX6_set (Y : gY) (hY : Y.2.2.2 = wC) {G : gS} {a b : Int32} : ∀ l : Launch, gM Y l yX6_set cX6_set 3 none (0, 0) [.ref (Y.2.1 (5)), .int (a), .int (b)] G (qv (fun G' => G' = sW G 5 (upd (upd (G.1 5) 3 a) 4 b))) := by
  intro l
  refine gM_of hY rfl (Nat.le_of_ble_eq_true rfl) [some (.ref (Y.2.1 (5))), some (.int (a)), some (.int (b))] rfl rfl ?_
  rintro Z rfl C
  refine r_aload0 (pc := 0) C dX6_set_0 ?_
  refine r_iload1 (pc := 1) C dX6_set_1 ?_
  refine pX6_38 (pc := 2) C dX6_set_2 ?_
  refine r_aload0 (pc := 5) C dX6_set_5 ?_
  refine r_iload2 (pc := 6) C dX6_set_6 ?_
  refine pX6_35 (pc := 7) C dX6_set_7 ?_
  exact r_return (pc := 10) C dX6_set_10 (by simp only [sI0, sW_s, sW_W])
set_option maxHeartbeats 4000000 in
set_option maxRecDepth 100000 in
theorem tX6_restart (Y : gY) (hY : Y.2.2.2 = wC) {G : gS} : ∀ l : Launch, gM Y l yX6_restart cX6_restart 1 none (0, 0) [.ref (Y.2.1 (5))] G (qv (fun G' => G' = sW G 5 (upd (G.1 5) 1 (nI 0)))) := by
  intro l
  refine gM_of hY rfl (Nat.le_of_ble_eq_true rfl) [some (.ref (Y.2.1 (5)))] rfl rfl ?_
  rintro Z rfl C
  refine r_aload0 (pc := 0) C dX6_restart_0 ?_
  refine r_iconst (pc := 1) (v := nI 0) C dX6_restart_1 (by decide) ?_
  refine pX6_15 (pc := 2) C dX6_restart_2 ?_
  exact r_return (pc := 5) C dX6_restart_5 (rfl)
set_option maxHeartbeats 4000000 in
set_option maxRecDepth 100000 in
theorem tX6_scanWord (Y : gY) (hY : Y.2.2.2 = wC) {G : gS} {n i0 : Nat} (hT : tapeOk G n) (hi0 : i0 ≤ n) (hn1 : G.1 5 1 = nI i0) (hv0 : G.1 5 4 = nI 0) : ∀ l : Launch, gM Y l yX6_scanWord cX6_scanWord 4 none (1, 20) [.ref (Y.2.1 (5))] G (qv (fun G' => G' = sW G 5 (upd (upd (upd (G.1 5) 1 (nI (skB isLe (tB G) n i0))) 3 (wsF (accW (tB G) (skB isLe (tB G) n i0 - i0) i0 0) 12).1) 4 (wsF (accW (tB G) (skB isLe (tB G) n i0 - i0) i0 0) 12).2))) := by
  intro l
  refine gM_of hY rfl (Nat.le_of_ble_eq_true rfl) [some (.ref (Y.2.1 (5))), none, none, none] rfl rfl ?_
  rintro Z rfl C
  have hn20 := hT.2.1
  have second : ∀ (e : Nat) (x : Int64), e = (skB isLe (tB G) n i0) → x = (accW (tB G) (skB isLe (tB G) n i0 - i0) i0 0) → ∀ (k0 k : Nat) (p : Int32 × Int32), k0 = 12 - k → k ≤ 12 → p = wsF x k → WW Z (qv (fun G' => G' = sW G 5 (upd (upd (upd (G.1 5) 1 (nI (skB isLe (tB G) n i0))) 3 (wsF (accW (tB G) (skB isLe (tB G) n i0 - i0) i0 0) 12).1) 4 (wsF (accW (tB G) (skB isLe (tB G) n i0 - i0) i0 0) 12).2))) 73 [some (.ref (ad Z (5))), some (.long (x)), none, some (.int (nI k))] [] (sW G 5 (upd (upd (upd (G.1 5) 1 (nI e)) 3 p.1) 4 p.2)) := by
    intro e x he hx k0
    induction k0 using Nat.strongRecOn with
    | _ k0 ih =>
      intro k p hk0 hk hp
      refine r_iload3 (pc := 73) C dX6_scanWord_73 ?_
      refine r_stL (pc := 74) C dX6_scanWord_74 (by decide) (fun h74t h74 => ?_)
      refine r_tllen (pc := 77) C dX6_scanWord_77 h74 ?_
      refine r_eqi (y := nI 12) rfl ?_
      refine r_icmp_ge (pc := 78) 115 C dX6_scanWord_78 (by decide) (fun c78 => ?_) (fun c78 => ?_)
      · obtain rfl : k = 12 := by have := (nI_leI (by omega) (by omega)).mp c78; omega
        exact r_return (pc := 115) C dX6_scanWord_115 (by rw [← hx, ← hp, ← he])
      · have hk12 : k < 12 := by
          rcases Nat.lt_or_ge k 12 with h | h
          · exact h
          · exact absurd (nI_le h (by omega)) c78
        refine r_stL (pc := 81) C dX6_scanWord_81 (by decide) (fun h81t h81 => ?_)
        refine r_iload3 (pc := 84) C dX6_scanWord_84 ?_
        refine r_tlld (pc := 85) (_) C dX6_scanWord_85 h81 (by decide) (rfl) (by show k < 12; exact hk12) ?_
        refine r_lload1 (pc := 86) C dX6_scanWord_86 ?_
        refine r_lcmp (pc := 87) C dX6_scanWord_87 ?_
        refine r_if_ne (pc := 88) 109 C dX6_scanWord_88 (by decide) (fun c88 => ?_) (fun c88 => ?_)
        · refine r_iinc3 (pc := 109) (nI 1) C dX6_scanWord_109 (by decide) rfl ?_
          rw [nI_add]
          refine r_goto (pc := 112) 73 C dX6_scanWord_112 (by decide) ?_
          exact ih (12 - (k + 1)) (by omega) (k + 1) _ rfl (by omega) (by rw [wsF, if_neg (fun e => c88 (lcmp_z.mpr e))]; exact hp)
        · refine r_aload0 (pc := 91) C dX6_scanWord_91 ?_
          refine r_stI (pc := 92) (n := "WORD_SORTS") tWs C dX6_scanWord_92 (by decide) (by decide) (fun h92t h92 => ?_)
          refine r_iload3 (pc := 95) C dX6_scanWord_95 ?_
          refine r_tald (pc := 96) (_) C dX6_scanWord_96 h92 (by decide) (rfl) (by show k < 12; exact hk12) ?_
          refine pX6_38 (pc := 97) C dX6_scanWord_97 ?_
          refine r_aload0 (pc := 100) C dX6_scanWord_100 ?_
          refine r_stI (pc := 101) (n := "WORD_VALUES") tWv C dX6_scanWord_101 (by decide) (by decide) (fun h101t h101 => ?_)
          refine r_iload3 (pc := 104) C dX6_scanWord_104 ?_
          refine r_tald (pc := 105) (_) C dX6_scanWord_105 h101 (by decide) (rfl) (by show k < 12; exact hk12) ?_
          refine pX6_35 (pc := 106) C dX6_scanWord_106 ?_
          refine r_iinc3 (pc := 109) (nI 1) C dX6_scanWord_109 (by decide) rfl ?_
          rw [nI_add]
          refine r_goto (pc := 112) 73 C dX6_scanWord_112 (by decide) ?_
          refine r_G (show _ = sW G 5 (upd (upd (upd (G.1 5) 1 (nI e)) 3 (tWs.getD k 0)) 4 (tWv.getD k 0)) from ?_) ?_
          · simp only [sI0, sW_s, sW_W]
            congr 1
            funext q
            simp only [upd]
            by_cases q4 : q = 4
            · simp [q4]
            · by_cases q3 : q = 3
              · simp [q3]
              · simp [q4, q3]
          · exact ih (12 - (k + 1)) (by omega) (k + 1) (tWs.getD k 0, tWv.getD k 0) rfl (by omega) (by rw [wsF, if_pos (lcmp_z.mp c88)])
  have loop : ∀ (k0 : Nat) (i : Nat) (x : Int64), k0 = n - i → i ≤ n → skB isLe (tB G) n i = (skB isLe (tB G) n i0) → accW (tB G) (skB isLe (tB G) n i - i) i x = (accW (tB G) (skB isLe (tB G) n i0 - i0) i0 0) → WW Z (qv (fun G' => G' = sW G 5 (upd (upd (upd (G.1 5) 1 (nI (skB isLe (tB G) n i0))) 3 (wsF (accW (tB G) (skB isLe (tB G) n i0 - i0) i0 0) 12).1) 4 (wsF (accW (tB G) (skB isLe (tB G) n i0 - i0) i0 0) 12).2))) 2 [some (.ref (ad Z (5))), some (.long (x)), none, none] [] (sW G 5 (upd (G.1 5) 1 (nI i))) := by
    intro k0
    induction k0 using Nat.strongRecOn with
    | _ k0 ih =>
      intro i x hk0 hin hsk hx
      have hi1 : (upd (G.1 5) 1 (nI i)) 1 = nI i := upd_s
      refine r_aload0 (pc := 2) C dX6_scanWord_2 ?_
      refine gX6_15 (pc := 3) C dX6_scanWord_3 ?_
      refine r_eqi (y := nI i) (by rw [sW_s]; exact hi1) ?_
      refine r_aload0 (pc := 6) C dX6_scanWord_6 ?_
      refine gX6_9 (pc := 7) C dX6_scanWord_7 ?_
      refine gX6_19 (pc := 10) C dX6_scanWord_10 ?_
      refine r_eqi (y := nI n) (by rw [sW_o _ _ _ (by decide)]; exact hT.1) ?_
      refine r_icmp_ge (pc := 13) 66 C dX6_scanWord_13 (by decide) (fun c13 => ?_) (fun c13 => ?_)
      · have hge : n ≤ i := (nI_leI (by omega) (by omega)).mp c13
        refine r_aload0 (pc := 66) C dX6_scanWord_66 ?_
        refine r_iconst (pc := 67) (v := nI 1) C dX6_scanWord_67 (by decide) ?_
        refine pX6_38 (pc := 68) C dX6_scanWord_68 ?_
        refine r_iconst (pc := 71) (v := nI 0) C dX6_scanWord_71 (by decide) ?_
        refine r_istore3 (pc := 72) C dX6_scanWord_72 rfl ?_
        have hend : i = (skB isLe (tB G) n i0) := by rw [← hsk]; exact (skB_no (fun h => absurd h.1 (by omega))).symm
        have hacc : x = (accW (tB G) (skB isLe (tB G) n i0 - i0) i0 0) := by rw [← hx, show skB isLe (tB G) n i - i = 0 from by rw [hsk, ← hend]; omega]; rfl
        refine r_G (show _ = sW G 5 (upd (upd (upd (G.1 5) 1 (nI i)) 3 (nI 1)) 4 (nI 0)) from ?_) ?_
        · simp only [sI0, sW_s, sW_W]
          congr 1
          funext q
          simp only [upd]
          by_cases q4 : q = 4
          · simp [q4]; exact hv0
          · simp [q4]
        · exact second i x hend hacc _ 0 (nI 1, nI 0) rfl (Nat.zero_le _) rfl
      · have hlt : i < n := by
          rcases Nat.lt_or_ge i n with h | h
          · exact h
          · exact absurd (nI_le h (by omega)) c13
        obtain ⟨b1, b2⟩ := hT.2.2 i hlt
        refine r_aload0 (pc := 16) C dX6_scanWord_16 ?_
        refine gX6_9 (pc := 17) C dX6_scanWord_17 ?_
        refine gX6_24 (pc := 20) C dX6_scanWord_20 ?_
        refine r_aload0 (pc := 23) C dX6_scanWord_23 ?_
        refine gX6_15 (pc := 24) C dX6_scanWord_24 ?_
        refine r_eqi (y := nI i) (by rw [sW_s]; exact hi1) ?_
        refine r_iald (pc := 27) (_) C dX6_scanWord_27 aC2 (rfl) (by omega) ?_
        refine r_eqi (y := nI (tB G i)) (by rw [sW_o _ _ _ (by decide)]; exact b1) ?_
        refine r_callSi (pc := 28) C rfl dX6_scanWord_28 kX6_41 (tX6_isLetter Z.1 C.w b2) rfl rfl (Nat.le_of_ble_eq_true rfl) (by decide) (fun x28 G28 h28 => ?_)
        obtain ⟨rfl, h28b⟩ := h28
        have h28b := h28b.symm
        subst h28b
        refine r_if_eq (pc := 31) 66 C dX6_scanWord_31 (by decide) (fun c31 => ?_) (fun c31 => ?_)
        · refine r_aload0 (pc := 66) C dX6_scanWord_66 ?_
          refine r_iconst (pc := 67) (v := nI 1) C dX6_scanWord_67 (by decide) ?_
          refine pX6_38 (pc := 68) C dX6_scanWord_68 ?_
          refine r_iconst (pc := 71) (v := nI 0) C dX6_scanWord_71 (by decide) ?_
          refine r_istore3 (pc := 72) C dX6_scanWord_72 rfl ?_
          have hend : i = (skB isLe (tB G) n i0) := by rw [← hsk]; exact (skB_no (fun h => by rw [bI_z.mp c31] at h; cases h.2)).symm
          have hacc : x = (accW (tB G) (skB isLe (tB G) n i0 - i0) i0 0) := by rw [← hx, show skB isLe (tB G) n i - i = 0 from by rw [hsk, ← hend]; omega]; rfl
          refine r_G (show _ = sW G 5 (upd (upd (upd (G.1 5) 1 (nI i)) 3 (nI 1)) 4 (nI 0)) from ?_) ?_
          · simp only [sI0, sW_s, sW_W]
            congr 1
            funext q
            simp only [upd]
            by_cases q4 : q = 4
            · simp [q4]; exact hv0
            · simp [q4]
          · exact second i x hend hacc _ 0 (nI 1, nI 0) rfl (Nat.zero_le _) rfl
        · refine r_lload1 (pc := 34) C dX6_scanWord_34 ?_
          refine r_bipush (pc := 35) (v := nI 8) C dX6_scanWord_35 (by decide) ?_
          refine r_lshl (pc := 37) C dX6_scanWord_37 ?_
          refine r_aload0 (pc := 38) C dX6_scanWord_38 ?_
          refine gX6_9 (pc := 39) C dX6_scanWord_39 ?_
          refine gX6_24 (pc := 42) C dX6_scanWord_42 ?_
          refine r_aload0 (pc := 45) C dX6_scanWord_45 ?_
          refine gX6_15 (pc := 46) C dX6_scanWord_46 ?_
          refine r_eqi (y := nI i) (by rw [sW_s]; exact hi1) ?_
          refine r_iald (pc := 49) (_) C dX6_scanWord_49 aC2 (rfl) (by omega) ?_
          refine r_eqi (y := nI (tB G i)) (by rw [sW_o _ _ _ (by decide)]; exact b1) ?_
          refine r_i2l (pc := 50) C dX6_scanWord_50 ?_
          refine r_lor (pc := 51) C dX6_scanWord_51 ?_
          refine r_lstore1 (pc := 52) C dX6_scanWord_52 rfl ?_
          refine r_aload0 (pc := 53) C dX6_scanWord_53 ?_
          refine r_dup (pc := 54) C dX6_scanWord_54 rfl ?_
          refine gX6_15 (pc := 55) C dX6_scanWord_55 ?_
          refine r_eqi (y := nI i) (by rw [sW_s]; exact hi1) ?_
          refine r_iconst (pc := 58) (v := nI 1) C dX6_scanWord_58 (by decide) ?_
          refine r_iadd (pc := 59) C dX6_scanWord_59 ?_
          refine pX6_15 (pc := 60) C dX6_scanWord_60 ?_
          refine r_goto (pc := 63) 2 C dX6_scanWord_63 (by decide) ?_
          refine r_G (show _ = sW G 5 (upd (G.1 5) 1 (nI (i + 1))) from ?_) ?_
          · simp only [sI0, sW_s, sW_W, nI_add]
            congr 1
            funext q
            simp only [upd]
            by_cases q1 : q = 1
            · simp [q1]
            · simp [q1]
          · exact ih (n - (i + 1)) (by omega) (i + 1) _ rfl (by omega) (by rw [← hsk, skB_go hlt (bI_n.mp c31)]) (by
              rw [← hx, skB_go hlt (bI_n.mp c31), show skB isLe (tB G) n (i + 1) - i = (skB isLe (tB G) n (i + 1) - (i + 1)) + 1 from by have := skB_ge (p := isLe) (B := tB G) (n := n) (i := i + 1); omega]
              rfl)
  refine r_lconst (pc := 0) (v := 0) C dX6_scanWord_0 (by decide) ?_
  refine r_lstore1 (pc := 1) C dX6_scanWord_1 rfl ?_
  have K := loop _ i0 0 rfl hi0 rfl rfl
  rw [upd_id hn1, sW_id] at K
  exact K
set_option maxHeartbeats 4000000 in
set_option maxRecDepth 100000 in
theorem tX6_scanInt (Y : gY) (hY : Y.2.2.2 = wC) {G : gS} {n i0 : Nat} (hT : tapeOk G n) (hi0 : i0 ≤ n) (hn1 : G.1 5 1 = nI i0) (hat : G.1 5 2 = nI i0) (hv0 : G.1 5 4 = nI 0) : ∀ l : Launch, gM Y l yX6_scanInt cX6_scanInt 1 none (1, 20) [.ref (Y.2.1 (5))] G (qv (fun G' => G' = sW G 5 (upd (upd (upd (G.1 5) 1 (nI (skB isDi (tB G) n i0))) 3 (if (skB isDi (tB G) n i0) - i0 ≤ 4 then nI 2 else nI 1)) 4 (intW (tB G) ((skB isDi (tB G) n i0) - i0) i0 (nI 0))))) := by
  intro l
  refine gM_of hY rfl (Nat.le_of_ble_eq_true rfl) [some (.ref (Y.2.1 (5)))] rfl rfl ?_
  rintro Z rfl C
  have hn20 := hT.2.1
  have loop : ∀ (k0 : Nat) (i : Nat) (v : Int32), k0 = n - i → i ≤ n → skB isDi (tB G) n i = (skB isDi (tB G) n i0) → intW (tB G) (skB isDi (tB G) n i - i) i v = intW (tB G) ((skB isDi (tB G) n i0) - i0) i0 (nI 0) → WW Z (qv (fun G' => G' = sW G 5 (upd (upd (upd (G.1 5) 1 (nI (skB isDi (tB G) n i0))) 3 (if (skB isDi (tB G) n i0) - i0 ≤ 4 then nI 2 else nI 1)) 4 (intW (tB G) ((skB isDi (tB G) n i0) - i0) i0 (nI 0))))) 0 [some (.ref (ad Z (5)))] [] (sW G 5 (upd (upd (G.1 5) 1 (nI i)) 4 v)) := by
    intro k0
    induction k0 using Nat.strongRecOn with
    | _ k0 ih =>
      intro i v hk0 hin hsk hx
      have hi1 : (upd (upd (G.1 5) 1 (nI i)) 4 v) 1 = nI i := by rw [upd_o (by decide), upd_s]
      refine r_aload0 (pc := 0) C dX6_scanInt_0 ?_
      refine gX6_15 (pc := 1) C dX6_scanInt_1 ?_
      refine r_eqi (y := nI i) (by rw [sW_s]; exact hi1) ?_
      refine r_aload0 (pc := 4) C dX6_scanInt_4 ?_
      refine gX6_9 (pc := 5) C dX6_scanInt_5 ?_
      refine gX6_19 (pc := 8) C dX6_scanInt_8 ?_
      refine r_eqi (y := nI n) (by rw [sW_o _ _ _ (by decide)]; exact hT.1) ?_
      refine r_icmp_ge (pc := 11) 72 C dX6_scanInt_11 (by decide) (fun c11 => ?_) (fun c11 => ?_)
      · have hge : n ≤ i := (nI_leI (by omega) (by omega)).mp c11
        have hend : i = (skB isDi (tB G) n i0) := by rw [← hsk]; exact (skB_no (fun h => absurd h.1 (by omega))).symm
        have hacc : v = intW (tB G) ((skB isDi (tB G) n i0) - i0) i0 (nI 0) := by rw [← hx, show skB isDi (tB G) n i - i = 0 from by rw [hsk, ← hend]; omega]; rfl
        have hge0 : i0 ≤ i := by rw [hend]; exact skB_ge
        refine r_aload0 (pc := 72) C dX6_scanInt_72 ?_
        refine r_aload0 (pc := 73) C dX6_scanInt_73 ?_
        refine gX6_15 (pc := 74) C dX6_scanInt_74 ?_
        refine r_eqi (y := nI i) (by rw [sW_s]; exact hi1) ?_
        refine r_aload0 (pc := 77) C dX6_scanInt_77 ?_
        refine gX6_32 (pc := 78) C dX6_scanInt_78 ?_
        refine r_eqi (y := nI i0) (by rw [sW_s, upd_o (by decide), upd_o (by decide)]; exact hat) ?_
        refine r_isub (pc := 81) C dX6_scanInt_81 ?_
        refine r_eqi (pk_sub (a := i) (b := i0) hge0) ?_
        refine r_iconst (pc := 82) (v := nI 4) C dX6_scanInt_82 (by decide) ?_
        refine r_icmp_gt (pc := 83) 90 C dX6_scanInt_83 (by decide) (fun c83 => ?_) (fun c83 => ?_)
        · refine r_iconst (pc := 90) (v := nI 1) C dX6_scanInt_90 (by decide) ?_
          refine pX6_38 (pc := 91) C dX6_scanInt_91 ?_
          exact r_return (pc := 94) C dX6_scanInt_94 (by
        rw [← hacc, ← hend, if_neg (by have := (nI_ltI (by decide) (by omega)).mp c83; omega)]
        simp only [sI0, sW_s, sW_W]
        congr 1
        funext q
        simp only [upd]
        by_cases q4 : q = 4
        · simp [q4]
        · by_cases q1 : q = 1
          · simp [q1]
          · by_cases q3 : q = 3
            · simp [q3]
            · simp [q4, q1, q3])
        · refine r_iconst (pc := 86) (v := nI 2) C dX6_scanInt_86 (by decide) ?_
          refine r_goto (pc := 87) 91 C dX6_scanInt_87 (by decide) ?_
          refine pX6_38 (pc := 91) C dX6_scanInt_91 ?_
          exact r_return (pc := 94) C dX6_scanInt_94 (by
        rw [← hacc, ← hend, if_pos ((nI_leI (by omega) (by decide)).mp (Int32.not_lt.mp c83))]
        simp only [sI0, sW_s, sW_W]
        congr 1
        funext q
        simp only [upd]
        by_cases q4 : q = 4
        · simp [q4]
        · by_cases q1 : q = 1
          · simp [q1]
          · by_cases q3 : q = 3
            · simp [q3]
            · simp [q4, q1, q3])
      · have hlt : i < n := by
          rcases Nat.lt_or_ge i n with h | h
          · exact h
          · exact absurd (nI_le h (by omega)) c11
        obtain ⟨b1, b2⟩ := hT.2.2 i hlt
        refine r_aload0 (pc := 14) C dX6_scanInt_14 ?_
        refine gX6_9 (pc := 15) C dX6_scanInt_15 ?_
        refine gX6_24 (pc := 18) C dX6_scanInt_18 ?_
        refine r_aload0 (pc := 21) C dX6_scanInt_21 ?_
        refine gX6_15 (pc := 22) C dX6_scanInt_22 ?_
        refine r_eqi (y := nI i) (by rw [sW_s]; exact hi1) ?_
        refine r_iald (pc := 25) (_) C dX6_scanInt_25 aC2 (rfl) (by omega) ?_
        refine r_eqi (y := nI (tB G i)) (by rw [sW_o _ _ _ (by decide)]; exact b1) ?_
        refine r_callSi (pc := 26) C rfl dX6_scanInt_26 kX6_47 (tX6_isDigit Z.1 C.w b2) rfl rfl (Nat.le_of_ble_eq_true rfl) (by decide) (fun x26 G26 h26 => ?_)
        obtain ⟨rfl, h26b⟩ := h26
        have h26b := h26b.symm
        subst h26b
        refine r_if_eq (pc := 29) 72 C dX6_scanInt_29 (by decide) (fun c29 => ?_) (fun c29 => ?_)
        · have hend : i = (skB isDi (tB G) n i0) := by rw [← hsk]; exact (skB_no (fun h => by rw [bI_z.mp c29] at h; cases h.2)).symm
          have hacc : v = intW (tB G) ((skB isDi (tB G) n i0) - i0) i0 (nI 0) := by rw [← hx, show skB isDi (tB G) n i - i = 0 from by rw [hsk, ← hend]; omega]; rfl
          have hge0 : i0 ≤ i := by rw [hend]; exact skB_ge
          refine r_aload0 (pc := 72) C dX6_scanInt_72 ?_
          refine r_aload0 (pc := 73) C dX6_scanInt_73 ?_
          refine gX6_15 (pc := 74) C dX6_scanInt_74 ?_
          refine r_eqi (y := nI i) (by rw [sW_s]; exact hi1) ?_
          refine r_aload0 (pc := 77) C dX6_scanInt_77 ?_
          refine gX6_32 (pc := 78) C dX6_scanInt_78 ?_
          refine r_eqi (y := nI i0) (by rw [sW_s, upd_o (by decide), upd_o (by decide)]; exact hat) ?_
          refine r_isub (pc := 81) C dX6_scanInt_81 ?_
          refine r_eqi (pk_sub (a := i) (b := i0) hge0) ?_
          refine r_iconst (pc := 82) (v := nI 4) C dX6_scanInt_82 (by decide) ?_
          refine r_icmp_gt (pc := 83) 90 C dX6_scanInt_83 (by decide) (fun c83 => ?_) (fun c83 => ?_)
          · refine r_iconst (pc := 90) (v := nI 1) C dX6_scanInt_90 (by decide) ?_
            refine pX6_38 (pc := 91) C dX6_scanInt_91 ?_
            exact r_return (pc := 94) C dX6_scanInt_94 (by
        rw [← hacc, ← hend, if_neg (by have := (nI_ltI (by decide) (by omega)).mp c83; omega)]
        simp only [sI0, sW_s, sW_W]
        congr 1
        funext q
        simp only [upd]
        by_cases q4 : q = 4
        · simp [q4]
        · by_cases q1 : q = 1
          · simp [q1]
          · by_cases q3 : q = 3
            · simp [q3]
            · simp [q4, q1, q3])
          · refine r_iconst (pc := 86) (v := nI 2) C dX6_scanInt_86 (by decide) ?_
            refine r_goto (pc := 87) 91 C dX6_scanInt_87 (by decide) ?_
            refine pX6_38 (pc := 91) C dX6_scanInt_91 ?_
            exact r_return (pc := 94) C dX6_scanInt_94 (by
        rw [← hacc, ← hend, if_pos ((nI_leI (by omega) (by decide)).mp (Int32.not_lt.mp c83))]
        simp only [sI0, sW_s, sW_W]
        congr 1
        funext q
        simp only [upd]
        by_cases q4 : q = 4
        · simp [q4]
        · by_cases q1 : q = 1
          · simp [q1]
          · by_cases q3 : q = 3
            · simp [q3]
            · simp [q4, q1, q3])
        · refine r_aload0 (pc := 32) C dX6_scanInt_32 ?_
          refine r_aload0 (pc := 33) C dX6_scanInt_33 ?_
          refine gX6_35 (pc := 34) C dX6_scanInt_34 ?_
          refine r_eqi (y := v) (by rw [sW_s, upd_s]) ?_
          refine r_bipush (pc := 37) (v := nI 10) C dX6_scanInt_37 (by decide) ?_
          refine r_imul (pc := 39) C dX6_scanInt_39 ?_
          refine r_aload0 (pc := 40) C dX6_scanInt_40 ?_
          refine gX6_9 (pc := 41) C dX6_scanInt_41 ?_
          refine gX6_24 (pc := 44) C dX6_scanInt_44 ?_
          refine r_aload0 (pc := 47) C dX6_scanInt_47 ?_
          refine gX6_15 (pc := 48) C dX6_scanInt_48 ?_
          refine r_eqi (y := nI i) (by rw [sW_s]; exact hi1) ?_
          refine r_iald (pc := 51) (_) C dX6_scanInt_51 aC2 (rfl) (by omega) ?_
          refine r_eqi (y := nI (tB G i)) (by rw [sW_o _ _ _ (by decide)]; exact b1) ?_
          refine r_iadd (pc := 52) C dX6_scanInt_52 ?_
          refine r_bipush (pc := 53) (v := nI 48) C dX6_scanInt_53 (by decide) ?_
          refine r_isub (pc := 55) C dX6_scanInt_55 ?_
          refine pX6_35 (pc := 56) C dX6_scanInt_56 ?_
          refine r_aload0 (pc := 59) C dX6_scanInt_59 ?_
          refine r_dup (pc := 60) C dX6_scanInt_60 rfl ?_
          refine gX6_15 (pc := 61) C dX6_scanInt_61 ?_
          refine r_eqi (y := nI i) (by rw [sI0, sW_s, sW_s, upd_o (by decide)]; exact hi1) ?_
          refine r_iconst (pc := 64) (v := nI 1) C dX6_scanInt_64 (by decide) ?_
          refine r_iadd (pc := 65) C dX6_scanInt_65 ?_
          refine pX6_15 (pc := 66) C dX6_scanInt_66 ?_
          refine r_goto (pc := 69) 0 C dX6_scanInt_69 (by decide) ?_
          refine r_G (show _ = sW G 5 (upd (upd (G.1 5) 1 (nI (i + 1))) 4 (v * nI 10 + nI (tB G i) - nI 48)) from ?_) ?_
          · simp only [sI0, sW_s, sW_W, nI_add]
            congr 1
            funext q
            simp only [upd]
            by_cases q4 : q = 4
            · simp [q4]
            · by_cases q1 : q = 1
              · simp [q1]
              · by_cases q3 : q = 3
                · simp [q3]
                · simp [q4, q1, q3]
          · exact ih (n - (i + 1)) (by omega) (i + 1) _ rfl (by omega) (by rw [← hsk, skB_go hlt (bI_n.mp c29)]) (by
              rw [← hx, skB_go hlt (bI_n.mp c29), show skB isDi (tB G) n (i + 1) - i = (skB isDi (tB G) n (i + 1) - (i + 1)) + 1 from by have := skB_ge (p := isDi) (B := tB G) (n := n) (i := i + 1); omega]
              rfl)
  have K := loop _ i0 (nI 0) rfl hi0 rfl rfl
  rw [upd_id (show upd (G.1 5) 1 (nI i0) 4 = nI 0 from by rw [upd_o (by decide)]; exact hv0), upd_id hn1, sW_id] at K
  exact K
