set_option maxHeartbeats 4000000 in
set_option maxRecDepth 100000 in
theorem tX4_valueOf (Y : gY) (hY : Y.2.2.2 = wC) {G : gS} {k : Nat} (hk : k < 2 ^ 31) : ∀ l : Launch, gM Y l yX4_valueOf cX4_valueOf 2 (some .int) (0, 0) [.int (nI k), .ref (Y.2.1 (21))] G (qi (fun x G' => x = (if nI 7 ≤ nI k then nI 0 else G.1 21 k) ∧ G' = G)) := by
  intro l
  refine gM_of hY rfl (Nat.le_of_ble_eq_true rfl) [some (.int (nI k)), some (.ref (Y.2.1 (21)))] rfl rfl ?_
  rintro Z rfl C
  refine r_iload0 (pc := 0) C dX4_valueOf_0 ?_
  refine r_aload1 (pc := 1) C dX4_valueOf_1 ?_
  refine r_alen (pc := 2) C dX4_valueOf_2 aC21 (fun _ => rfl) ?_
  refine r_icmp_ge (pc := 3) 12 C dX4_valueOf_3 (by decide) (fun c3 => ?_) (fun c3 => ?_)
  · refine r_iconst (pc := 12) (v := nI 0) C dX4_valueOf_12 (by decide) ?_
    exact r_ireturn (pc := 13) C dX4_valueOf_13 (by first | exact ⟨(if_neg c3).symm, rfl⟩ | exact ⟨(if_pos c3).symm, rfl⟩)
  · refine r_aload1 (pc := 6) C dX4_valueOf_6 ?_
    refine r_iload0 (pc := 7) C dX4_valueOf_7 ?_
    refine r_iald (pc := 8) (_) C dX4_valueOf_8 aC21 (rfl) (by rcases Nat.lt_or_ge k 7 with h | h; exact h; exact absurd (nI_le h hk) c3) ?_
    refine r_goto (pc := 9) 13 C dX4_valueOf_9 (by decide) ?_
    exact r_ireturn (pc := 13) C dX4_valueOf_13 (by first | exact ⟨(if_neg c3).symm, rfl⟩ | exact ⟨(if_pos c3).symm, rfl⟩)
set_option maxHeartbeats 4000000 in
set_option maxRecDepth 100000 in
theorem tX4_apply (Y : gY) (hY : Y.2.2.2 = wC) {G : gS} {op a b : Int32} : ∀ l : Launch, gM Y l yX4_apply cX4_apply 3 (some .int) (0, 0) [.int (op), .int (a), .int (b)] G (qi (fun x G' => x = applyP op a b ∧ G' = G)) := by
  intro l
  refine gM_of hY rfl (Nat.le_of_ble_eq_true rfl) [some (.int (op)), some (.int (a)), some (.int (b))] rfl rfl ?_
  rintro Z rfl C
  refine r_iload0 (pc := 0) C dX4_apply_0 ?_
  by_cases s1_1 : op = nI 1
  · refine r_eqi s1_1 ?_
    refine r_tableIn (pc := 1) 48 C dX4_apply_1 (by decide) (by decide) (off := 47) rfl (by decide) ?_
    refine r_iload1 (pc := 48) C dX4_apply_48 ?_
    refine r_iload2 (pc := 49) C dX4_apply_49 ?_
    refine r_ior (pc := 50) C dX4_apply_50 ?_
    exact r_ireturn (pc := 51) C dX4_apply_51 (⟨by rw [applyP, if_pos s1_1]; first | done | exact bI_d (by assumption) | exact bI_dn (by assumption) | exact bI_dn (fun h => h (by assumption)), rfl⟩)
  by_cases s1_2 : op = nI 2
  · refine r_eqi s1_2 ?_
    refine r_tableIn (pc := 1) 52 C dX4_apply_1 (by decide) (by decide) (off := 51) rfl (by decide) ?_
    refine r_iload1 (pc := 52) C dX4_apply_52 ?_
    refine r_iload2 (pc := 53) C dX4_apply_53 ?_
    refine r_iand (pc := 54) C dX4_apply_54 ?_
    exact r_ireturn (pc := 55) C dX4_apply_55 (⟨by rw [applyP, if_neg s1_1, if_pos s1_2]; first | done | exact bI_d (by assumption) | exact bI_dn (by assumption) | exact bI_dn (fun h => h (by assumption)), rfl⟩)
  by_cases s1_3 : op = nI 3
  · refine r_eqi s1_3 ?_
    refine r_tableIn (pc := 1) 56 C dX4_apply_1 (by decide) (by decide) (off := 55) rfl (by decide) ?_
    refine r_iload1 (pc := 56) C dX4_apply_56 ?_
    refine r_iload2 (pc := 57) C dX4_apply_57 ?_
    refine r_icmp_ne (pc := 58) 65 C dX4_apply_58 (by decide) (fun c58 => ?_) (fun c58 => ?_)
    · refine r_iconst (pc := 65) (v := nI 0) C dX4_apply_65 (by decide) ?_
      exact r_ireturn (pc := 66) C dX4_apply_66 (⟨by rw [applyP, if_neg s1_1, if_neg s1_2, if_pos s1_3]; first | done | exact bI_d (by assumption) | exact bI_dn (by assumption) | exact bI_dn (fun h => h (by assumption)), rfl⟩)
    · refine r_iconst (pc := 61) (v := nI 1) C dX4_apply_61 (by decide) ?_
      refine r_goto (pc := 62) 66 C dX4_apply_62 (by decide) ?_
      exact r_ireturn (pc := 66) C dX4_apply_66 (⟨by rw [applyP, if_neg s1_1, if_neg s1_2, if_pos s1_3]; first | done | exact bI_d (by assumption) | exact bI_dn (by assumption) | exact bI_dn (fun h => h (by assumption)), rfl⟩)
  by_cases s1_4 : op = nI 4
  · refine r_eqi s1_4 ?_
    refine r_tableIn (pc := 1) 67 C dX4_apply_1 (by decide) (by decide) (off := 66) rfl (by decide) ?_
    refine r_iload1 (pc := 67) C dX4_apply_67 ?_
    refine r_iload2 (pc := 68) C dX4_apply_68 ?_
    refine r_icmp_eq (pc := 69) 76 C dX4_apply_69 (by decide) (fun c69 => ?_) (fun c69 => ?_)
    · refine r_iconst (pc := 76) (v := nI 0) C dX4_apply_76 (by decide) ?_
      exact r_ireturn (pc := 77) C dX4_apply_77 (⟨by rw [applyP, if_neg s1_1, if_neg s1_2, if_neg s1_3, if_pos s1_4]; first | done | exact bI_d (by assumption) | exact bI_dn (by assumption) | exact bI_dn (fun h => h (by assumption)), rfl⟩)
    · refine r_iconst (pc := 72) (v := nI 1) C dX4_apply_72 (by decide) ?_
      refine r_goto (pc := 73) 77 C dX4_apply_73 (by decide) ?_
      exact r_ireturn (pc := 77) C dX4_apply_77 (⟨by rw [applyP, if_neg s1_1, if_neg s1_2, if_neg s1_3, if_pos s1_4]; first | done | exact bI_d (by assumption) | exact bI_dn (by assumption) | exact bI_dn (fun h => h (by assumption)), rfl⟩)
  by_cases s1_5 : op = nI 5
  · refine r_eqi s1_5 ?_
    refine r_tableIn (pc := 1) 78 C dX4_apply_1 (by decide) (by decide) (off := 77) rfl (by decide) ?_
    refine r_iload1 (pc := 78) C dX4_apply_78 ?_
    refine r_iload2 (pc := 79) C dX4_apply_79 ?_
    refine r_icmp_ge (pc := 80) 87 C dX4_apply_80 (by decide) (fun c80 => ?_) (fun c80 => ?_)
    · refine r_iconst (pc := 87) (v := nI 0) C dX4_apply_87 (by decide) ?_
      exact r_ireturn (pc := 88) C dX4_apply_88 (⟨by rw [applyP, if_neg s1_1, if_neg s1_2, if_neg s1_3, if_neg s1_4, if_pos s1_5]; first | done | exact bI_d (by assumption) | exact bI_dn (by assumption) | exact bI_dn (fun h => h (by assumption)), rfl⟩)
    · refine r_iconst (pc := 83) (v := nI 1) C dX4_apply_83 (by decide) ?_
      refine r_goto (pc := 84) 88 C dX4_apply_84 (by decide) ?_
      exact r_ireturn (pc := 88) C dX4_apply_88 (⟨by rw [applyP, if_neg s1_1, if_neg s1_2, if_neg s1_3, if_neg s1_4, if_pos s1_5]; first | done | exact bI_d (by assumption) | exact bI_dn (by assumption) | exact bI_dn (fun h => h (by assumption)), rfl⟩)
  by_cases s1_6 : op = nI 6
  · refine r_eqi s1_6 ?_
    refine r_tableIn (pc := 1) 89 C dX4_apply_1 (by decide) (by decide) (off := 88) rfl (by decide) ?_
    refine r_iload1 (pc := 89) C dX4_apply_89 ?_
    refine r_iload2 (pc := 90) C dX4_apply_90 ?_
    refine r_icmp_gt (pc := 91) 98 C dX4_apply_91 (by decide) (fun c91 => ?_) (fun c91 => ?_)
    · refine r_iconst (pc := 98) (v := nI 0) C dX4_apply_98 (by decide) ?_
      exact r_ireturn (pc := 99) C dX4_apply_99 (⟨by rw [applyP, if_neg s1_1, if_neg s1_2, if_neg s1_3, if_neg s1_4, if_neg s1_5, if_pos s1_6]; first | done | exact bI_d (by assumption) | exact bI_dn (by assumption) | exact bI_dn (fun h => h (by assumption)), rfl⟩)
    · refine r_iconst (pc := 94) (v := nI 1) C dX4_apply_94 (by decide) ?_
      refine r_goto (pc := 95) 99 C dX4_apply_95 (by decide) ?_
      exact r_ireturn (pc := 99) C dX4_apply_99 (⟨by rw [applyP, if_neg s1_1, if_neg s1_2, if_neg s1_3, if_neg s1_4, if_neg s1_5, if_pos s1_6]; first | done | exact bI_d (by assumption) | exact bI_dn (by assumption) | exact bI_dn (fun h => h (by assumption)), rfl⟩)
  by_cases s1_7 : op = nI 7
  · refine r_eqi s1_7 ?_
    refine r_tableIn (pc := 1) 100 C dX4_apply_1 (by decide) (by decide) (off := 99) rfl (by decide) ?_
    refine r_iload1 (pc := 100) C dX4_apply_100 ?_
    refine r_iload2 (pc := 101) C dX4_apply_101 ?_
    refine r_iadd (pc := 102) C dX4_apply_102 ?_
    exact r_ireturn (pc := 103) C dX4_apply_103 (⟨by rw [applyP, if_neg s1_1, if_neg s1_2, if_neg s1_3, if_neg s1_4, if_neg s1_5, if_neg s1_6, if_pos s1_7]; first | done | exact bI_d (by assumption) | exact bI_dn (by assumption) | exact bI_dn (fun h => h (by assumption)), rfl⟩)
  by_cases s1_8 : op = nI 8
  · refine r_eqi s1_8 ?_
    refine r_tableIn (pc := 1) 104 C dX4_apply_1 (by decide) (by decide) (off := 103) rfl (by decide) ?_
    refine r_iload1 (pc := 104) C dX4_apply_104 ?_
    refine r_iload2 (pc := 105) C dX4_apply_105 ?_
    refine r_isub (pc := 106) C dX4_apply_106 ?_
    exact r_ireturn (pc := 107) C dX4_apply_107 (⟨by rw [applyP, if_neg s1_1, if_neg s1_2, if_neg s1_3, if_neg s1_4, if_neg s1_5, if_neg s1_6, if_neg s1_7, if_pos s1_8]; first | done | exact bI_d (by assumption) | exact bI_dn (by assumption) | exact bI_dn (fun h => h (by assumption)), rfl⟩)
  refine r_tableOut (pc := 1) 108 C dX4_apply_1 (tsw_o 1 8 (fun v a b => by rcases (show v = 1 ∨ v = 2 ∨ v = 3 ∨ v = 4 ∨ v = 5 ∨ v = 6 ∨ v = 7 ∨ v = 8 by omega) with rfl | rfl | rfl | rfl | rfl | rfl | rfl | rfl <;> assumption) (by decide)) (by decide) ?_
  refine r_iload1 (pc := 108) C dX4_apply_108 ?_
  refine r_iload2 (pc := 109) C dX4_apply_109 ?_
  refine r_imul (pc := 110) C dX4_apply_110 ?_
  exact r_ireturn (pc := 111) C dX4_apply_111 (⟨by rw [applyP, if_neg s1_1, if_neg s1_2, if_neg s1_3, if_neg s1_4, if_neg s1_5, if_neg s1_6, if_neg s1_7, if_neg s1_8]; first | done | exact bI_d (by assumption) | exact bI_dn (by assumption) | exact bI_dn (fun h => h (by assumption)), rfl⟩)
set_option maxHeartbeats 4000000 in
set_option maxRecDepth 100000 in
theorem tX4_clear (Y : gY) (hY : Y.2.2.2 = wC) {G : gS} {j : Nat} (hj : j < 3) : ∀ l : Launch, gM Y l yX4_clear cX4_clear 1 none (0, 0) [.ref (Y.2.1 (40 + j))] G (qv (fun G' => G' = sI (sI G (40 + j) 0 (nI 0)) (40 + j) 1 (nI 0))) := by
  intro l
  refine gM_of hY rfl (Nat.le_of_ble_eq_true rfl) [some (.ref (Y.2.1 (40 + j)))] rfl rfl ?_
  rintro Z rfl C
  refine r_aload0 (pc := 0) C dX4_clear_0 ?_
  refine r_iconst (pc := 1) (v := nI 0) C dX4_clear_1 (by decide) ?_
  refine pX4_31 (pc := 2) C (by omega) dX4_clear_2 ?_
  refine r_aload0 (pc := 5) C dX4_clear_5 ?_
  refine r_iconst (pc := 6) (v := nI 0) C dX4_clear_6 (by decide) ?_
  refine pX4_35 (pc := 7) C (by omega) dX4_clear_7 ?_
  exact r_return (pc := 10) C dX4_clear_10 (rfl)
set_option maxHeartbeats 4000000 in
set_option maxRecDepth 100000 in
theorem tX4_holds (Y : gY) (hY : Y.2.2.2 = wC) {G : gS} {j r s e : Nat} (hj : j < 3) (hr : r < 20) (hs : G.1 (70 + j) r = nI s) (he : G.1 (80 + j) r = nI e) (hse : s ≤ e) (he4 : e ≤ 400) (ho : s < e → opnd (G.1 (90 + j) s) = true) : ∀ l : Launch, gM Y l yX4_holds cX4_holds 7 (some .boolean) (1, 22) [.ref (Y.2.1 (40 + j)), .int (nI r), .ref (Y.2.1 (21))] G (qi (fun x G' => x = bI (hP (G.1 21) (G.1 (90 + j)) s e) ∧ Fr (fun q => q = 100 + j) G G')) := by
  intro l
  refine gM_of hY rfl (Nat.le_of_ble_eq_true rfl) [some (.ref (Y.2.1 (40 + j))), some (.int (nI r)), some (.ref (Y.2.1 (21))), none, none, none, none] rfl rfl ?_
  rintro Z rfl C
  have loop : ∀ (k0 : Nat) (i n : Nat) (f : Nat → Int32) (o5 o6 : Option Value), k0 = e - i → s < e → opnd (G.1 (90 + j) s) = true → i ≤ e → n ≤ 32 → evR (G.1 21) (G.1 (90 + j)) (e - i) i (n, f) = evR (G.1 21) (G.1 (90 + j)) (e - s) s (0, G.1 (100 + j)) → WW Z (qi (fun x G' => x = bI (hP (G.1 21) (G.1 (90 + j)) s e) ∧ Fr (fun q => q = 100 + j) G G')) 27 [some (.ref (ad Z (40 + j))), some (.int (nI r)), some (.ref (ad Z (21))), some (.int (nI n)), some (.int (nI i)), o5, o6] [] (sW G (100 + j) f) := by
    intro k0
    induction k0 using Nat.strongRecOn with
    | _ k0 ih =>
      intro i n f o5 o6 hk0 hlt ho hie hn hev
      refine r_iload4 (pc := 27) C dX4_holds_27 ?_
      refine r_aload0 (pc := 29) C dX4_holds_29 ?_
      refine gX4_22 (pc := 30) C (by omega) dX4_holds_30 ?_
      refine r_iload1 (pc := 33) C dX4_holds_33 ?_
      refine r_iald (pc := 34) (_) C dX4_holds_34 (aC80r (by omega)) (rfl) (by omega) ?_
      refine r_eqi ((by rw [sW_o _ _ _ (by omega)] : (sW G (100 + j) f).1 (80 + j) r = G.1 (80 + j) r).trans he) ?_
      refine r_icmp_ge (pc := 35) 143 C dX4_holds_35 (by decide) (fun c35 => ?_) (fun c35 => ?_)
      · obtain rfl : i = e := by have := (nI_leI (by omega) (by omega)).mp c35; omega
        refine r_aload0 (pc := 143) C dX4_holds_143 ?_
        refine gX4_28 (pc := 144) C (by omega) dX4_holds_144 ?_
        refine r_iconst (pc := 147) (v := nI 0) C dX4_holds_147 (by decide) ?_
        refine r_iald (pc := 148) (_) C dX4_holds_148 (aC100r (by omega)) (rfl) (by omega) ?_
        refine r_eqi (y := f 0) (by rw [sW_s]) ?_
        refine r_if_eq (pc := 149) 156 C dX4_holds_149 (by decide) (fun c149 => ?_) (fun c149 => ?_)
        · refine r_iconst (pc := 156) (v := nI 0) C dX4_holds_156 (by decide) ?_
          exact r_zreturn (pc := 157) C dX4_holds_157 (rfl) (by
        refine ⟨?_, Fr.refl.sW rfl⟩
        have hE : (n, f) = evR (G.1 21) (G.1 (90 + j)) (i - s) s (0, G.1 (100 + j)) := by rw [← hev, Nat.sub_self]; rfl
        rw [hP_any hlt (ho hlt) (G.1 (100 + j)), ← hE]
        first
          | (have c : f 0 = 0 := c149
             simp [c, bI])
          | (have c : ¬ f 0 = 0 := c149
             simp [c, bI]))
        · refine r_iconst (pc := 152) (v := nI 1) C dX4_holds_152 (by decide) ?_
          refine r_goto (pc := 153) 157 C dX4_holds_153 (by decide) ?_
          exact r_zreturn (pc := 157) C dX4_holds_157 (rfl) (by
        refine ⟨?_, Fr.refl.sW rfl⟩
        have hE : (n, f) = evR (G.1 21) (G.1 (90 + j)) (i - s) s (0, G.1 (100 + j)) := by rw [← hev, Nat.sub_self]; rfl
        rw [hP_any hlt (ho hlt) (G.1 (100 + j)), ← hE]
        first
          | (have c : f 0 = 0 := c149
             simp [c, bI])
          | (have c : ¬ f 0 = 0 := c149
             simp [c, bI]))
      · have hlt35 : i < e := by
          rcases Nat.lt_or_ge i e with h | h
          · exact h
          · exact absurd (nI_le h (by omega)) c35
        refine r_aload0 (pc := 38) C dX4_holds_38 ?_
        refine gX4_25 (pc := 39) C (by omega) dX4_holds_39 ?_
        refine r_iload4 (pc := 42) C dX4_holds_42 ?_
        refine r_iald (pc := 44) (_) C dX4_holds_44 (aC90r (by omega)) (rfl) (by omega) ?_
        refine r_eqi (by rw [sW_o _ _ _ (by omega)]) ?_
        refine r_istore5 (pc := 45) C dX4_holds_45 rfl ?_
        refine r_iload5 (pc := 47) C dX4_holds_47 ?_
        refine r_iconst (pc := 49) (v := (-1)) C dX4_holds_49 (by decide) ?_
        refine r_ixor (pc := 50) C dX4_holds_50 ?_
        refine r_istore6 (pc := 51) C dX4_holds_51 rfl ?_
        refine r_iload6 (pc := 53) C dX4_holds_53 ?_
        refine r_if_lt (pc := 55) 65 C dX4_holds_55 (by decide) (fun c55 => ?_) (fun c55 => ?_)
        · have hop : opnd (G.1 (90 + j) i) = true := decide_eq_true (Or.inl c55)
          refine r_iload3 (pc := 65) C dX4_holds_65 ?_
          refine r_bipush (pc := 66) (v := nI 32) C dX4_holds_66 (by decide) ?_
          refine r_icmp_ge (pc := 68) 137 C dX4_holds_68 (by decide) (fun c68 => ?_) (fun c68 => ?_)
          · have hn2 : 32 ≤ n := (nI_leI (by omega) (by omega)).mp c68
            refine r_iinc4 (pc := 137) (nI 1) C dX4_holds_137 (by decide) rfl ?_
            rw [nI_add]
            refine r_goto (pc := 140) 27 C dX4_holds_140 (by decide) ?_
            have hS : evS (G.1 21) (G.1 (90 + j) i) (n, f) = (n, f) := by rw [evS, if_pos hop, if_neg (by show ¬ n < 32; omega)]
            refine ih (e - (i + 1)) (by omega) (i + 1) _ _ _ _ rfl hlt ho (by omega) ?_ ?_
            · have := evS_le (vars := G.1 21) (x := G.1 (90 + j) i) (S := (n, f)) (show n ≤ 32 by omega)
              rw [hS] at this; exact this
            · rw [← hS, ← hev, show e - i = (e - (i + 1)) + 1 by omega]; rfl
          · have hn2 : n < 32 := by
              rcases Nat.lt_or_ge n 32 with h | h
              · exact h
              · exact absurd (nI_le h (by omega)) c68
            refine r_aload0 (pc := 71) C dX4_holds_71 ?_
            refine gX4_28 (pc := 72) C (by omega) dX4_holds_72 ?_
            refine r_iload3 (pc := 75) C dX4_holds_75 ?_
            refine r_iload6 (pc := 76) C dX4_holds_76 ?_
            refine r_if_ge (pc := 78) 86 C dX4_holds_78 (by decide) (fun c78 => ?_) (fun c78 => ?_)
            · exact absurd c78 (Int32.not_le.mpr c55)
            refine r_iload5 (pc := 81) C dX4_holds_81 ?_
            refine r_eqi (y := valP (G.1 (90 + j) i) (G.1 21)) (by rw [valP, if_pos c55]) ?_
            refine r_goto (pc := 83) 95 C dX4_holds_83 (by decide) ?_
            refine r_iast (pc := 95) (_) C dX4_holds_95 (aC100r (by omega)) (rfl) (by omega) ?_
            refine r_iinc3 (pc := 96) (nI 1) C dX4_holds_96 (by decide) rfl ?_
            rw [nI_add]
            refine r_goto (pc := 99) 137 C dX4_holds_99 (by decide) ?_
            refine r_iinc4 (pc := 137) (nI 1) C dX4_holds_137 (by decide) rfl ?_
            rw [nI_add]
            refine r_goto (pc := 140) 27 C dX4_holds_140 (by decide) ?_
            rw [sI0, sW_s, sW_W]
            have hS : evS (G.1 21) (G.1 (90 + j) i) (n, f) = (n + 1, upd f n (valP (G.1 (90 + j) i) (G.1 21))) := by rw [evS, if_pos hop, if_pos (by show n < 32; omega)]
            refine ih (e - (i + 1)) (by omega) (i + 1) _ _ _ _ rfl hlt ho (by omega) ?_ ?_
            · have := evS_le (vars := G.1 21) (x := G.1 (90 + j) i) (S := (n, f)) (show n ≤ 32 by omega)
              rw [hS] at this; exact this
            · rw [← hS, ← hev, show e - i = (e - (i + 1)) + 1 by omega]; rfl
        · refine r_iload6 (pc := 58) C dX4_holds_58 ?_
          refine r_bipush (pc := 60) (v := nI 16) C dX4_holds_60 (by decide) ?_
          refine r_icmp_lt (pc := 62) 102 C dX4_holds_62 (by decide) (fun c62 => ?_) (fun c62 => ?_)
          · have hop : ¬ opnd (G.1 (90 + j) i) = true := fun h => (of_decide_eq_true h).elim c55 (fun h2 => absurd c62 (Int32.not_lt.mpr h2))
            refine r_iload3 (pc := 102) C dX4_holds_102 ?_
            refine r_iconst (pc := 103) (v := nI 2) C dX4_holds_103 (by decide) ?_
            refine r_icmp_lt (pc := 104) 137 C dX4_holds_104 (by decide) (fun c104 => ?_) (fun c104 => ?_)
            · have hn2 : n < 2 := (nI_ltI (by omega) (by omega)).mp c104
              refine r_iinc4 (pc := 137) (nI 1) C dX4_holds_137 (by decide) rfl ?_
              rw [nI_add]
              refine r_goto (pc := 140) 27 C dX4_holds_140 (by decide) ?_
              have hS : evS (G.1 21) (G.1 (90 + j) i) (n, f) = (n, f) := by rw [evS, if_neg hop, if_neg (by show ¬ 2 ≤ n; omega)]
              refine ih (e - (i + 1)) (by omega) (i + 1) _ _ _ _ rfl hlt ho (by omega) ?_ ?_
              · have := evS_le (vars := G.1 21) (x := G.1 (90 + j) i) (S := (n, f)) (show n ≤ 32 by omega)
                rw [hS] at this; exact this
              · rw [← hS, ← hev, show e - i = (e - (i + 1)) + 1 by omega]; rfl
            · have hn2 : 2 ≤ n := by
                rcases Nat.lt_or_ge n 2 with h | h
                · exact absurd (nI_lt h (by omega)) c104
                · exact h
              refine r_iinc3 (pc := 107) ((-1)) C dX4_holds_107 (by decide) rfl ?_
              rw [show nI n + (-1) = nI (n - 1) from by obtain ⟨q, rfl⟩ : ∃ q, n = q + 1 := ⟨n - 1, by omega⟩; exact pk_m1 q]
              refine r_aload0 (pc := 110) C dX4_holds_110 ?_
              refine gX4_28 (pc := 111) C (by omega) dX4_holds_111 ?_
              refine r_iload3 (pc := 114) C dX4_holds_114 ?_
              refine r_iconst (pc := 115) (v := nI 1) C dX4_holds_115 (by decide) ?_
              refine r_isub (pc := 116) C dX4_holds_116 ?_
              refine r_eqi (pk_sub (a := n - 1) (b := 1) (by omega)) ?_
              refine r_iload6 (pc := 117) C dX4_holds_117 ?_
              refine r_aload0 (pc := 119) C dX4_holds_119 ?_
              refine gX4_28 (pc := 120) C (by omega) dX4_holds_120 ?_
              refine r_iload3 (pc := 123) C dX4_holds_123 ?_
              refine r_iconst (pc := 124) (v := nI 1) C dX4_holds_124 (by decide) ?_
              refine r_isub (pc := 125) C dX4_holds_125 ?_
              refine r_eqi (pk_sub (a := n - 1) (b := 1) (by omega)) ?_
              refine r_iald (pc := 126) (_) C dX4_holds_126 (aC100r (by omega)) (rfl) (by omega) ?_
              refine r_eqi (y := f (n - 2)) (by rw [sW_s]; rfl) ?_
              refine r_aload0 (pc := 127) C dX4_holds_127 ?_
              refine gX4_28 (pc := 128) C (by omega) dX4_holds_128 ?_
              refine r_iload3 (pc := 131) C dX4_holds_131 ?_
              refine r_iald (pc := 132) (_) C dX4_holds_132 (aC100r (by omega)) (rfl) (by omega) ?_
              refine r_eqi (y := f (n - 1)) (by rw [sW_s]) ?_
              refine r_callSi (pc := 133) C rfl dX4_holds_133 kX4_46 (tX4_apply Z.1 C.w) rfl rfl (Nat.le_of_ble_eq_true rfl) (by decide) (fun x133 G133 h133 => ?_)
              obtain ⟨rfl, rfl⟩ := h133
              refine r_iast (pc := 136) (n - 2) C dX4_holds_136 (aC100r (by omega)) (rfl) (by omega) ?_
              refine r_iinc4 (pc := 137) (nI 1) C dX4_holds_137 (by decide) rfl ?_
              rw [nI_add]
              refine r_goto (pc := 140) 27 C dX4_holds_140 (by decide) ?_
              rw [sI0, sW_s, sW_W]
              have hS : evS (G.1 21) (G.1 (90 + j) i) (n, f) = (n - 1, upd f (n - 2) (applyP (G.1 (90 + j) i ^^^ -1) (f (n - 2)) (f (n - 1)))) := by rw [evS, if_neg hop, if_pos (by show 2 ≤ n; omega)]
              refine ih (e - (i + 1)) (by omega) (i + 1) _ _ _ _ rfl hlt ho (by omega) ?_ ?_
              · have := evS_le (vars := G.1 21) (x := G.1 (90 + j) i) (S := (n, f)) (show n ≤ 32 by omega)
                rw [hS] at this; exact this
              · rw [← hS, ← hev, show e - i = (e - (i + 1)) + 1 by omega]; rfl
          · have c62 := Int32.not_lt.mp c62
            have hop : opnd (G.1 (90 + j) i) = true := decide_eq_true (Or.inr c62)
            refine r_iload3 (pc := 65) C dX4_holds_65 ?_
            refine r_bipush (pc := 66) (v := nI 32) C dX4_holds_66 (by decide) ?_
            refine r_icmp_ge (pc := 68) 137 C dX4_holds_68 (by decide) (fun c68 => ?_) (fun c68 => ?_)
            · have hn2 : 32 ≤ n := (nI_leI (by omega) (by omega)).mp c68
              refine r_iinc4 (pc := 137) (nI 1) C dX4_holds_137 (by decide) rfl ?_
              rw [nI_add]
              refine r_goto (pc := 140) 27 C dX4_holds_140 (by decide) ?_
              have hS : evS (G.1 21) (G.1 (90 + j) i) (n, f) = (n, f) := by rw [evS, if_pos hop, if_neg (by show ¬ n < 32; omega)]
              refine ih (e - (i + 1)) (by omega) (i + 1) _ _ _ _ rfl hlt ho (by omega) ?_ ?_
              · have := evS_le (vars := G.1 21) (x := G.1 (90 + j) i) (S := (n, f)) (show n ≤ 32 by omega)
                rw [hS] at this; exact this
              · rw [← hS, ← hev, show e - i = (e - (i + 1)) + 1 by omega]; rfl
            · have hn2 : n < 32 := by
                rcases Nat.lt_or_ge n 32 with h | h
                · exact h
                · exact absurd (nI_le h (by omega)) c68
              refine r_aload0 (pc := 71) C dX4_holds_71 ?_
              refine gX4_28 (pc := 72) C (by omega) dX4_holds_72 ?_
              refine r_iload3 (pc := 75) C dX4_holds_75 ?_
              refine r_iload6 (pc := 76) C dX4_holds_76 ?_
              refine r_if_ge (pc := 78) 86 C dX4_holds_78 (by decide) (fun c78 => ?_) (fun c78 => ?_)
              rotate_left
              · exact absurd c78 (fun h => h (Int32.not_lt.mp c55))
              obtain ⟨q, hq, heq⟩ : ∃ q : Nat, q < 2 ^ 31 ∧ (G.1 (90 + j) i ^^^ -1) = nI q := by
                obtain ⟨q, h1, h2⟩ := nI_of c55
                exact ⟨q, h1, h2⟩
              have hq16 : 16 ≤ q := by rw [heq] at c62; exact (nI_leI (by decide) hq).mp c62
              have hsub : (G.1 (90 + j) i ^^^ -1) - nI 16 = nI (q - 16) := by rw [heq]; exact pk_sub hq16
              refine r_iload6 (pc := 86) C dX4_holds_86 ?_
              refine r_bipush (pc := 88) (v := nI 16) C dX4_holds_88 (by decide) ?_
              refine r_isub (pc := 90) C dX4_holds_90 ?_
              refine r_eqi hsub ?_
              refine r_aload2 (pc := 91) C dX4_holds_91 ?_
              refine r_callSi (pc := 92) C rfl dX4_holds_92 kX4_42 (tX4_valueOf Z.1 C.w (k := q - 16) (by omega)) rfl rfl (Nat.le_of_ble_eq_true rfl) (by decide) (fun x92 G92 h92 => ?_)
              obtain ⟨rfl, rfl⟩ := h92
              refine r_eqi (y := valP (G.1 (90 + j) i) (G.1 21)) (by rw [valP, if_neg c55, hsub, cN_nI (by omega), sW_o _ _ _ (by omega)]) ?_
              refine r_iast (pc := 95) (_) C dX4_holds_95 (aC100r (by omega)) (rfl) (by omega) ?_
              refine r_iinc3 (pc := 96) (nI 1) C dX4_holds_96 (by decide) rfl ?_
              rw [nI_add]
              refine r_goto (pc := 99) 137 C dX4_holds_99 (by decide) ?_
              refine r_iinc4 (pc := 137) (nI 1) C dX4_holds_137 (by decide) rfl ?_
              rw [nI_add]
              refine r_goto (pc := 140) 27 C dX4_holds_140 (by decide) ?_
              rw [sI0, sW_s, sW_W]
              have hS : evS (G.1 21) (G.1 (90 + j) i) (n, f) = (n + 1, upd f n (valP (G.1 (90 + j) i) (G.1 21))) := by rw [evS, if_pos hop, if_pos (by show n < 32; omega)]
              refine ih (e - (i + 1)) (by omega) (i + 1) _ _ _ _ rfl hlt ho (by omega) ?_ ?_
              · have := evS_le (vars := G.1 21) (x := G.1 (90 + j) i) (S := (n, f)) (show n ≤ 32 by omega)
                rw [hS] at this; exact this
              · rw [← hS, ← hev, show e - i = (e - (i + 1)) + 1 by omega]; rfl
  refine r_aload0 (pc := 0) C dX4_holds_0 ?_
  refine gX4_19 (pc := 1) C (by omega) dX4_holds_1 ?_
  refine r_iload1 (pc := 4) C dX4_holds_4 ?_
  refine r_iald (pc := 5) (_) C dX4_holds_5 (aC70r (by omega)) (rfl) (by omega) ?_
  refine r_eqi hs ?_
  refine r_aload0 (pc := 6) C dX4_holds_6 ?_
  refine gX4_22 (pc := 7) C (by omega) dX4_holds_7 ?_
  refine r_iload1 (pc := 10) C dX4_holds_10 ?_
  refine r_iald (pc := 11) (_) C dX4_holds_11 (aC80r (by omega)) (rfl) (by omega) ?_
  refine r_eqi he ?_
  refine r_icmp_ne (pc := 12) 17 C dX4_holds_12 (by decide) (fun c12 => ?_) (fun c12 => ?_)
  · have hlt : s < e := by
      rcases Nat.lt_or_ge s e with h | h
      · exact h
      · exact absurd (congrArg nI (Nat.le_antisymm hse h)) c12
    refine r_iconst (pc := 17) (v := nI 0) C dX4_holds_17 (by decide) ?_
    refine r_istore3 (pc := 18) C dX4_holds_18 rfl ?_
    refine r_aload0 (pc := 19) C dX4_holds_19 ?_
    refine gX4_19 (pc := 20) C (by omega) dX4_holds_20 ?_
    refine r_iload1 (pc := 23) C dX4_holds_23 ?_
    refine r_iald (pc := 24) (_) C dX4_holds_24 (aC70r (by omega)) (rfl) (by omega) ?_
    refine r_eqi hs ?_
    refine r_istore4 (pc := 25) C dX4_holds_25 rfl ?_
    have K := loop _ s 0 (G.1 (100 + j)) none none rfl hlt (ho hlt) (by omega) (by omega) rfl
    rw [sW_id] at K
    exact K
  · obtain rfl : s = e := (nI_eq (by omega) (by omega)).mp c12
    refine r_iconst (pc := 15) (v := nI 1) C dX4_holds_15 (by decide) ?_
    exact r_zreturn (pc := 16) C dX4_holds_16 (rfl) (⟨by rw [hP, decide_eq_true rfl]; rfl, Fr.refl⟩)
set_option maxHeartbeats 4000000 in
set_option maxRecDepth 100000 in
theorem tX4_choose (Y : gY) (hY : Y.2.2.2 = wC) {G : gS} {j n : Nat} {fc : Int32} (hj : j < 3) (hW : RW G j n) : ∀ l : Launch, gM Y l yX4_choose cX4_choose 5 (some .int) (2, 48) [.ref (Y.2.1 (40 + j)), .ref (Y.2.1 (21)), .int (fc)] G (qi (fun x G' => x = chC G j n (G.1 21) fc ∧ Fr (fun q => q = 100 + j) G G')) := by
  intro l
  refine gM_of hY rfl (Nat.le_of_ble_eq_true rfl) [some (.ref (Y.2.1 (40 + j))), some (.ref (Y.2.1 (21))), some (.int (fc)), none, none] rfl rfl ?_
  rintro Z rfl C
  have hn20 := hW.2.1
  have loop : ∀ (k0 : Nat) (r : Nat) (ch : Int32) (Gx : gS), k0 = n - r → r ≤ n → Fr (fun q => q = 100 + j) G Gx → chR fc (aftC G j) (holdC G j (G.1 21)) (G.1 (60 + j)) (n - r) r ch = chC G j n (G.1 21) fc → WW Z (qi (fun x G' => x = chC G j n (G.1 21) fc ∧ Fr (fun q => q = 100 + j) G G')) 5 [some (.ref (ad Z (40 + j))), some (.ref (ad Z (21))), some (.int (fc)), some (.int (ch)), some (.int (nI r))] [] Gx := by
    intro k0
    induction k0 using Nat.strongRecOn with
    | _ k0 ih =>
      intro r ch Gx hk0 hrn0 hF hch
      refine r_iload4 (pc := 5) C dX4_choose_5 ?_
      refine r_aload0 (pc := 7) C dX4_choose_7 ?_
      refine gX4_31 (pc := 8) C (by omega) dX4_choose_8 ?_
      refine r_eqi (y := nI n) (by rw [hF.1 _ (by omega)]; exact hW.1) ?_
      refine r_icmp_ge (pc := 11) 67 C dX4_choose_11 (by decide) (fun c11 => ?_) (fun c11 => ?_)
      · obtain rfl : r = n := by have := (nI_leI (by omega) (by omega)).mp c11; omega
        refine r_iload3 (pc := 67) C dX4_choose_67 ?_
        refine r_iload2 (pc := 68) C dX4_choose_68 ?_
        refine r_icmp_ge (pc := 69) 76 C dX4_choose_69 (by decide) (fun c69 => ?_) (fun c69 => ?_)
        · refine r_bipush (pc := 76) (v := (-2)) C dX4_choose_76 (by decide) ?_
          exact r_ireturn (pc := 78) C dX4_choose_78 (⟨by rw [← hch, Nat.sub_self, chR, if_pos c69], hF⟩)
        · refine r_iload3 (pc := 72) C dX4_choose_72 ?_
          refine r_goto (pc := 73) 78 C dX4_choose_73 (by decide) ?_
          exact r_ireturn (pc := 78) C dX4_choose_78 (⟨by rw [← hch, Nat.sub_self, chR, if_neg c69], hF⟩)
      · have hrn : r < n := by
          rcases Nat.lt_or_ge r n with h | h
          · exact h
          · exact absurd (nI_le h (by omega)) c11
        obtain ⟨w1, w2, w3, w4, w5⟩ := hW.2.2 r hrn
        refine r_aload0 (pc := 14) C dX4_choose_14 ?_
        refine gX4_9 (pc := 15) C (by omega) dX4_choose_15 ?_
        refine r_iload4 (pc := 18) C dX4_choose_18 ?_
        refine r_zald (pc := 20) (_) C dX4_choose_20 (aC50r (by omega)) (rfl) (by omega) ?_
        refine r_eqi (by rw [hF.1 _ (by omega)]) ?_
        refine r_if_ne (pc := 21) 61 C dX4_choose_21 (by decide) (fun c21 => ?_) (fun c21 => ?_)
        · have ha : aftC G j r = true := by simp [aftC, c21]
          refine r_iinc4 (pc := 61) (nI 1) C dX4_choose_61 (by decide) rfl ?_
          rw [nI_add]
          refine r_goto (pc := 64) 5 C dX4_choose_64 (by decide) ?_
          refine ih (n - (r + 1)) (by omega) (r + 1) ch _ rfl (by omega) hF ?_
          rw [← hch, show n - r = (n - (r + 1)) + 1 by omega, chR, if_neg (by rw [ha]; simp)]
        · have ha : aftC G j r = false := by simp [aftC, c21]
          refine r_aload0 (pc := 24) C dX4_choose_24 ?_
          refine r_iload4 (pc := 25) C dX4_choose_25 ?_
          refine r_aload1 (pc := 27) C dX4_choose_27 ?_
          refine r_callVi (pc := 28) C rfl dX4_choose_28 kX4_38 gF4 (jCr (by omega)) (tX4_holds Z.1 C.w (s := cN (G.1 (70 + j) r)) (e := cN (G.1 (80 + j) r)) hj (by omega) (by rw [hF.1 _ (by omega)]; exact w1) (by rw [hF.1 _ (by omega)]; exact w2) w3 w4 (by rw [hF.1 _ (by omega)]; exact w5)) rfl rfl (Nat.le_of_ble_eq_true rfl) (by decide) (fun x28 G28 h28 => ?_)
          obtain ⟨rfl, hF2⟩ := h28
          have hFn := hF.trans hF2
          refine r_eqi (y := bI (holdC G j (G.1 21) r)) (by rw [hF.1 _ (by omega), hF.1 _ (by omega)]; rfl) ?_
          refine r_if_eq (pc := 31) 61 C dX4_choose_31 (by decide) (fun c31 => ?_) (fun c31 => ?_)
          · refine r_iinc4 (pc := 61) (nI 1) C dX4_choose_61 (by decide) rfl ?_
            rw [nI_add]
            refine r_goto (pc := 64) 5 C dX4_choose_64 (by decide) ?_
            refine ih (n - (r + 1)) (by omega) (r + 1) ch _ rfl (by omega) hFn ?_
            rw [← hch, show n - r = (n - (r + 1)) + 1 by omega, chR, if_neg (by rw [bI_z.mp c31]; simp)]
          · refine r_iload3 (pc := 34) C dX4_choose_34 ?_
            refine r_iconst (pc := 35) (v := (-1)) C dX4_choose_35 (by decide) ?_
            refine r_icmp_eq (pc := 36) 53 C dX4_choose_36 (by decide) (fun c36 => ?_) (fun c36 => ?_)
            · refine r_aload0 (pc := 53) C dX4_choose_53 ?_
              refine gX4_15 (pc := 54) C (by omega) dX4_choose_54 ?_
              refine r_iload4 (pc := 57) C dX4_choose_57 ?_
              refine r_iald (pc := 59) (_) C dX4_choose_59 (aC60r (by omega)) (rfl) (by omega) ?_
              refine r_eqi (by rw [hFn.1 _ (by omega)]) ?_
              refine r_istore3 (pc := 60) C dX4_choose_60 rfl ?_
              refine r_iinc4 (pc := 61) (nI 1) C dX4_choose_61 (by decide) rfl ?_
              rw [nI_add]
              refine r_goto (pc := 64) 5 C dX4_choose_64 (by decide) ?_
              refine ih (n - (r + 1)) (by omega) (r + 1) _ _ rfl (by omega) hFn ?_
              rw [← hch, show n - r = (n - (r + 1)) + 1 by omega, chR, if_pos (by rw [bI_n.mp c31, ha]; rfl), if_neg (fun h => h.1 c36)]
            · refine r_iload3 (pc := 39) C dX4_choose_39 ?_
              refine r_aload0 (pc := 40) C dX4_choose_40 ?_
              refine gX4_15 (pc := 41) C (by omega) dX4_choose_41 ?_
              refine r_iload4 (pc := 44) C dX4_choose_44 ?_
              refine r_iald (pc := 46) (_) C dX4_choose_46 (aC60r (by omega)) (rfl) (by omega) ?_
              refine r_eqi (by rw [hFn.1 _ (by omega)]) ?_
              refine r_icmp_eq (pc := 47) 53 C dX4_choose_47 (by decide) (fun c47 => ?_) (fun c47 => ?_)
              · refine r_aload0 (pc := 53) C dX4_choose_53 ?_
                refine gX4_15 (pc := 54) C (by omega) dX4_choose_54 ?_
                refine r_iload4 (pc := 57) C dX4_choose_57 ?_
                refine r_iald (pc := 59) (_) C dX4_choose_59 (aC60r (by omega)) (rfl) (by omega) ?_
                refine r_eqi (by rw [hFn.1 _ (by omega)]) ?_
                refine r_istore3 (pc := 60) C dX4_choose_60 rfl ?_
                refine r_iinc4 (pc := 61) (nI 1) C dX4_choose_61 (by decide) rfl ?_
                rw [nI_add]
                refine r_goto (pc := 64) 5 C dX4_choose_64 (by decide) ?_
                refine ih (n - (r + 1)) (by omega) (r + 1) _ _ rfl (by omega) hFn ?_
                rw [← hch, show n - r = (n - (r + 1)) + 1 by omega, chR, if_pos (by rw [bI_n.mp c31, ha]; rfl), if_neg (fun h => h.2 c47)]
              · refine r_bipush (pc := 50) (v := (-2)) C dX4_choose_50 (by decide) ?_
                exact r_ireturn (pc := 52) C dX4_choose_52 (⟨by rw [← hch, show n - r = (n - (r + 1)) + 1 by omega, chR, if_pos (by rw [bI_n.mp c31, ha]; rfl), if_pos ⟨c36, c47⟩], hFn⟩)
  refine r_iconst (pc := 0) (v := (-1)) C dX4_choose_0 (by decide) ?_
  refine r_istore3 (pc := 1) C dX4_choose_1 rfl ?_
  refine r_iconst (pc := 2) (v := nI 0) C dX4_choose_2 (by decide) ?_
  refine r_istore4 (pc := 3) C dX4_choose_3 rfl ?_
  exact loop _ 0 (-1) G rfl (Nat.zero_le _) Fr.refl rfl
set_option maxHeartbeats 4000000 in
set_option maxRecDepth 100000 in
theorem tX4_kindsAhead (Y : gY) (hY : Y.2.2.2 = wC) {G : gS} {j n : Nat} (hj : j < 3) (hW : RW G j n) : ∀ l : Launch, gM Y l yX4_kindsAhead cX4_kindsAhead 4 (some .int) (2, 48) [.ref (Y.2.1 (40 + j)), .ref (Y.2.1 (21))] G (qi (fun x G' => x = ahC G j n (G.1 21) ∧ Fr (fun q => q = 100 + j) G G')) := by
  intro l
  refine gM_of hY rfl (Nat.le_of_ble_eq_true rfl) [some (.ref (Y.2.1 (40 + j))), some (.ref (Y.2.1 (21))), none, none] rfl rfl ?_
  rintro Z rfl C
  have hn20 := hW.2.1
  have loop : ∀ (k0 : Nat) (r : Nat) (ac : Int32) (Gx : gS), k0 = n - r → r ≤ n → Fr (fun q => q = 100 + j) G Gx → ahR (aftC G j) (holdC G j (G.1 21)) (G.1 (60 + j)) (n - r) r ac = ahC G j n (G.1 21) → WW Z (qi (fun x G' => x = ahC G j n (G.1 21) ∧ Fr (fun q => q = 100 + j) G G')) 4 [some (.ref (ad Z (40 + j))), some (.ref (ad Z (21))), some (.int (ac)), some (.int (nI r))] [] Gx := by
    intro k0
    induction k0 using Nat.strongRecOn with
    | _ k0 ih =>
      intro r ac Gx hk0 hrn0 hF hch
      refine r_iload3 (pc := 4) C dX4_kindsAhead_4 ?_
      refine r_aload0 (pc := 5) C dX4_kindsAhead_5 ?_
      refine gX4_31 (pc := 6) C (by omega) dX4_kindsAhead_6 ?_
      refine r_eqi (y := nI n) (by rw [hF.1 _ (by omega)]; exact hW.1) ?_
      refine r_icmp_ge (pc := 9) 47 C dX4_kindsAhead_9 (by decide) (fun c9 => ?_) (fun c9 => ?_)
      · obtain rfl : r = n := by have := (nI_leI (by omega) (by omega)).mp c9; omega
        refine r_iload2 (pc := 47) C dX4_kindsAhead_47 ?_
        exact r_ireturn (pc := 48) C dX4_kindsAhead_48 (⟨by rw [← hch, Nat.sub_self, ahR], hF⟩)
      · have hrn : r < n := by
          rcases Nat.lt_or_ge r n with h | h
          · exact h
          · exact absurd (nI_le h (by omega)) c9
        obtain ⟨w1, w2, w3, w4, w5⟩ := hW.2.2 r hrn
        refine r_aload0 (pc := 12) C dX4_kindsAhead_12 ?_
        refine gX4_9 (pc := 13) C (by omega) dX4_kindsAhead_13 ?_
        refine r_iload3 (pc := 16) C dX4_kindsAhead_16 ?_
        refine r_zald (pc := 17) (_) C dX4_kindsAhead_17 (aC50r (by omega)) (rfl) (by omega) ?_
        refine r_eqi (by rw [hF.1 _ (by omega)]) ?_
        refine r_if_eq (pc := 18) 41 C dX4_kindsAhead_18 (by decide) (fun c18 => ?_) (fun c18 => ?_)
        · have ha : aftC G j r = false := by simp [aftC, c18]
          refine r_iinc3 (pc := 41) (nI 1) C dX4_kindsAhead_41 (by decide) rfl ?_
          rw [nI_add]
          refine r_goto (pc := 44) 4 C dX4_kindsAhead_44 (by decide) ?_
          refine ih (n - (r + 1)) (by omega) (r + 1) ac _ rfl (by omega) hF ?_
          rw [← hch, show n - r = (n - (r + 1)) + 1 by omega, ahR, if_neg (by rw [ha]; simp)]
        · have ha : aftC G j r = true := by simp [aftC, c18]
          refine r_aload0 (pc := 21) C dX4_kindsAhead_21 ?_
          refine r_iload3 (pc := 22) C dX4_kindsAhead_22 ?_
          refine r_aload1 (pc := 23) C dX4_kindsAhead_23 ?_
          refine r_callVi (pc := 24) C rfl dX4_kindsAhead_24 kX4_38 gF4 (jCr (by omega)) (tX4_holds Z.1 C.w (s := cN (G.1 (70 + j) r)) (e := cN (G.1 (80 + j) r)) hj (by omega) (by rw [hF.1 _ (by omega)]; exact w1) (by rw [hF.1 _ (by omega)]; exact w2) w3 w4 (by rw [hF.1 _ (by omega)]; exact w5)) rfl rfl (Nat.le_of_ble_eq_true rfl) (by decide) (fun x24 G24 h24 => ?_)
          obtain ⟨rfl, hF2⟩ := h24
          have hFn := hF.trans hF2
          refine r_eqi (y := bI (holdC G j (G.1 21) r)) (by rw [hF.1 _ (by omega), hF.1 _ (by omega)]; rfl) ?_
          refine r_if_eq (pc := 27) 41 C dX4_kindsAhead_27 (by decide) (fun c27 => ?_) (fun c27 => ?_)
          · refine r_iinc3 (pc := 41) (nI 1) C dX4_kindsAhead_41 (by decide) rfl ?_
            rw [nI_add]
            refine r_goto (pc := 44) 4 C dX4_kindsAhead_44 (by decide) ?_
            refine ih (n - (r + 1)) (by omega) (r + 1) ac _ rfl (by omega) hFn ?_
            rw [← hch, show n - r = (n - (r + 1)) + 1 by omega, ahR, if_neg (by rw [bI_z.mp c27]; simp)]
          · refine r_iload2 (pc := 30) C dX4_kindsAhead_30 ?_
            refine r_iconst (pc := 31) (v := nI 1) C dX4_kindsAhead_31 (by decide) ?_
            refine r_aload0 (pc := 32) C dX4_kindsAhead_32 ?_
            refine gX4_15 (pc := 33) C (by omega) dX4_kindsAhead_33 ?_
            refine r_iload3 (pc := 36) C dX4_kindsAhead_36 ?_
            refine r_iald (pc := 37) (_) C dX4_kindsAhead_37 (aC60r (by omega)) (rfl) (by omega) ?_
            refine r_eqi (by rw [hFn.1 _ (by omega)]) ?_
            refine r_ishl (pc := 38) C dX4_kindsAhead_38 ?_
            refine r_ior (pc := 39) C dX4_kindsAhead_39 ?_
            refine r_istore2 (pc := 40) C dX4_kindsAhead_40 rfl ?_
            refine r_iinc3 (pc := 41) (nI 1) C dX4_kindsAhead_41 (by decide) rfl ?_
            rw [nI_add]
            refine r_goto (pc := 44) 4 C dX4_kindsAhead_44 (by decide) ?_
            refine ih (n - (r + 1)) (by omega) (r + 1) _ _ rfl (by omega) hFn ?_
            rw [← hch, show n - r = (n - (r + 1)) + 1 by omega, ahR, if_pos (by rw [bI_n.mp c27, ha]; rfl)]
  refine r_iconst (pc := 0) (v := nI 0) C dX4_kindsAhead_0 (by decide) ?_
  refine r_istore2 (pc := 1) C dX4_kindsAhead_1 rfl ?_
  refine r_iconst (pc := 2) (v := nI 0) C dX4_kindsAhead_2 (by decide) ?_
  refine r_istore3 (pc := 3) C dX4_kindsAhead_3 rfl ?_
  exact loop _ 0 (nI 0) G rfl (Nat.zero_le _) Fr.refl rfl
