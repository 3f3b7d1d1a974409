/-! the reference: its text, cut into tokens -/
def txtM (G : gS) (n : Nat) (B : Nat → Nat) : Prop := G.1 100 4 = nI n ∧ n ≤ 2000 ∧ (∀ k, k < n → G.1 3 k &&& nI 255 = nI (B k)) ∧ ∀ k, B k < 256
def atB (B : Nat → Nat) (n i : Nat) : Nat := if i < n then B i else 0
theorem atB_lt {B : Nat → Nat} {n i : Nat} (hB : ∀ k, B k < 256) : atB B n i < 256 := by
  unfold atB
  split
  · exact hB i
  · decide
set_option maxHeartbeats 4000000 in
set_option maxRecDepth 100000 in
theorem tX9_at (Y : gY) (hY : Y.2.2.2 = wM) {G : gS} {n i : Nat} {B : Nat → Nat} (hx : txtM G n B) (hi : i < 2 ^ 30) : ∀ l : Launch, gM Y l yX9_at cX9_at 2 (some .int) (0, 0) [.ref (Y.2.1 (100)), .int (nI i)] G (qi (fun r G' => r = nI (atB B n i) ∧ G' = G)) := by
  intro l
  refine gM_of hY rfl (Nat.le_of_ble_eq_true rfl) [some (.ref (Y.2.1 (100))), some (.int (nI i))] rfl rfl ?_
  rintro Z rfl C
  have hn2 := hx.2.1
  refine r_iload1 (pc := 0) C dX9_at_0 ?_
  refine r_aload0 (pc := 1) C dX9_at_1 ?_
  refine gX9_220 (pc := 2) C dX9_at_2 ?_
  refine r_eqi hx.1 ?_
  refine r_icmp_ge (pc := 5) 21 C dX9_at_5 (by decide) (fun c5 => ?_) (fun c5 => ?_)
  · have hin : ¬ i < n := by have := (nI_leI (by omega) (by omega)).mp c5; omega
    refine r_iconst (pc := 21) (v := nI 0) C dX9_at_21 (by decide) ?_
    exact r_ireturn (pc := 22) C dX9_at_22 (⟨by unfold atB; rw [if_neg hin], rfl⟩)
  · have hin : i < n := by
      rcases Nat.lt_or_ge i n with h | h
      · exact h
      · exact absurd (nI_le h (by omega)) c5
    refine r_aload0 (pc := 8) C dX9_at_8 ?_
    refine gX9_17 (pc := 9) C dX9_at_9 ?_
    refine r_iload1 (pc := 12) C dX9_at_12 ?_
    refine r_bald (pc := 13) (_) C dX9_at_13 aM3 (rfl) (by omega) ?_
    refine r_sipush (pc := 14) (v := nI 255) C dX9_at_14 (by decide) ?_
    refine r_iand (pc := 17) C dX9_at_17 ?_
    refine r_eqi (hx.2.2.1 i hin) ?_
    refine r_goto (pc := 18) 22 C dX9_at_18 (by decide) ?_
    exact r_ireturn (pc := 22) C dX9_at_22 (⟨by unfold atB; rw [if_pos hin], rfl⟩)
set_option maxHeartbeats 4000000 in
set_option maxRecDepth 100000 in
theorem tX9_isDigit (Y : gY) (hY : Y.2.2.2 = wM) {G : gS} {c : Nat} (hc : c < 256) : ∀ l : Launch, gM Y l yX9_isDigit cX9_isDigit 1 (some .boolean) (0, 0) [.int (nI c)] G (qi (fun r G' => r = bI (isDi c) ∧ G' = G)) := by
  intro l
  refine gM_of hY rfl (Nat.le_of_ble_eq_true rfl) [some (.int (nI c))] rfl rfl ?_
  rintro Z rfl C
  refine r_iload0 (pc := 0) C dX9_isDigit_0 ?_
  refine r_bipush (pc := 1) (v := nI 48) C dX9_isDigit_1 (by decide) ?_
  refine r_icmp_lt (pc := 3) 16 C dX9_isDigit_3 (by decide) (fun c3 => ?_) (fun c3 => ?_)
  · refine r_iconst (pc := 16) (v := nI 0) C dX9_isDigit_16 (by decide) ?_
    exact r_zreturn (pc := 17) C dX9_isDigit_17 (rfl) (⟨by rw [show isDi c = false from decide_eq_false (by have := (nI_ltI (by omega) (by omega)).mp c3; omega)]; rfl, rfl⟩)
  · refine r_iload0 (pc := 6) C dX9_isDigit_6 ?_
    refine r_bipush (pc := 7) (v := nI 57) C dX9_isDigit_7 (by decide) ?_
    refine r_icmp_gt (pc := 9) 16 C dX9_isDigit_9 (by decide) (fun c9 => ?_) (fun c9 => ?_)
    · refine r_iconst (pc := 16) (v := nI 0) C dX9_isDigit_16 (by decide) ?_
      exact r_zreturn (pc := 17) C dX9_isDigit_17 (rfl) (⟨by rw [show isDi c = false from decide_eq_false (by have := (nI_ltI (by omega) (by omega)).mp c9; omega)]; rfl, rfl⟩)
    · refine r_iconst (pc := 12) (v := nI 1) C dX9_isDigit_12 (by decide) ?_
      refine r_goto (pc := 13) 17 C dX9_isDigit_13 (by decide) ?_
      exact r_zreturn (pc := 17) C dX9_isDigit_17 (rfl) (⟨by rw [show isDi c = true from decide_eq_true ⟨by have := (nI_leI (by omega) (by omega)).mp (Int32.not_lt.mp c3); omega, by have := (nI_leI (by omega) (by omega)).mp (Int32.not_lt.mp c9); omega⟩]; rfl, rfl⟩)
set_option maxHeartbeats 4000000 in
set_option maxRecDepth 100000 in
theorem tX9_isLetter (Y : gY) (hY : Y.2.2.2 = wM) {G : gS} {c : Nat} (hc : c < 256) : ∀ l : Launch, gM Y l yX9_isLetter cX9_isLetter 1 (some .boolean) (0, 0) [.int (nI c)] G (qi (fun r G' => r = bI (isLe c) ∧ G' = G)) := by
  intro l
  refine gM_of hY rfl (Nat.le_of_ble_eq_true rfl) [some (.int (nI c))] rfl rfl ?_
  rintro Z rfl C
  refine r_iload0 (pc := 0) C dX9_isLetter_0 ?_
  refine r_bipush (pc := 1) (v := nI 97) C dX9_isLetter_1 (by decide) ?_
  refine r_icmp_lt (pc := 3) 16 C dX9_isLetter_3 (by decide) (fun c3 => ?_) (fun c3 => ?_)
  · refine r_iconst (pc := 16) (v := nI 0) C dX9_isLetter_16 (by decide) ?_
    exact r_zreturn (pc := 17) C dX9_isLetter_17 (rfl) (⟨by rw [show isLe c = false from decide_eq_false (by have := (nI_ltI (by omega) (by omega)).mp c3; omega)]; rfl, rfl⟩)
  · refine r_iload0 (pc := 6) C dX9_isLetter_6 ?_
    refine r_bipush (pc := 7) (v := nI 122) C dX9_isLetter_7 (by decide) ?_
    refine r_icmp_gt (pc := 9) 16 C dX9_isLetter_9 (by decide) (fun c9 => ?_) (fun c9 => ?_)
    · refine r_iconst (pc := 16) (v := nI 0) C dX9_isLetter_16 (by decide) ?_
      exact r_zreturn (pc := 17) C dX9_isLetter_17 (rfl) (⟨by rw [show isLe c = false from decide_eq_false (by have := (nI_ltI (by omega) (by omega)).mp c9; omega)]; rfl, rfl⟩)
    · refine r_iconst (pc := 12) (v := nI 1) C dX9_isLetter_12 (by decide) ?_
      refine r_goto (pc := 13) 17 C dX9_isLetter_13 (by decide) ?_
      exact r_zreturn (pc := 17) C dX9_isLetter_17 (rfl) (⟨by rw [show isLe c = true from decide_eq_true ⟨by have := (nI_leI (by omega) (by omega)).mp (Int32.not_lt.mp c3); omega, by have := (nI_leI (by omega) (by omega)).mp (Int32.not_lt.mp c9); omega⟩]; rfl, rfl⟩)
set_option maxHeartbeats 4000000 in
set_option maxRecDepth 100000 in
theorem tX9_more (Y : gY) (hY : Y.2.2.2 = wM) {G : gS} {x : Int64} {c : Int32} : ∀ l : Launch, gM Y l yX9_more cX9_more 3 (some .long) (0, 0) [.long (x), .int (c)] G (ql (fun r G' => r = (if c = 0 then x else 27 * x + (c - nI 97 + nI 1).toInt64) ∧ G' = G)) := by
  intro l
  refine gM_of hY rfl (Nat.le_of_ble_eq_true rfl) [some (.long (x)), none, some (.int (c))] rfl rfl ?_
  rintro Z rfl C
  refine r_iload2 (pc := 0) C dX9_more_0 ?_
  refine r_if_ne (pc := 1) 8 C dX9_more_1 (by decide) (fun c1 => ?_) (fun c1 => ?_)
  · refine r_ldc2 (pc := 8) C dX9_more_8 ctX9_223 ?_
    refine r_lload0 (pc := 11) C dX9_more_11 ?_
    refine r_lmul (pc := 12) C dX9_more_12 ?_
    refine r_iload2 (pc := 13) C dX9_more_13 ?_
    refine r_bipush (pc := 14) (v := nI 97) C dX9_more_14 (by decide) ?_
    refine r_isub (pc := 16) C dX9_more_16 ?_
    refine r_iconst (pc := 17) (v := nI 1) C dX9_more_17 (by decide) ?_
    refine r_iadd (pc := 18) C dX9_more_18 ?_
    refine r_i2l (pc := 19) C dX9_more_19 ?_
    refine r_ladd (pc := 20) C dX9_more_20 ?_
    exact r_lreturn (pc := 21) C dX9_more_21 (⟨by rw [if_neg c1], rfl⟩)
  · refine r_lload0 (pc := 4) C dX9_more_4 ?_
    refine r_goto (pc := 5) 21 C dX9_more_5 (by decide) ?_
    exact r_lreturn (pc := 21) C dX9_more_21 (⟨by rw [if_pos c1], rfl⟩)
def tokW (G : gS) (k : Nat) (kd wh vl : Int32) (nm : Int64) : gS := sI (sL (sI (sI (sI G 5 k kd) 6 k wh) 7 k vl) 8 k nm) 100 10 (nI (k + 1))
set_option maxHeartbeats 4000000 in
set_option maxRecDepth 100000 in
theorem tX9_token (Y : gY) (hY : Y.2.2.2 = wM) {G : gS} {k : Nat} {a b c : Int32} {d : Int64} (hk : G.1 100 10 = nI k) (hk4 : k < 403) : ∀ l : Launch, gM Y l yX9_token cX9_token 6 none (0, 0) [.ref (Y.2.1 (100)), .int (a), .int (b), .int (c), .long (d)] G (qv (fun G' => G' = tokW G k a b c d)) := by
  intro l
  refine gM_of hY rfl (Nat.le_of_ble_eq_true rfl) [some (.ref (Y.2.1 (100))), some (.int (a)), some (.int (b)), some (.int (c)), some (.long (d)), none] rfl rfl ?_
  rintro Z rfl C
  refine r_aload0 (pc := 0) C dX9_token_0 ?_
  refine gX9_20 (pc := 1) C dX9_token_1 ?_
  refine r_aload0 (pc := 4) C dX9_token_4 ?_
  refine gX9_229 (pc := 5) C dX9_token_5 ?_
  refine r_eqi (y := nI k) (by first | exact hk | (rw [sI_o (by decide)]; exact hk) | (rw [sI_o (by decide), sI_o (by decide)]; exact hk) | (rw [sI_o (by decide), sI_o (by decide), sI_o (by decide)]; exact hk) | (show (sI (sI (sI G 5 k a) 6 k b) 7 k c).1 100 10 = nI k; rw [sI_o (by decide), sI_o (by decide), sI_o (by decide)]; exact hk)) ?_
  refine r_iload1 (pc := 8) C dX9_token_8 ?_
  refine r_iast (pc := 9) (_) C dX9_token_9 aM5 (rfl) (by omega) ?_
  refine r_aload0 (pc := 10) C dX9_token_10 ?_
  refine gX9_24 (pc := 11) C dX9_token_11 ?_
  refine r_aload0 (pc := 14) C dX9_token_14 ?_
  refine gX9_229 (pc := 15) C dX9_token_15 ?_
  refine r_eqi (y := nI k) (by first | exact hk | (rw [sI_o (by decide)]; exact hk) | (rw [sI_o (by decide), sI_o (by decide)]; exact hk) | (rw [sI_o (by decide), sI_o (by decide), sI_o (by decide)]; exact hk) | (show (sI (sI (sI G 5 k a) 6 k b) 7 k c).1 100 10 = nI k; rw [sI_o (by decide), sI_o (by decide), sI_o (by decide)]; exact hk)) ?_
  refine r_iload2 (pc := 18) C dX9_token_18 ?_
  refine r_iast (pc := 19) (_) C dX9_token_19 aM6 (rfl) (by omega) ?_
  refine r_aload0 (pc := 20) C dX9_token_20 ?_
  refine gX9_27 (pc := 21) C dX9_token_21 ?_
  refine r_aload0 (pc := 24) C dX9_token_24 ?_
  refine gX9_229 (pc := 25) C dX9_token_25 ?_
  refine r_eqi (y := nI k) (by first | exact hk | (rw [sI_o (by decide)]; exact hk) | (rw [sI_o (by decide), sI_o (by decide)]; exact hk) | (rw [sI_o (by decide), sI_o (by decide), sI_o (by decide)]; exact hk) | (show (sI (sI (sI G 5 k a) 6 k b) 7 k c).1 100 10 = nI k; rw [sI_o (by decide), sI_o (by decide), sI_o (by decide)]; exact hk)) ?_
  refine r_iload3 (pc := 28) C dX9_token_28 ?_
  refine r_iast (pc := 29) (_) C dX9_token_29 aM7 (rfl) (by omega) ?_
  refine r_aload0 (pc := 30) C dX9_token_30 ?_
  refine gX9_30 (pc := 31) C dX9_token_31 ?_
  refine r_aload0 (pc := 34) C dX9_token_34 ?_
  refine gX9_229 (pc := 35) C dX9_token_35 ?_
  refine r_eqi (y := nI k) (by first | exact hk | (rw [sI_o (by decide)]; exact hk) | (rw [sI_o (by decide), sI_o (by decide)]; exact hk) | (rw [sI_o (by decide), sI_o (by decide), sI_o (by decide)]; exact hk) | (show (sI (sI (sI G 5 k a) 6 k b) 7 k c).1 100 10 = nI k; rw [sI_o (by decide), sI_o (by decide), sI_o (by decide)]; exact hk)) ?_
  refine r_lload4 (pc := 38) C dX9_token_38 ?_
  refine r_last (pc := 40) (_) C dX9_token_40 aM8 (rfl) (by omega) ?_
  refine r_aload0 (pc := 41) C dX9_token_41 ?_
  refine r_dup (pc := 42) C dX9_token_42 rfl ?_
  refine gX9_229 (pc := 43) C dX9_token_43 ?_
  refine r_eqi (y := nI k) (by first | exact hk | (rw [sI_o (by decide)]; exact hk) | (rw [sI_o (by decide), sI_o (by decide)]; exact hk) | (rw [sI_o (by decide), sI_o (by decide), sI_o (by decide)]; exact hk) | (show (sI (sI (sI G 5 k a) 6 k b) 7 k c).1 100 10 = nI k; rw [sI_o (by decide), sI_o (by decide), sI_o (by decide)]; exact hk)) ?_
  refine r_iconst (pc := 46) (v := nI 1) C dX9_token_46 (by decide) ?_
  refine r_iadd (pc := 47) C dX9_token_47 ?_
  refine r_eqi (nI_add k 1) ?_
  refine pX9_229 (pc := 48) C dX9_token_48 ?_
  exact r_return (pc := 51) C dX9_token_51 (rfl)
set_option maxHeartbeats 4000000 in
set_option maxRecDepth 100000 in
theorem tX9_sign (Y : gY) (hY : Y.2.2.2 = wM) {G : gS} {i c d k : Nat} (hc : c < 256) (hd : d < 256) (hk : G.1 100 10 = nI k) (hk4 : k < 403) : ∀ l : Launch, gM Y l yX9_sign cX9_sign 6 (some .int) (1, 25) [.ref (Y.2.1 (100)), .int (nI i), .int (nI c), .int (nI d)] G (qi (fun r G' => r = nI (sgM c (decide (d = 61))).2 ∧ G' = tokW G k (nI (sgM c (decide (d = 61))).1) (nI i) (nI 0) 0)) := by
  intro l
  refine gM_of hY rfl (Nat.le_of_ble_eq_true rfl) [some (.ref (Y.2.1 (100))), some (.int (nI i)), some (.int (nI c)), some (.int (nI d)), none, none] rfl rfl ?_
  rintro Z rfl C
  refine r_iload3 (pc := 0) C dX9_sign_0 ?_
  refine r_bipush (pc := 1) (v := nI 61) C dX9_sign_1 (by decide) ?_
  refine r_icmp_eq (pc := 3) 10 C dX9_sign_3 (by decide) (fun c3 => ?_) (fun c3 => ?_)
  · refine r_iload2 (pc := 10) C dX9_sign_10 ?_
    refine r_bipush (pc := 11) (v := nI 61) C dX9_sign_11 (by decide) ?_
    refine r_icmp_ne (pc := 13) 21 C dX9_sign_13 (by decide) (fun c13 => ?_) (fun c13 => ?_)
    · refine r_iload2 (pc := 21) C dX9_sign_21 ?_
      refine r_bipush (pc := 22) (v := nI 33) C dX9_sign_22 (by decide) ?_
      refine r_icmp_ne (pc := 24) 32 C dX9_sign_24 (by decide) (fun c24 => ?_) (fun c24 => ?_)
      · refine r_iload2 (pc := 32) C dX9_sign_32 ?_
        refine r_bipush (pc := 33) (v := nI 60) C dX9_sign_33 (by decide) ?_
        refine r_icmp_ne (pc := 35) 43 C dX9_sign_35 (by decide) (fun c35 => ?_) (fun c35 => ?_)
        · refine r_iconst (pc := 43) (v := nI 0) C dX9_sign_43 (by decide) ?_
          refine r_istore4 (pc := 44) C dX9_sign_44 rfl ?_
          refine r_iconst (pc := 46) (v := nI 3) C dX9_sign_46 (by decide) ?_
          refine r_istore5 (pc := 47) C dX9_sign_47 rfl ?_
          refine r_iload4 (pc := 49) C dX9_sign_49 ?_
          refine r_if_le (pc := 51) 61 C dX9_sign_51 (by decide) (fun c51 => ?_) (fun c51 => ?_)
          rotate_left
          · exact absurd c51 (fun h => h (by decide))
          refine r_iload2 (pc := 61) C dX9_sign_61 ?_
          refine r_bipush (pc := 62) (v := nI 59) C dX9_sign_62 (by decide) ?_
          refine r_icmp_ne (pc := 64) 73 C dX9_sign_64 (by decide) (fun c64 => ?_) (fun c64 => ?_)
          · refine r_iload2 (pc := 73) C dX9_sign_73 ?_
            refine r_bipush (pc := 74) (v := nI 40) C dX9_sign_74 (by decide) ?_
            refine r_icmp_ne (pc := 76) 86 C dX9_sign_76 (by decide) (fun c76 => ?_) (fun c76 => ?_)
            · refine r_iload2 (pc := 86) C dX9_sign_86 ?_
              refine r_bipush (pc := 87) (v := nI 41) C dX9_sign_87 (by decide) ?_
              refine r_icmp_ne (pc := 89) 99 C dX9_sign_89 (by decide) (fun c89 => ?_) (fun c89 => ?_)
              · refine r_iload2 (pc := 99) C dX9_sign_99 ?_
                refine r_bipush (pc := 100) (v := nI 43) C dX9_sign_100 (by decide) ?_
                refine r_icmp_ne (pc := 102) 112 C dX9_sign_102 (by decide) (fun c102 => ?_) (fun c102 => ?_)
                · refine r_iload2 (pc := 112) C dX9_sign_112 ?_
                  refine r_bipush (pc := 113) (v := nI 45) C dX9_sign_113 (by decide) ?_
                  refine r_icmp_ne (pc := 115) 125 C dX9_sign_115 (by decide) (fun c115 => ?_) (fun c115 => ?_)
                  · refine r_iload2 (pc := 125) C dX9_sign_125 ?_
                    refine r_bipush (pc := 126) (v := nI 42) C dX9_sign_126 (by decide) ?_
                    refine r_icmp_ne (pc := 128) 138 C dX9_sign_128 (by decide) (fun c128 => ?_) (fun c128 => ?_)
                    · refine r_iload2 (pc := 138) C dX9_sign_138 ?_
                      refine r_bipush (pc := 139) (v := nI 60) C dX9_sign_139 (by decide) ?_
                      refine r_icmp_ne (pc := 141) 148 C dX9_sign_141 (by decide) (fun c141 => ?_) (fun c141 => ?_)
                      · refine r_aload0 (pc := 148) C dX9_sign_148 ?_
                        refine r_iload5 (pc := 149) C dX9_sign_149 ?_
                        refine r_iload1 (pc := 151) C dX9_sign_151 ?_
                        refine r_iconst (pc := 152) (v := nI 0) C dX9_sign_152 (by decide) ?_
                        refine r_lconst (pc := 153) (v := 0) C dX9_sign_153 (by decide) ?_
                        refine r_callVv (pc := 154) C rfl dX9_sign_154 kX9_236 gF9 jM (tX9_token Z.1 C.w hk hk4) rfl rfl (Nat.le_of_ble_eq_true rfl) (by decide) (fun G154 h154 => ?_)
                        subst h154
                        have e3 : d = 61 := (nI_eq (by omega) (by decide)).mp c3
                        have e13 : ¬ c = 61 := fun z => c13 (by rw [z])
                        have e24 : ¬ c = 33 := fun z => c24 (by rw [z])
                        have e35 : ¬ c = 60 := fun z => c35 (by rw [z])
                        have e64 : ¬ c = 59 := fun z => c64 (by rw [z])
                        have e76 : ¬ c = 40 := fun z => c76 (by rw [z])
                        have e89 : ¬ c = 41 := fun z => c89 (by rw [z])
                        have e102 : ¬ c = 43 := fun z => c102 (by rw [z])
                        have e115 : ¬ c = 45 := fun z => c115 (by rw [z])
                        have e128 : ¬ c = 42 := fun z => c128 (by rw [z])
                        have e141 : ¬ c = 60 := fun z => c141 (by rw [z])
                        have esg : sgM c (decide (d = 61)) = (3, 1) := by first | (exfalso; omega) | simp [sgM, e3, e13, e24, e35, e64, e76, e89, e102, e115, e128, e141]
                        refine r_iload4 (pc := 157) C dX9_sign_157 ?_
                        refine r_if_le (pc := 159) 166 C dX9_sign_159 (by decide) (fun c159 => ?_) (fun c159 => ?_)
                        rotate_left
                        · exact absurd c159 (fun h => h (by decide))
                        refine r_iconst (pc := 166) (v := nI 1) C dX9_sign_166 (by decide) ?_
                        exact r_ireturn (pc := 167) C dX9_sign_167 (by rw [esg]; exact ⟨rfl, rfl⟩)
                      · refine r_bipush (pc := 144) (v := nI 13) C dX9_sign_144 (by decide) ?_
                        refine r_istore5 (pc := 146) C dX9_sign_146 rfl ?_
                        refine r_aload0 (pc := 148) C dX9_sign_148 ?_
                        refine r_iload5 (pc := 149) C dX9_sign_149 ?_
                        refine r_iload1 (pc := 151) C dX9_sign_151 ?_
                        refine r_iconst (pc := 152) (v := nI 0) C dX9_sign_152 (by decide) ?_
                        refine r_lconst (pc := 153) (v := 0) C dX9_sign_153 (by decide) ?_
                        refine r_callVv (pc := 154) C rfl dX9_sign_154 kX9_236 gF9 jM (tX9_token Z.1 C.w hk hk4) rfl rfl (Nat.le_of_ble_eq_true rfl) (by decide) (fun G154 h154 => ?_)
                        subst h154
                        have e3 : d = 61 := (nI_eq (by omega) (by decide)).mp c3
                        have e13 : ¬ c = 61 := fun z => c13 (by rw [z])
                        have e24 : ¬ c = 33 := fun z => c24 (by rw [z])
                        have e35 : ¬ c = 60 := fun z => c35 (by rw [z])
                        have e64 : ¬ c = 59 := fun z => c64 (by rw [z])
                        have e76 : ¬ c = 40 := fun z => c76 (by rw [z])
                        have e89 : ¬ c = 41 := fun z => c89 (by rw [z])
                        have e102 : ¬ c = 43 := fun z => c102 (by rw [z])
                        have e115 : ¬ c = 45 := fun z => c115 (by rw [z])
                        have e128 : ¬ c = 42 := fun z => c128 (by rw [z])
                        have e141 : c = 60 := (nI_eq (by omega) (by decide)).mp c141
                        have esg : sgM c (decide (d = 61)) = (13, 1) := by first | (exfalso; omega) | simp [sgM, e3, e13, e24, e35, e64, e76, e89, e102, e115, e128, e141]
                        refine r_iload4 (pc := 157) C dX9_sign_157 ?_
                        refine r_if_le (pc := 159) 166 C dX9_sign_159 (by decide) (fun c159 => ?_) (fun c159 => ?_)
                        rotate_left
                        · exact absurd c159 (fun h => h (by decide))
                        refine r_iconst (pc := 166) (v := nI 1) C dX9_sign_166 (by decide) ?_
                        exact r_ireturn (pc := 167) C dX9_sign_167 (by rw [esg]; exact ⟨rfl, rfl⟩)
                    · refine r_bipush (pc := 131) (v := nI 10) C dX9_sign_131 (by decide) ?_
                      refine r_istore5 (pc := 133) C dX9_sign_133 rfl ?_
                      refine r_goto (pc := 135) 148 C dX9_sign_135 (by decide) ?_
                      refine r_aload0 (pc := 148) C dX9_sign_148 ?_
                      refine r_iload5 (pc := 149) C dX9_sign_149 ?_
                      refine r_iload1 (pc := 151) C dX9_sign_151 ?_
                      refine r_iconst (pc := 152) (v := nI 0) C dX9_sign_152 (by decide) ?_
                      refine r_lconst (pc := 153) (v := 0) C dX9_sign_153 (by decide) ?_
                      refine r_callVv (pc := 154) C rfl dX9_sign_154 kX9_236 gF9 jM (tX9_token Z.1 C.w hk hk4) rfl rfl (Nat.le_of_ble_eq_true rfl) (by decide) (fun G154 h154 => ?_)
                      subst h154
                      have e3 : d = 61 := (nI_eq (by omega) (by decide)).mp c3
                      have e13 : ¬ c = 61 := fun z => c13 (by rw [z])
                      have e24 : ¬ c = 33 := fun z => c24 (by rw [z])
                      have e35 : ¬ c = 60 := fun z => c35 (by rw [z])
                      have e64 : ¬ c = 59 := fun z => c64 (by rw [z])
                      have e76 : ¬ c = 40 := fun z => c76 (by rw [z])
                      have e89 : ¬ c = 41 := fun z => c89 (by rw [z])
                      have e102 : ¬ c = 43 := fun z => c102 (by rw [z])
                      have e115 : ¬ c = 45 := fun z => c115 (by rw [z])
                      have e128 : c = 42 := (nI_eq (by omega) (by decide)).mp c128
                      have esg : sgM c (decide (d = 61)) = (10, 1) := by first | (exfalso; omega) | simp [sgM, e3, e13, e24, e35, e64, e76, e89, e102, e115, e128]
                      refine r_iload4 (pc := 157) C dX9_sign_157 ?_
                      refine r_if_le (pc := 159) 166 C dX9_sign_159 (by decide) (fun c159 => ?_) (fun c159 => ?_)
                      rotate_left
                      · exact absurd c159 (fun h => h (by decide))
                      refine r_iconst (pc := 166) (v := nI 1) C dX9_sign_166 (by decide) ?_
                      exact r_ireturn (pc := 167) C dX9_sign_167 (by rw [esg]; exact ⟨rfl, rfl⟩)
                  · refine r_bipush (pc := 118) (v := nI 9) C dX9_sign_118 (by decide) ?_
                    refine r_istore5 (pc := 120) C dX9_sign_120 rfl ?_
                    refine r_goto (pc := 122) 148 C dX9_sign_122 (by decide) ?_
                    refine r_aload0 (pc := 148) C dX9_sign_148 ?_
                    refine r_iload5 (pc := 149) C dX9_sign_149 ?_
                    refine r_iload1 (pc := 151) C dX9_sign_151 ?_
                    refine r_iconst (pc := 152) (v := nI 0) C dX9_sign_152 (by decide) ?_
                    refine r_lconst (pc := 153) (v := 0) C dX9_sign_153 (by decide) ?_
                    refine r_callVv (pc := 154) C rfl dX9_sign_154 kX9_236 gF9 jM (tX9_token Z.1 C.w hk hk4) rfl rfl (Nat.le_of_ble_eq_true rfl) (by decide) (fun G154 h154 => ?_)
                    subst h154
                    have e3 : d = 61 := (nI_eq (by omega) (by decide)).mp c3
                    have e13 : ¬ c = 61 := fun z => c13 (by rw [z])
                    have e24 : ¬ c = 33 := fun z => c24 (by rw [z])
                    have e35 : ¬ c = 60 := fun z => c35 (by rw [z])
                    have e64 : ¬ c = 59 := fun z => c64 (by rw [z])
                    have e76 : ¬ c = 40 := fun z => c76 (by rw [z])
                    have e89 : ¬ c = 41 := fun z => c89 (by rw [z])
                    have e102 : ¬ c = 43 := fun z => c102 (by rw [z])
                    have e115 : c = 45 := (nI_eq (by omega) (by decide)).mp c115
                    have esg : sgM c (decide (d = 61)) = (9, 1) := by first | (exfalso; omega) | simp [sgM, e3, e13, e24, e35, e64, e76, e89, e102, e115]
                    refine r_iload4 (pc := 157) C dX9_sign_157 ?_
                    refine r_if_le (pc := 159) 166 C dX9_sign_159 (by decide) (fun c159 => ?_) (fun c159 => ?_)
                    rotate_left
                    · exact absurd c159 (fun h => h (by decide))
                    refine r_iconst (pc := 166) (v := nI 1) C dX9_sign_166 (by decide) ?_
                    exact r_ireturn (pc := 167) C dX9_sign_167 (by rw [esg]; exact ⟨rfl, rfl⟩)
                · refine r_bipush (pc := 105) (v := nI 8) C dX9_sign_105 (by decide) ?_
                  refine r_istore5 (pc := 107) C dX9_sign_107 rfl ?_
                  refine r_goto (pc := 109) 148 C dX9_sign_109 (by decide) ?_
                  refine r_aload0 (pc := 148) C dX9_sign_148 ?_
                  refine r_iload5 (pc := 149) C dX9_sign_149 ?_
                  refine r_iload1 (pc := 151) C dX9_sign_151 ?_
                  refine r_iconst (pc := 152) (v := nI 0) C dX9_sign_152 (by decide) ?_
                  refine r_lconst (pc := 153) (v := 0) C dX9_sign_153 (by decide) ?_
                  refine r_callVv (pc := 154) C rfl dX9_sign_154 kX9_236 gF9 jM (tX9_token Z.1 C.w hk hk4) rfl rfl (Nat.le_of_ble_eq_true rfl) (by decide) (fun G154 h154 => ?_)
                  subst h154
                  have e3 : d = 61 := (nI_eq (by omega) (by decide)).mp c3
                  have e13 : ¬ c = 61 := fun z => c13 (by rw [z])
                  have e24 : ¬ c = 33 := fun z => c24 (by rw [z])
                  have e35 : ¬ c = 60 := fun z => c35 (by rw [z])
                  have e64 : ¬ c = 59 := fun z => c64 (by rw [z])
                  have e76 : ¬ c = 40 := fun z => c76 (by rw [z])
                  have e89 : ¬ c = 41 := fun z => c89 (by rw [z])
                  have e102 : c = 43 := (nI_eq (by omega) (by decide)).mp c102
                  have esg : sgM c (decide (d = 61)) = (8, 1) := by first | (exfalso; omega) | simp [sgM, e3, e13, e24, e35, e64, e76, e89, e102]
                  refine r_iload4 (pc := 157) C dX9_sign_157 ?_
                  refine r_if_le (pc := 159) 166 C dX9_sign_159 (by decide) (fun c159 => ?_) (fun c159 => ?_)
                  rotate_left
                  · exact absurd c159 (fun h => h (by decide))
                  refine r_iconst (pc := 166) (v := nI 1) C dX9_sign_166 (by decide) ?_
                  exact r_ireturn (pc := 167) C dX9_sign_167 (by rw [esg]; exact ⟨rfl, rfl⟩)
              · refine r_bipush (pc := 92) (v := nI 7) C dX9_sign_92 (by decide) ?_
                refine r_istore5 (pc := 94) C dX9_sign_94 rfl ?_
                refine r_goto (pc := 96) 148 C dX9_sign_96 (by decide) ?_
                refine r_aload0 (pc := 148) C dX9_sign_148 ?_
                refine r_iload5 (pc := 149) C dX9_sign_149 ?_
                refine r_iload1 (pc := 151) C dX9_sign_151 ?_
                refine r_iconst (pc := 152) (v := nI 0) C dX9_sign_152 (by decide) ?_
                refine r_lconst (pc := 153) (v := 0) C dX9_sign_153 (by decide) ?_
                refine r_callVv (pc := 154) C rfl dX9_sign_154 kX9_236 gF9 jM (tX9_token Z.1 C.w hk hk4) rfl rfl (Nat.le_of_ble_eq_true rfl) (by decide) (fun G154 h154 => ?_)
                subst h154
                have e3 : d = 61 := (nI_eq (by omega) (by decide)).mp c3
                have e13 : ¬ c = 61 := fun z => c13 (by rw [z])
                have e24 : ¬ c = 33 := fun z => c24 (by rw [z])
                have e35 : ¬ c = 60 := fun z => c35 (by rw [z])
                have e64 : ¬ c = 59 := fun z => c64 (by rw [z])
                have e76 : ¬ c = 40 := fun z => c76 (by rw [z])
                have e89 : c = 41 := (nI_eq (by omega) (by decide)).mp c89
                have esg : sgM c (decide (d = 61)) = (7, 1) := by first | (exfalso; omega) | simp [sgM, e3, e13, e24, e35, e64, e76, e89]
                refine r_iload4 (pc := 157) C dX9_sign_157 ?_
                refine r_if_le (pc := 159) 166 C dX9_sign_159 (by decide) (fun c159 => ?_) (fun c159 => ?_)
                rotate_left
                · exact absurd c159 (fun h => h (by decide))
                refine r_iconst (pc := 166) (v := nI 1) C dX9_sign_166 (by decide) ?_
                exact r_ireturn (pc := 167) C dX9_sign_167 (by rw [esg]; exact ⟨rfl, rfl⟩)
            · refine r_bipush (pc := 79) (v := nI 6) C dX9_sign_79 (by decide) ?_
              refine r_istore5 (pc := 81) C dX9_sign_81 rfl ?_
              refine r_goto (pc := 83) 148 C dX9_sign_83 (by decide) ?_
              refine r_aload0 (pc := 148) C dX9_sign_148 ?_
              refine r_iload5 (pc := 149) C dX9_sign_149 ?_
              refine r_iload1 (pc := 151) C dX9_sign_151 ?_
              refine r_iconst (pc := 152) (v := nI 0) C dX9_sign_152 (by decide) ?_
              refine r_lconst (pc := 153) (v := 0) C dX9_sign_153 (by decide) ?_
              refine r_callVv (pc := 154) C rfl dX9_sign_154 kX9_236 gF9 jM (tX9_token Z.1 C.w hk hk4) rfl rfl (Nat.le_of_ble_eq_true rfl) (by decide) (fun G154 h154 => ?_)
              subst h154
              have e3 : d = 61 := (nI_eq (by omega) (by decide)).mp c3
              have e13 : ¬ c = 61 := fun z => c13 (by rw [z])
              have e24 : ¬ c = 33 := fun z => c24 (by rw [z])
              have e35 : ¬ c = 60 := fun z => c35 (by rw [z])
              have e64 : ¬ c = 59 := fun z => c64 (by rw [z])
              have e76 : c = 40 := (nI_eq (by omega) (by decide)).mp c76
              have esg : sgM c (decide (d = 61)) = (6, 1) := by first | (exfalso; omega) | simp [sgM, e3, e13, e24, e35, e64, e76]
              refine r_iload4 (pc := 157) C dX9_sign_157 ?_
              refine r_if_le (pc := 159) 166 C dX9_sign_159 (by decide) (fun c159 => ?_) (fun c159 => ?_)
              rotate_left
              · exact absurd c159 (fun h => h (by decide))
              refine r_iconst (pc := 166) (v := nI 1) C dX9_sign_166 (by decide) ?_
              exact r_ireturn (pc := 167) C dX9_sign_167 (by rw [esg]; exact ⟨rfl, rfl⟩)
          · refine r_iconst (pc := 67) (v := nI 4) C dX9_sign_67 (by decide) ?_
            refine r_istore5 (pc := 68) C dX9_sign_68 rfl ?_
            refine r_goto (pc := 70) 148 C dX9_sign_70 (by decide) ?_
            refine r_aload0 (pc := 148) C dX9_sign_148 ?_
            refine r_iload5 (pc := 149) C dX9_sign_149 ?_
            refine r_iload1 (pc := 151) C dX9_sign_151 ?_
            refine r_iconst (pc := 152) (v := nI 0) C dX9_sign_152 (by decide) ?_
            refine r_lconst (pc := 153) (v := 0) C dX9_sign_153 (by decide) ?_
            refine r_callVv (pc := 154) C rfl dX9_sign_154 kX9_236 gF9 jM (tX9_token Z.1 C.w hk hk4) rfl rfl (Nat.le_of_ble_eq_true rfl) (by decide) (fun G154 h154 => ?_)
            subst h154
            have e3 : d = 61 := (nI_eq (by omega) (by decide)).mp c3
            have e13 : ¬ c = 61 := fun z => c13 (by rw [z])
            have e24 : ¬ c = 33 := fun z => c24 (by rw [z])
            have e35 : ¬ c = 60 := fun z => c35 (by rw [z])
            have e64 : c = 59 := (nI_eq (by omega) (by decide)).mp c64
            have esg : sgM c (decide (d = 61)) = (4, 1) := by first | (exfalso; omega) | simp [sgM, e3, e13, e24, e35, e64]
            refine r_iload4 (pc := 157) C dX9_sign_157 ?_
            refine r_if_le (pc := 159) 166 C dX9_sign_159 (by decide) (fun c159 => ?_) (fun c159 => ?_)
            rotate_left
            · exact absurd c159 (fun h => h (by decide))
            refine r_iconst (pc := 166) (v := nI 1) C dX9_sign_166 (by decide) ?_
            exact r_ireturn (pc := 167) C dX9_sign_167 (by rw [esg]; exact ⟨rfl, rfl⟩)
        · refine r_bipush (pc := 38) (v := nI 14) C dX9_sign_38 (by decide) ?_
          refine r_goto (pc := 40) 44 C dX9_sign_40 (by decide) ?_
          refine r_istore4 (pc := 44) C dX9_sign_44 rfl ?_
          refine r_iconst (pc := 46) (v := nI 3) C dX9_sign_46 (by decide) ?_
          refine r_istore5 (pc := 47) C dX9_sign_47 rfl ?_
          refine r_iload4 (pc := 49) C dX9_sign_49 ?_
          refine r_if_le (pc := 51) 61 C dX9_sign_51 (by decide) (fun c51 => ?_) (fun c51 => ?_)
          · exact absurd c51 (by decide)
          refine r_iload4 (pc := 54) C dX9_sign_54 ?_
          refine r_istore5 (pc := 56) C dX9_sign_56 rfl ?_
          refine r_goto (pc := 58) 148 C dX9_sign_58 (by decide) ?_
          refine r_aload0 (pc := 148) C dX9_sign_148 ?_
          refine r_iload5 (pc := 149) C dX9_sign_149 ?_
          refine r_iload1 (pc := 151) C dX9_sign_151 ?_
          refine r_iconst (pc := 152) (v := nI 0) C dX9_sign_152 (by decide) ?_
          refine r_lconst (pc := 153) (v := 0) C dX9_sign_153 (by decide) ?_
          refine r_callVv (pc := 154) C rfl dX9_sign_154 kX9_236 gF9 jM (tX9_token Z.1 C.w hk hk4) rfl rfl (Nat.le_of_ble_eq_true rfl) (by decide) (fun G154 h154 => ?_)
          subst h154
          have e3 : d = 61 := (nI_eq (by omega) (by decide)).mp c3
          have e13 : ¬ c = 61 := fun z => c13 (by rw [z])
          have e24 : ¬ c = 33 := fun z => c24 (by rw [z])
          have e35 : c = 60 := (nI_eq (by omega) (by decide)).mp c35
          have esg : sgM c (decide (d = 61)) = (14, 2) := by first | (exfalso; omega) | simp [sgM, e3, e13, e24, e35]
          refine r_iload4 (pc := 157) C dX9_sign_157 ?_
          refine r_if_le (pc := 159) 166 C dX9_sign_159 (by decide) (fun c159 => ?_) (fun c159 => ?_)
          · exact absurd c159 (by decide)
          refine r_iconst (pc := 162) (v := nI 2) C dX9_sign_162 (by decide) ?_
          refine r_goto (pc := 163) 167 C dX9_sign_163 (by decide) ?_
          exact r_ireturn (pc := 167) C dX9_sign_167 (by rw [esg]; exact ⟨rfl, rfl⟩)
      · refine r_bipush (pc := 27) (v := nI 12) C dX9_sign_27 (by decide) ?_
        refine r_goto (pc := 29) 44 C dX9_sign_29 (by decide) ?_
        refine r_istore4 (pc := 44) C dX9_sign_44 rfl ?_
        refine r_iconst (pc := 46) (v := nI 3) C dX9_sign_46 (by decide) ?_
        refine r_istore5 (pc := 47) C dX9_sign_47 rfl ?_
        refine r_iload4 (pc := 49) C dX9_sign_49 ?_
        refine r_if_le (pc := 51) 61 C dX9_sign_51 (by decide) (fun c51 => ?_) (fun c51 => ?_)
        · exact absurd c51 (by decide)
        refine r_iload4 (pc := 54) C dX9_sign_54 ?_
        refine r_istore5 (pc := 56) C dX9_sign_56 rfl ?_
        refine r_goto (pc := 58) 148 C dX9_sign_58 (by decide) ?_
        refine r_aload0 (pc := 148) C dX9_sign_148 ?_
        refine r_iload5 (pc := 149) C dX9_sign_149 ?_
        refine r_iload1 (pc := 151) C dX9_sign_151 ?_
        refine r_iconst (pc := 152) (v := nI 0) C dX9_sign_152 (by decide) ?_
        refine r_lconst (pc := 153) (v := 0) C dX9_sign_153 (by decide) ?_
        refine r_callVv (pc := 154) C rfl dX9_sign_154 kX9_236 gF9 jM (tX9_token Z.1 C.w hk hk4) rfl rfl (Nat.le_of_ble_eq_true rfl) (by decide) (fun G154 h154 => ?_)
        subst h154
        have e3 : d = 61 := (nI_eq (by omega) (by decide)).mp c3
        have e13 : ¬ c = 61 := fun z => c13 (by rw [z])
        have e24 : c = 33 := (nI_eq (by omega) (by decide)).mp c24
        have esg : sgM c (decide (d = 61)) = (12, 2) := by first | (exfalso; omega) | simp [sgM, e3, e13, e24]
        refine r_iload4 (pc := 157) C dX9_sign_157 ?_
        refine r_if_le (pc := 159) 166 C dX9_sign_159 (by decide) (fun c159 => ?_) (fun c159 => ?_)
        · exact absurd c159 (by decide)
        refine r_iconst (pc := 162) (v := nI 2) C dX9_sign_162 (by decide) ?_
        refine r_goto (pc := 163) 167 C dX9_sign_163 (by decide) ?_
        exact r_ireturn (pc := 167) C dX9_sign_167 (by rw [esg]; exact ⟨rfl, rfl⟩)
    · refine r_bipush (pc := 16) (v := nI 11) C dX9_sign_16 (by decide) ?_
      refine r_goto (pc := 18) 44 C dX9_sign_18 (by decide) ?_
      refine r_istore4 (pc := 44) C dX9_sign_44 rfl ?_
      refine r_iconst (pc := 46) (v := nI 3) C dX9_sign_46 (by decide) ?_
      refine r_istore5 (pc := 47) C dX9_sign_47 rfl ?_
      refine r_iload4 (pc := 49) C dX9_sign_49 ?_
      refine r_if_le (pc := 51) 61 C dX9_sign_51 (by decide) (fun c51 => ?_) (fun c51 => ?_)
      · exact absurd c51 (by decide)
      refine r_iload4 (pc := 54) C dX9_sign_54 ?_
      refine r_istore5 (pc := 56) C dX9_sign_56 rfl ?_
      refine r_goto (pc := 58) 148 C dX9_sign_58 (by decide) ?_
      refine r_aload0 (pc := 148) C dX9_sign_148 ?_
      refine r_iload5 (pc := 149) C dX9_sign_149 ?_
      refine r_iload1 (pc := 151) C dX9_sign_151 ?_
      refine r_iconst (pc := 152) (v := nI 0) C dX9_sign_152 (by decide) ?_
      refine r_lconst (pc := 153) (v := 0) C dX9_sign_153 (by decide) ?_
      refine r_callVv (pc := 154) C rfl dX9_sign_154 kX9_236 gF9 jM (tX9_token Z.1 C.w hk hk4) rfl rfl (Nat.le_of_ble_eq_true rfl) (by decide) (fun G154 h154 => ?_)
      subst h154
      have e3 : d = 61 := (nI_eq (by omega) (by decide)).mp c3
      have e13 : c = 61 := (nI_eq (by omega) (by decide)).mp c13
      have esg : sgM c (decide (d = 61)) = (11, 2) := by first | (exfalso; omega) | simp [sgM, e3, e13]
      refine r_iload4 (pc := 157) C dX9_sign_157 ?_
      refine r_if_le (pc := 159) 166 C dX9_sign_159 (by decide) (fun c159 => ?_) (fun c159 => ?_)
      · exact absurd c159 (by decide)
      refine r_iconst (pc := 162) (v := nI 2) C dX9_sign_162 (by decide) ?_
      refine r_goto (pc := 163) 167 C dX9_sign_163 (by decide) ?_
      exact r_ireturn (pc := 167) C dX9_sign_167 (by rw [esg]; exact ⟨rfl, rfl⟩)
  · refine r_iconst (pc := 6) (v := nI 0) C dX9_sign_6 (by decide) ?_
    refine r_goto (pc := 7) 44 C dX9_sign_7 (by decide) ?_
    refine r_istore4 (pc := 44) C dX9_sign_44 rfl ?_
    refine r_iconst (pc := 46) (v := nI 3) C dX9_sign_46 (by decide) ?_
    refine r_istore5 (pc := 47) C dX9_sign_47 rfl ?_
    refine r_iload4 (pc := 49) C dX9_sign_49 ?_
    refine r_if_le (pc := 51) 61 C dX9_sign_51 (by decide) (fun c51 => ?_) (fun c51 => ?_)
    rotate_left
    · exact absurd c51 (fun h => h (by decide))
    refine r_iload2 (pc := 61) C dX9_sign_61 ?_
    refine r_bipush (pc := 62) (v := nI 59) C dX9_sign_62 (by decide) ?_
    refine r_icmp_ne (pc := 64) 73 C dX9_sign_64 (by decide) (fun c64 => ?_) (fun c64 => ?_)
    · refine r_iload2 (pc := 73) C dX9_sign_73 ?_
      refine r_bipush (pc := 74) (v := nI 40) C dX9_sign_74 (by decide) ?_
      refine r_icmp_ne (pc := 76) 86 C dX9_sign_76 (by decide) (fun c76 => ?_) (fun c76 => ?_)
      · refine r_iload2 (pc := 86) C dX9_sign_86 ?_
        refine r_bipush (pc := 87) (v := nI 41) C dX9_sign_87 (by decide) ?_
        refine r_icmp_ne (pc := 89) 99 C dX9_sign_89 (by decide) (fun c89 => ?_) (fun c89 => ?_)
        · refine r_iload2 (pc := 99) C dX9_sign_99 ?_
          refine r_bipush (pc := 100) (v := nI 43) C dX9_sign_100 (by decide) ?_
          refine r_icmp_ne (pc := 102) 112 C dX9_sign_102 (by decide) (fun c102 => ?_) (fun c102 => ?_)
          · refine r_iload2 (pc := 112) C dX9_sign_112 ?_
            refine r_bipush (pc := 113) (v := nI 45) C dX9_sign_113 (by decide) ?_
            refine r_icmp_ne (pc := 115) 125 C dX9_sign_115 (by decide) (fun c115 => ?_) (fun c115 => ?_)
            · refine r_iload2 (pc := 125) C dX9_sign_125 ?_
              refine r_bipush (pc := 126) (v := nI 42) C dX9_sign_126 (by decide) ?_
              refine r_icmp_ne (pc := 128) 138 C dX9_sign_128 (by decide) (fun c128 => ?_) (fun c128 => ?_)
              · refine r_iload2 (pc := 138) C dX9_sign_138 ?_
                refine r_bipush (pc := 139) (v := nI 60) C dX9_sign_139 (by decide) ?_
                refine r_icmp_ne (pc := 141) 148 C dX9_sign_141 (by decide) (fun c141 => ?_) (fun c141 => ?_)
                · refine r_aload0 (pc := 148) C dX9_sign_148 ?_
                  refine r_iload5 (pc := 149) C dX9_sign_149 ?_
                  refine r_iload1 (pc := 151) C dX9_sign_151 ?_
                  refine r_iconst (pc := 152) (v := nI 0) C dX9_sign_152 (by decide) ?_
                  refine r_lconst (pc := 153) (v := 0) C dX9_sign_153 (by decide) ?_
                  refine r_callVv (pc := 154) C rfl dX9_sign_154 kX9_236 gF9 jM (tX9_token Z.1 C.w hk hk4) rfl rfl (Nat.le_of_ble_eq_true rfl) (by decide) (fun G154 h154 => ?_)
                  subst h154
                  have e3 : ¬ d = 61 := fun z => c3 (by rw [z])
                  have e64 : ¬ c = 59 := fun z => c64 (by rw [z])
                  have e76 : ¬ c = 40 := fun z => c76 (by rw [z])
                  have e89 : ¬ c = 41 := fun z => c89 (by rw [z])
                  have e102 : ¬ c = 43 := fun z => c102 (by rw [z])
                  have e115 : ¬ c = 45 := fun z => c115 (by rw [z])
                  have e128 : ¬ c = 42 := fun z => c128 (by rw [z])
                  have e141 : ¬ c = 60 := fun z => c141 (by rw [z])
                  have esg : sgM c (decide (d = 61)) = (3, 1) := by first | (exfalso; omega) | simp [sgM, e3, e64, e76, e89, e102, e115, e128, e141]
                  refine r_iload4 (pc := 157) C dX9_sign_157 ?_
                  refine r_if_le (pc := 159) 166 C dX9_sign_159 (by decide) (fun c159 => ?_) (fun c159 => ?_)
                  rotate_left
                  · exact absurd c159 (fun h => h (by decide))
                  refine r_iconst (pc := 166) (v := nI 1) C dX9_sign_166 (by decide) ?_
                  exact r_ireturn (pc := 167) C dX9_sign_167 (by rw [esg]; exact ⟨rfl, rfl⟩)
                · refine r_bipush (pc := 144) (v := nI 13) C dX9_sign_144 (by decide) ?_
                  refine r_istore5 (pc := 146) C dX9_sign_146 rfl ?_
                  refine r_aload0 (pc := 148) C dX9_sign_148 ?_
                  refine r_iload5 (pc := 149) C dX9_sign_149 ?_
                  refine r_iload1 (pc := 151) C dX9_sign_151 ?_
                  refine r_iconst (pc := 152) (v := nI 0) C dX9_sign_152 (by decide) ?_
                  refine r_lconst (pc := 153) (v := 0) C dX9_sign_153 (by decide) ?_
                  refine r_callVv (pc := 154) C rfl dX9_sign_154 kX9_236 gF9 jM (tX9_token Z.1 C.w hk hk4) rfl rfl (Nat.le_of_ble_eq_true rfl) (by decide) (fun G154 h154 => ?_)
                  subst h154
                  have e3 : ¬ d = 61 := fun z => c3 (by rw [z])
                  have e64 : ¬ c = 59 := fun z => c64 (by rw [z])
                  have e76 : ¬ c = 40 := fun z => c76 (by rw [z])
                  have e89 : ¬ c = 41 := fun z => c89 (by rw [z])
                  have e102 : ¬ c = 43 := fun z => c102 (by rw [z])
                  have e115 : ¬ c = 45 := fun z => c115 (by rw [z])
                  have e128 : ¬ c = 42 := fun z => c128 (by rw [z])
                  have e141 : c = 60 := (nI_eq (by omega) (by decide)).mp c141
                  have esg : sgM c (decide (d = 61)) = (13, 1) := by first | (exfalso; omega) | simp [sgM, e3, e64, e76, e89, e102, e115, e128, e141]
                  refine r_iload4 (pc := 157) C dX9_sign_157 ?_
                  refine r_if_le (pc := 159) 166 C dX9_sign_159 (by decide) (fun c159 => ?_) (fun c159 => ?_)
                  rotate_left
                  · exact absurd c159 (fun h => h (by decide))
                  refine r_iconst (pc := 166) (v := nI 1) C dX9_sign_166 (by decide) ?_
                  exact r_ireturn (pc := 167) C dX9_sign_167 (by rw [esg]; exact ⟨rfl, rfl⟩)
              · refine r_bipush (pc := 131) (v := nI 10) C dX9_sign_131 (by decide) ?_
                refine r_istore5 (pc := 133) C dX9_sign_133 rfl ?_
                refine r_goto (pc := 135) 148 C dX9_sign_135 (by decide) ?_
                refine r_aload0 (pc := 148) C dX9_sign_148 ?_
                refine r_iload5 (pc := 149) C dX9_sign_149 ?_
                refine r_iload1 (pc := 151) C dX9_sign_151 ?_
                refine r_iconst (pc := 152) (v := nI 0) C dX9_sign_152 (by decide) ?_
                refine r_lconst (pc := 153) (v := 0) C dX9_sign_153 (by decide) ?_
                refine r_callVv (pc := 154) C rfl dX9_sign_154 kX9_236 gF9 jM (tX9_token Z.1 C.w hk hk4) rfl rfl (Nat.le_of_ble_eq_true rfl) (by decide) (fun G154 h154 => ?_)
                subst h154
                have e3 : ¬ d = 61 := fun z => c3 (by rw [z])
                have e64 : ¬ c = 59 := fun z => c64 (by rw [z])
                have e76 : ¬ c = 40 := fun z => c76 (by rw [z])
                have e89 : ¬ c = 41 := fun z => c89 (by rw [z])
                have e102 : ¬ c = 43 := fun z => c102 (by rw [z])
                have e115 : ¬ c = 45 := fun z => c115 (by rw [z])
                have e128 : c = 42 := (nI_eq (by omega) (by decide)).mp c128
                have esg : sgM c (decide (d = 61)) = (10, 1) := by first | (exfalso; omega) | simp [sgM, e3, e64, e76, e89, e102, e115, e128]
                refine r_iload4 (pc := 157) C dX9_sign_157 ?_
                refine r_if_le (pc := 159) 166 C dX9_sign_159 (by decide) (fun c159 => ?_) (fun c159 => ?_)
                rotate_left
                · exact absurd c159 (fun h => h (by decide))
                refine r_iconst (pc := 166) (v := nI 1) C dX9_sign_166 (by decide) ?_
                exact r_ireturn (pc := 167) C dX9_sign_167 (by rw [esg]; exact ⟨rfl, rfl⟩)
            · refine r_bipush (pc := 118) (v := nI 9) C dX9_sign_118 (by decide) ?_
              refine r_istore5 (pc := 120) C dX9_sign_120 rfl ?_
              refine r_goto (pc := 122) 148 C dX9_sign_122 (by decide) ?_
              refine r_aload0 (pc := 148) C dX9_sign_148 ?_
              refine r_iload5 (pc := 149) C dX9_sign_149 ?_
              refine r_iload1 (pc := 151) C dX9_sign_151 ?_
              refine r_iconst (pc := 152) (v := nI 0) C dX9_sign_152 (by decide) ?_
              refine r_lconst (pc := 153) (v := 0) C dX9_sign_153 (by decide) ?_
              refine r_callVv (pc := 154) C rfl dX9_sign_154 kX9_236 gF9 jM (tX9_token Z.1 C.w hk hk4) rfl rfl (Nat.le_of_ble_eq_true rfl) (by decide) (fun G154 h154 => ?_)
              subst h154
              have e3 : ¬ d = 61 := fun z => c3 (by rw [z])
              have e64 : ¬ c = 59 := fun z => c64 (by rw [z])
              have e76 : ¬ c = 40 := fun z => c76 (by rw [z])
              have e89 : ¬ c = 41 := fun z => c89 (by rw [z])
              have e102 : ¬ c = 43 := fun z => c102 (by rw [z])
              have e115 : c = 45 := (nI_eq (by omega) (by decide)).mp c115
              have esg : sgM c (decide (d = 61)) = (9, 1) := by first | (exfalso; omega) | simp [sgM, e3, e64, e76, e89, e102, e115]
              refine r_iload4 (pc := 157) C dX9_sign_157 ?_
              refine r_if_le (pc := 159) 166 C dX9_sign_159 (by decide) (fun c159 => ?_) (fun c159 => ?_)
              rotate_left
              · exact absurd c159 (fun h => h (by decide))
              refine r_iconst (pc := 166) (v := nI 1) C dX9_sign_166 (by decide) ?_
              exact r_ireturn (pc := 167) C dX9_sign_167 (by rw [esg]; exact ⟨rfl, rfl⟩)
          · refine r_bipush (pc := 105) (v := nI 8) C dX9_sign_105 (by decide) ?_
            refine r_istore5 (pc := 107) C dX9_sign_107 rfl ?_
            refine r_goto (pc := 109) 148 C dX9_sign_109 (by decide) ?_
            refine r_aload0 (pc := 148) C dX9_sign_148 ?_
            refine r_iload5 (pc := 149) C dX9_sign_149 ?_
            refine r_iload1 (pc := 151) C dX9_sign_151 ?_
            refine r_iconst (pc := 152) (v := nI 0) C dX9_sign_152 (by decide) ?_
            refine r_lconst (pc := 153) (v := 0) C dX9_sign_153 (by decide) ?_
            refine r_callVv (pc := 154) C rfl dX9_sign_154 kX9_236 gF9 jM (tX9_token Z.1 C.w hk hk4) rfl rfl (Nat.le_of_ble_eq_true rfl) (by decide) (fun G154 h154 => ?_)
            subst h154
            have e3 : ¬ d = 61 := fun z => c3 (by rw [z])
            have e64 : ¬ c = 59 := fun z => c64 (by rw [z])
            have e76 : ¬ c = 40 := fun z => c76 (by rw [z])
            have e89 : ¬ c = 41 := fun z => c89 (by rw [z])
            have e102 : c = 43 := (nI_eq (by omega) (by decide)).mp c102
            have esg : sgM c (decide (d = 61)) = (8, 1) := by first | (exfalso; omega) | simp [sgM, e3, e64, e76, e89, e102]
            refine r_iload4 (pc := 157) C dX9_sign_157 ?_
            refine r_if_le (pc := 159) 166 C dX9_sign_159 (by decide) (fun c159 => ?_) (fun c159 => ?_)
            rotate_left
            · exact absurd c159 (fun h => h (by decide))
            refine r_iconst (pc := 166) (v := nI 1) C dX9_sign_166 (by decide) ?_
            exact r_ireturn (pc := 167) C dX9_sign_167 (by rw [esg]; exact ⟨rfl, rfl⟩)
        · refine r_bipush (pc := 92) (v := nI 7) C dX9_sign_92 (by decide) ?_
          refine r_istore5 (pc := 94) C dX9_sign_94 rfl ?_
          refine r_goto (pc := 96) 148 C dX9_sign_96 (by decide) ?_
          refine r_aload0 (pc := 148) C dX9_sign_148 ?_
          refine r_iload5 (pc := 149) C dX9_sign_149 ?_
          refine r_iload1 (pc := 151) C dX9_sign_151 ?_
          refine r_iconst (pc := 152) (v := nI 0) C dX9_sign_152 (by decide) ?_
          refine r_lconst (pc := 153) (v := 0) C dX9_sign_153 (by decide) ?_
          refine r_callVv (pc := 154) C rfl dX9_sign_154 kX9_236 gF9 jM (tX9_token Z.1 C.w hk hk4) rfl rfl (Nat.le_of_ble_eq_true rfl) (by decide) (fun G154 h154 => ?_)
          subst h154
          have e3 : ¬ d = 61 := fun z => c3 (by rw [z])
          have e64 : ¬ c = 59 := fun z => c64 (by rw [z])
          have e76 : ¬ c = 40 := fun z => c76 (by rw [z])
          have e89 : c = 41 := (nI_eq (by omega) (by decide)).mp c89
          have esg : sgM c (decide (d = 61)) = (7, 1) := by first | (exfalso; omega) | simp [sgM, e3, e64, e76, e89]
          refine r_iload4 (pc := 157) C dX9_sign_157 ?_
          refine r_if_le (pc := 159) 166 C dX9_sign_159 (by decide) (fun c159 => ?_) (fun c159 => ?_)
          rotate_left
          · exact absurd c159 (fun h => h (by decide))
          refine r_iconst (pc := 166) (v := nI 1) C dX9_sign_166 (by decide) ?_
          exact r_ireturn (pc := 167) C dX9_sign_167 (by rw [esg]; exact ⟨rfl, rfl⟩)
      · refine r_bipush (pc := 79) (v := nI 6) C dX9_sign_79 (by decide) ?_
        refine r_istore5 (pc := 81) C dX9_sign_81 rfl ?_
        refine r_goto (pc := 83) 148 C dX9_sign_83 (by decide) ?_
        refine r_aload0 (pc := 148) C dX9_sign_148 ?_
        refine r_iload5 (pc := 149) C dX9_sign_149 ?_
        refine r_iload1 (pc := 151) C dX9_sign_151 ?_
        refine r_iconst (pc := 152) (v := nI 0) C dX9_sign_152 (by decide) ?_
        refine r_lconst (pc := 153) (v := 0) C dX9_sign_153 (by decide) ?_
        refine r_callVv (pc := 154) C rfl dX9_sign_154 kX9_236 gF9 jM (tX9_token Z.1 C.w hk hk4) rfl rfl (Nat.le_of_ble_eq_true rfl) (by decide) (fun G154 h154 => ?_)
        subst h154
        have e3 : ¬ d = 61 := fun z => c3 (by rw [z])
        have e64 : ¬ c = 59 := fun z => c64 (by rw [z])
        have e76 : c = 40 := (nI_eq (by omega) (by decide)).mp c76
        have esg : sgM c (decide (d = 61)) = (6, 1) := by first | (exfalso; omega) | simp [sgM, e3, e64, e76]
        refine r_iload4 (pc := 157) C dX9_sign_157 ?_
        refine r_if_le (pc := 159) 166 C dX9_sign_159 (by decide) (fun c159 => ?_) (fun c159 => ?_)
        rotate_left
        · exact absurd c159 (fun h => h (by decide))
        refine r_iconst (pc := 166) (v := nI 1) C dX9_sign_166 (by decide) ?_
        exact r_ireturn (pc := 167) C dX9_sign_167 (by rw [esg]; exact ⟨rfl, rfl⟩)
    · refine r_iconst (pc := 67) (v := nI 4) C dX9_sign_67 (by decide) ?_
      refine r_istore5 (pc := 68) C dX9_sign_68 rfl ?_
      refine r_goto (pc := 70) 148 C dX9_sign_70 (by decide) ?_
      refine r_aload0 (pc := 148) C dX9_sign_148 ?_
      refine r_iload5 (pc := 149) C dX9_sign_149 ?_
      refine r_iload1 (pc := 151) C dX9_sign_151 ?_
      refine r_iconst (pc := 152) (v := nI 0) C dX9_sign_152 (by decide) ?_
      refine r_lconst (pc := 153) (v := 0) C dX9_sign_153 (by decide) ?_
      refine r_callVv (pc := 154) C rfl dX9_sign_154 kX9_236 gF9 jM (tX9_token Z.1 C.w hk hk4) rfl rfl (Nat.le_of_ble_eq_true rfl) (by decide) (fun G154 h154 => ?_)
      subst h154
      have e3 : ¬ d = 61 := fun z => c3 (by rw [z])
      have e64 : c = 59 := (nI_eq (by omega) (by decide)).mp c64
      have esg : sgM c (decide (d = 61)) = (4, 1) := by first | (exfalso; omega) | simp [sgM, e3, e64]
      refine r_iload4 (pc := 157) C dX9_sign_157 ?_
      refine r_if_le (pc := 159) 166 C dX9_sign_159 (by decide) (fun c159 => ?_) (fun c159 => ?_)
      rotate_left
      · exact absurd c159 (fun h => h (by decide))
      refine r_iconst (pc := 166) (v := nI 1) C dX9_sign_166 (by decide) ?_
      exact r_ireturn (pc := 167) C dX9_sign_167 (by rw [esg]; exact ⟨rfl, rfl⟩)
def cS (q : Nat) : Prop := q = 5 ∨ q = 6 ∨ q = 7 ∨ q = 8 ∨ q = 100
/-- k tokens stand in the reference's rows -/
def cutI (G G1 : gS) (B : Nat → Nat) (n k : Nat) : Prop := Fr cS G G1 ∧ (∀ q, q ≠ 10 → G1.1 100 q = G.1 100 q) ∧ G1.1 100 10 = nI k ∧ ∀ j, j < k → tkR (tkT B n j).1 (tkT B n j).2.1 (G1.1 5 j) (G1.1 7 j) ∧ G1.1 6 j = nI (tkT B n j).2.2.1
theorem cutI.tok {G G1 : gS} {B : Nat → Nat} {n k : Nat} {kd wh vl : Int32} {nm : Int64} (h : cutI G G1 B n k) (ht : tkR (tkT B n k).1 (tkT B n k).2.1 kd vl) (hw : wh = nI (tkT B n k).2.2.1) : cutI G (tokW G1 k kd wh vl nm) B n (k + 1) := by
  obtain ⟨h1, h2, h3, h4⟩ := h
  unfold tokW
  refine ⟨((((h1.sI (Or.inl rfl)).sI (Or.inr (Or.inl rfl))).sI (Or.inr (Or.inr (Or.inl rfl)))).sL (Or.inr (Or.inr (Or.inr (Or.inl rfl))))).sI (Or.inr (Or.inr (Or.inr (Or.inr rfl)))), fun q hq => ?_, by rw [sI_s, upd_s], fun j hj => ?_⟩
  · rw [sI_s, upd_o hq]
    show (sI (sI (sI G1 5 k kd) 6 k wh) 7 k vl).1 100 q = _
    rw [sI_o (by decide), sI_o (by decide), sI_o (by decide)]
    exact h2 q hq
  · rw [sI_o (by decide), sI_o (by decide), sI_o (by decide)]
    show tkR _ _ ((sI (sI (sI G1 5 k kd) 6 k wh) 7 k vl).1 5 j) ((sI (sI (sI G1 5 k kd) 6 k wh) 7 k vl).1 7 j) ∧ (sI (sI (sI G1 5 k kd) 6 k wh) 7 k vl).1 6 j = _
    rw [sI_o (r' := 5) (by decide), sI_o (r' := 5) (by decide), sI_s, sI_s, sI_o (r' := 6) (by decide), sI_s, sI_o (r' := 7) (by decide), sI_o (r' := 7) (by decide), sI_o (r' := 6) (by decide)]
    by_cases e : j = k
    · subst e; rw [upd_s, upd_s, upd_s]; exact ⟨ht, hw⟩
    · rw [upd_o e, upd_o e, upd_o e]; exact h4 j (by omega)
def cutP (G G1 : gS) (B : Nat → Nat) (n : Nat) : Prop := Fr cS G G1 ∧ (∀ q, q ≠ 10 → G1.1 100 q = G.1 100 q) ∧ ∀ j, j ≤ 400 → (∀ i, i < j → (tkT B n i).1 ≠ nI 0) → tkR (tkT B n j).1 (tkT B n j).2.1 (G1.1 5 j) (G1.1 7 j) ∧ G1.1 6 j = nI (tkT B n j).2.2.1
theorem txtM.fr {G G1 : gS} {B : Nat → Nat} {n : Nat} (h : txtM G n B) (hf : Fr cS G G1) (h1 : ∀ q, q ≠ 10 → G1.1 100 q = G.1 100 q) : txtM G1 n B := by
  unfold txtM
  rw [h1 4 (by decide), hf.1 3 (by unfold cS; decide)]
  exact h
theorem skB_nx {p : Nat → Bool} {B : Nat → Nat} {n i : Nat} (h : ¬ p (B i) = true) : skB p B n i = i := skB_no (fun z => h z.2)
theorem isBl_t {c : Nat} (h : c = 9 ∨ c = 10 ∨ c = 13 ∨ c = 32) : isBl c = true := by rcases h with rfl | rfl | rfl | rfl <;> rfl
theorem isBl_f {c : Nat} (h9 : ¬ c = 9) (h10 : ¬ c = 10) (h13 : ¬ c = 13) (h32 : ¬ c = 32) : ¬ isBl c = true := by simp [isBl, h9, h10, h13, h32]
theorem tkR0 {v kd vl : Int32} (h : tkR (nI 0) v kd vl) : kd = nI 0 := by
  rcases h with h | h | h | h | h | h | h | h | h | h | h | h | h
  · exact h.2
  · exact absurd h.1 (by decide)
  · obtain ⟨x, -, h, -⟩ := h; exact absurd h (by decide)
  · obtain ⟨x, -, h, -⟩ := h; exact absurd h (by decide)
  · exact absurd h.1 (by decide)
  · exact absurd h.1 (by decide)
  · exact absurd h.1 (by decide)
  · obtain ⟨x, -, -, h, -⟩ := h; exact absurd h (by decide)
  · obtain ⟨x, -, -, h, -⟩ := h; exact absurd h (by decide)
  · obtain ⟨x, -, -, h, -⟩ := h; exact absurd h (by decide)
  · exact absurd h.1 (by decide)
  · exact absurd h.1 (by decide)
  · exact absurd h.1 (by decide)
theorem a27_ltm {B : Nat → Nat} {i : Nat} : ∀ {m : Nat}, (∀ k, i ≤ k → k < i + m → 97 ≤ B k ∧ B k ≤ 122) → a27 B i m < 27 ^ m
  | 0, _ => by show 0 < 1; decide
  | m + 1, h => by
    have := a27_ltm (B := B) (i := i) (m := m) (fun k a b => h k a (by omega))
    have := h (i + m) (by omega) (by omega)
    rw [a27, Nat.pow_succ]
    omega
theorem sgM_n : ∀ c, c < 256 → ∀ eq : Bool, (sgM c eq).1 ≠ 0 ∧ (sgM c eq).1 < 100 := by decide +kernel
theorem sgM_0 {c : Nat} (hc : c < 256) {eq : Bool} : ¬ nI (sgM c eq).1 = nI 0 := fun z => (sgM_n c hc eq).1 ((nI_eq (by have := (sgM_n c hc eq).2; omega) (by decide)).mp z)
set_option maxHeartbeats 4000000 in
set_option maxRecDepth 100000 in
theorem tX9_cut (Y : gY) (hY : Y.2.2.2 = wM) {G : gS} {n : Nat} {B : Nat → Nat} (htx : txtM G n B) (hky : ∀ k, k < 12 → G.2.1 9 k = lN (kyN.getD k 0)) : ∀ l : Launch, gM Y l yX9_cut cX9_cut 8 none (2, 50) [.ref (Y.2.1 (100))] G (qv (fun G' => cutP G G' B n)) := by
  intro l
  refine gM_of hY rfl (Nat.le_of_ble_eq_true rfl) [some (.ref (Y.2.1 (100))), none, none, none, none, none, none, none] rfl rfl ?_
  rintro Z rfl C
  have hn2 := htx.2.1
  have hB := htx.2.2.2
  have loop : ∀ (k0 : Nat) (i k : Nat) (o2 o3 o4 o5 o6 o7 : Option Value) (G1 : gS), k0 = n - i → i ≤ n → k ≤ 401 → skB isBl B n i = skB isBl B n (pP B n k) → (∀ j, j < k → (tkT B n j).1 ≠ nI 0) → cutI G G1 B n k → WW Z (qv (fun G' => cutP G G' B n)) 7 [some (.ref (ad Z (100))), some (.int (nI i)), o2, o3, o4, o5, o6, o7] [] G1 := by
    intro k0
    induction k0 using Nat.strongRecOn with
    | _ k0 ih =>
      intro i k o2 o3 o4 o5 o6 o7 G1 hk0 hi0 hk1 hsk hne hI
      refine r_aload0 (pc := 7) C dX9_cut_7 ?_
      refine gX9_229 (pc := 8) C dX9_cut_8 ?_
      refine r_eqi hI.2.2.1 ?_
      refine r_sipush (pc := 11) (v := nI 400) C dX9_cut_11 (by decide) ?_
      refine r_icmp_gt (pc := 14) 294 C dX9_cut_14 (by decide) (fun c14 => ?_) (fun c14 => ?_)
      · have h401 : 400 < k := (nI_ltI (by omega) (by omega)).mp c14
        exact r_return (pc := 294) C dX9_cut_294 (⟨hI.1, hI.2.1, fun j hj _ => hI.2.2.2 j (by omega)⟩)
      · have h400 : k ≤ 400 := by
          rcases Nat.lt_or_ge 400 k with h | h
          · exact absurd (nI_lt h (by omega)) c14
          · exact h
        refine r_aload0 (pc := 17) C dX9_cut_17 ?_
        refine r_iload1 (pc := 18) C dX9_cut_18 ?_
        refine r_callVi (pc := 19) C rfl dX9_cut_19 kX9_232 gF9 jM (tX9_at Z.1 C.w (htx.fr hI.1 hI.2.1) (by omega)) rfl rfl (Nat.le_of_ble_eq_true rfl) (by decide) (fun x19 G19 h19 => ?_)
        obtain ⟨rfl, h19b⟩ := h19
        have h19b := h19b.symm
        subst h19b
        refine r_istore2 (pc := 22) C dX9_cut_22 rfl ?_
        refine r_iload1 (pc := 23) C dX9_cut_23 ?_
        refine r_aload0 (pc := 24) C dX9_cut_24 ?_
        refine gX9_220 (pc := 25) C dX9_cut_25 ?_
        refine r_eqi (y := nI n) (by rw [hI.2.1 4 (by decide)]; exact htx.1) ?_
        refine r_icmp_lt (pc := 28) 43 C dX9_cut_28 (by decide) (fun c28 => ?_) (fun c28 => ?_)
        · have hin : i < n := (nI_ltI (by omega) (by omega)).mp c28
          rw [show atB B n i = B i from if_pos hin]
          have hBi := hB i
          refine r_iload2 (pc := 43) C dX9_cut_43 ?_
          refine r_bipush (pc := 44) (v := nI 9) C dX9_cut_44 (by decide) ?_
          refine r_icmp_eq (pc := 46) 67 C dX9_cut_46 (by decide) (fun c46 => ?_) (fun c46 => ?_)
          · refine r_iinc1 (pc := 67) (nI 1) C dX9_cut_67 (by decide) rfl ?_
            rw [nI_add i 1]
            refine r_goto (pc := 70) 291 C dX9_cut_70 (by decide) ?_
            refine r_goto (pc := 291) 7 C dX9_cut_291 (by decide) ?_
            have hbl : isBl (B i) = true := isBl_t (Or.inl ((nI_eq (by omega) (by decide)).mp c46))
            exact ih (n - (i + 1)) (by omega) (i + 1) k _ _ _ _ _ _ _ rfl (by omega) (by omega) (by rw [← skB_go hin hbl]; exact hsk) hne hI
          · refine r_iload2 (pc := 49) C dX9_cut_49 ?_
            refine r_bipush (pc := 50) (v := nI 10) C dX9_cut_50 (by decide) ?_
            refine r_icmp_eq (pc := 52) 67 C dX9_cut_52 (by decide) (fun c52 => ?_) (fun c52 => ?_)
            · refine r_iinc1 (pc := 67) (nI 1) C dX9_cut_67 (by decide) rfl ?_
              rw [nI_add i 1]
              refine r_goto (pc := 70) 291 C dX9_cut_70 (by decide) ?_
              refine r_goto (pc := 291) 7 C dX9_cut_291 (by decide) ?_
              have hbl : isBl (B i) = true := isBl_t (Or.inr (Or.inl ((nI_eq (by omega) (by decide)).mp c52)))
              exact ih (n - (i + 1)) (by omega) (i + 1) k _ _ _ _ _ _ _ rfl (by omega) (by omega) (by rw [← skB_go hin hbl]; exact hsk) hne hI
            · refine r_iload2 (pc := 55) C dX9_cut_55 ?_
              refine r_bipush (pc := 56) (v := nI 13) C dX9_cut_56 (by decide) ?_
              refine r_icmp_eq (pc := 58) 67 C dX9_cut_58 (by decide) (fun c58 => ?_) (fun c58 => ?_)
              · refine r_iinc1 (pc := 67) (nI 1) C dX9_cut_67 (by decide) rfl ?_
                rw [nI_add i 1]
                refine r_goto (pc := 70) 291 C dX9_cut_70 (by decide) ?_
                refine r_goto (pc := 291) 7 C dX9_cut_291 (by decide) ?_
                have hbl : isBl (B i) = true := isBl_t (Or.inr (Or.inr (Or.inl ((nI_eq (by omega) (by decide)).mp c58))))
                exact ih (n - (i + 1)) (by omega) (i + 1) k _ _ _ _ _ _ _ rfl (by omega) (by omega) (by rw [← skB_go hin hbl]; exact hsk) hne hI
              · refine r_iload2 (pc := 61) C dX9_cut_61 ?_
                refine r_bipush (pc := 62) (v := nI 32) C dX9_cut_62 (by decide) ?_
                refine r_icmp_ne (pc := 64) 73 C dX9_cut_64 (by decide) (fun c64 => ?_) (fun c64 => ?_)
                · have hbl : ¬ isBl (B i) = true := isBl_f (fun z => c46 (by rw [z])) (fun z => c52 (by rw [z])) (fun z => c58 (by rw [z])) (fun z => c64 (by rw [z]))
                  have hs : skB isBl B n (pP B n k) = i := by rw [← hsk]; exact skB_nx hbl
                  refine r_iload2 (pc := 73) C dX9_cut_73 ?_
                  refine r_callSi (pc := 74) C rfl dX9_cut_74 kX9_240 (tX9_isLetter Z.1 C.w hBi) rfl rfl (Nat.le_of_ble_eq_true rfl) (by decide) (fun x74 G74 h74 => ?_)
                  obtain ⟨rfl, h74b⟩ := h74
                  have h74b := h74b.symm
                  subst h74b
                  refine r_if_eq (pc := 77) 196 C dX9_cut_77 (by decide) (fun c77 => ?_) (fun c77 => ?_)
                  · have hle : ¬ isLe (B i) = true := by rw [bI_z.mp c77]; decide
                    refine r_iload2 (pc := 196) C dX9_cut_196 ?_
                    refine r_callSi (pc := 197) C rfl dX9_cut_197 kX9_244 (tX9_isDigit Z.1 C.w hBi) rfl rfl (Nat.le_of_ble_eq_true rfl) (by decide) (fun x197 G197 h197 => ?_)
                    obtain ⟨rfl, h197b⟩ := h197
                    have h197b := h197b.symm
                    subst h197b
                    refine r_if_eq (pc := 200) 275 C dX9_cut_200 (by decide) (fun c200 => ?_) (fun c200 => ?_)
                    · have hdi : ¬ isDi (B i) = true := by rw [bI_z.mp c200]; decide
                      refine r_iload1 (pc := 275) C dX9_cut_275 ?_
                      refine r_aload0 (pc := 276) C dX9_cut_276 ?_
                      refine r_iload1 (pc := 277) C dX9_cut_277 ?_
                      refine r_iload2 (pc := 278) C dX9_cut_278 ?_
                      refine r_aload0 (pc := 279) C dX9_cut_279 ?_
                      refine r_iload1 (pc := 280) C dX9_cut_280 ?_
                      refine r_iconst (pc := 281) (v := nI 1) C dX9_cut_281 (by decide) ?_
                      refine r_iadd (pc := 282) C dX9_cut_282 ?_
                      refine r_eqi (nI_add i 1) ?_
                      refine r_callVi (pc := 283) C rfl dX9_cut_283 kX9_232 gF9 jM (tX9_at Z.1 C.w (htx.fr hI.1 hI.2.1) (by omega)) rfl rfl (Nat.le_of_ble_eq_true rfl) (by decide) (fun x283 G283 h283 => ?_)
                      obtain ⟨rfl, h283b⟩ := h283
                      have h283b := h283b.symm
                      subst h283b
                      refine r_callVi (pc := 286) C rfl dX9_cut_286 kX9_247 gF9 jM (tX9_sign Z.1 C.w hBi (atB_lt hB) hI.2.2.1 (by omega)) rfl rfl (Nat.le_of_ble_eq_true rfl) (by decide) (fun x286 G286 h286 => ?_)
                      obtain ⟨r286, g286⟩ := h286
                      subst r286 g286
                      have heq : decide (atB B n (i + 1) = 61) = eqB B n (i + 1) := by
                        unfold eqB atB
                        by_cases z : i + 1 < n
                        · rw [if_pos z]; simp [z]
                        · rw [if_neg z]; simp [z]
                      rw [heq]
                      have hT : tkT B n k = (nI (sgF (B i) (eqB B n (i + 1))).1, nI (sgF (B i) (eqB B n (i + 1))).2.1, i, i + (sgF (B i) (eqB B n (i + 1))).2.2) := by
                        unfold tkT tokC
                        rw [hs]
                        rw [if_neg (by omega), if_neg hle, if_neg hdi]
                      have hsg := (tk_sign (B i) hBi (eqB B n (i + 1))).1
                      have hlen := sgF_len (c := B i) (eq := eqB B n (i + 1))
                      have hkd := tk_sg hBi (eqB B n (i + 1)) (nI 0)
                      have hle2 : i + (sgM (B i) (eqB B n (i + 1))).2 ≤ n := by
                        rw [hsg]
                        rcases hlen with z | ⟨z, z2⟩
                        · omega
                        · have := (of_decide_eq_true z2).1; omega
                      refine r_iadd (pc := 289) C dX9_cut_289 ?_
                      refine r_eqi (nI_add i _) ?_
                      refine r_istore1 (pc := 290) C dX9_cut_290 rfl ?_
                      refine r_goto (pc := 291) 7 C dX9_cut_291 (by decide) ?_
                      exact ih (n - (i + (sgM (B i) (eqB B n (i + 1))).2)) (by rcases hlen with z | ⟨z, z2⟩ <;> omega) _ (k + 1) _ _ _ _ _ _ _ rfl hle2 (by omega) (by rw [show pP B n (k + 1) = i + (sgM (B i) (eqB B n (i + 1))).2 by show (tkT B n k).2.2.2 = _; rw [hT, hsg]]) (fun j hj => (Nat.lt_or_ge j k).elim (fun e => hne j e) (fun e => by obtain rfl : j = k := (by omega); rw [hT]; intro z; have z : nI (sgF (B i) (eqB B n (i + 1))).1 = nI 0 := z; rw [z] at hkd; exact absurd (tkR0 hkd) (sgM_0 hBi))) (hI.tok (by rw [hT]; exact hkd) (by rw [hT]))
                    · have hdi : isDi (B i) = true := bI_n.mp c200
                      have hTd : tkT B n k = (if skB isDi B n i - i ≤ 4 then nI 2 else nI 1, intW B (skB isDi B n i - i) i (nI 0), i, skB isDi B n i) := by
                        unfold tkT tokC
                        rw [hs]
                        rw [if_neg (by omega), if_neg hle, if_pos hdi]
                      have ihW := ih
                      have loopd : ∀ (k0 : Nat) (m : Nat) (o5 o6 o7 : Option Value), k0 = n - (i + m) → i + m ≤ n → skB isDi B n (i + m) = skB isDi B n i → WW Z (qv (fun G' => cutP G G' B n)) 208 [some (.ref (ad Z (100))), some (.int (nI i)), some (.int (nI (B i))), some (.int (nI m)), some (.int (nI (a10 B i (min m 4)))), o5, o6, o7] [] G1 := by
                        intro k0
                        induction k0 using Nat.strongRecOn with
                        | _ k0 ih =>
                          intro m o5 o6 o7 hk0 him hsm
                          refine r_aload0 (pc := 208) C dX9_cut_208 ?_
                          refine r_iload1 (pc := 209) C dX9_cut_209 ?_
                          refine r_iload3 (pc := 210) C dX9_cut_210 ?_
                          refine r_iadd (pc := 211) C dX9_cut_211 ?_
                          refine r_eqi (nI_add i m) ?_
                          refine r_callVi (pc := 212) C rfl dX9_cut_212 kX9_232 gF9 jM (tX9_at Z.1 C.w (htx.fr hI.1 hI.2.1) (by omega)) rfl rfl (Nat.le_of_ble_eq_true rfl) (by decide) (fun x212 G212 h212 => ?_)
                          obtain ⟨rfl, h212b⟩ := h212
                          have h212b := h212b.symm
                          subst h212b
                          refine r_callSi (pc := 215) C rfl dX9_cut_215 kX9_244 (tX9_isDigit Z.1 C.w (atB_lt hB)) rfl rfl (Nat.le_of_ble_eq_true rfl) (by decide) (fun x215 G215 h215 => ?_)
                          obtain ⟨rfl, h215b⟩ := h215
                          have h215b := h215b.symm
                          subst h215b
                          refine r_if_eq (pc := 218) 250 C dX9_cut_218 (by decide) (fun c218 => ?_) (fun c218 => ?_)
                          · have hm : i + m = skB isDi B n i := by
                              rw [← hsm]
                              refine (skB_no (fun z => ?_)).symm
                              rw [show atB B n (i + m) = B (i + m) from if_pos z.1] at c218
                              rw [z.2] at c218
                              exact absurd c218 (by decide)
                            have h1m : 1 ≤ m := by have := skB_gt (p := isDi) hin hdi; omega
                            have hlet : ∀ k, i ≤ k → k < i + m → 48 ≤ B k ∧ B k ≤ 57 := fun k a b => of_decide_eq_true (skB_all (p := isDi) a (by rw [← hm]; exact b)).1
                            have hmle : i + m ≤ n := him
                            refine r_aload0 (pc := 250) C dX9_cut_250 ?_
                            refine r_iload3 (pc := 251) C dX9_cut_251 ?_
                            refine r_iconst (pc := 252) (v := nI 4) C dX9_cut_252 (by decide) ?_
                            refine r_icmp_le (pc := 253) 260 C dX9_cut_253 (by decide) (fun c253 => ?_) (fun c253 => ?_)
                            · have h4 : m ≤ 4 := (nI_leI (by omega) (by omega)).mp c253
                              refine r_iconst (pc := 260) (v := nI 2) C dX9_cut_260 (by decide) ?_
                              refine r_iload1 (pc := 261) C dX9_cut_261 ?_
                              refine r_iload4 (pc := 262) C dX9_cut_262 ?_
                              refine r_lconst (pc := 264) (v := 0) C dX9_cut_264 (by decide) ?_
                              refine r_callVv (pc := 265) C rfl dX9_cut_265 kX9_236 gF9 jM (tX9_token Z.1 C.w hI.2.2.1 (by omega)) rfl rfl (Nat.le_of_ble_eq_true rfl) (by decide) (fun G265 h265 => ?_)
                              subst h265
                              have hkd : tkR (tkT B n k).1 (tkT B n k).2.1 (nI 2) (nI (a10 B i (min m 4))) := by
                                rw [hTd]
                                show tkR (if skB isDi B n i - i ≤ 4 then nI 2 else nI 1) (intW B (skB isDi B n i - i) i (nI 0)) _ _
                                rw [show skB isDi B n i - i = m by omega]
                                exact tk_int hlet (if_pos h4).symm (fun z => by rw [show min m 4 = m by omega])
                              refine r_iload1 (pc := 268) C dX9_cut_268 ?_
                              refine r_iload3 (pc := 269) C dX9_cut_269 ?_
                              refine r_iadd (pc := 270) C dX9_cut_270 ?_
                              refine r_eqi (nI_add i m) ?_
                              refine r_istore1 (pc := 271) C dX9_cut_271 rfl ?_
                              refine r_goto (pc := 272) 291 C dX9_cut_272 (by decide) ?_
                              refine r_goto (pc := 291) 7 C dX9_cut_291 (by decide) ?_
                              exact ihW (n - (i + m)) (by omega) (i + m) (k + 1) _ _ _ _ _ _ _ rfl hmle (by omega) (by rw [show pP B n (k + 1) = i + m by show (tkT B n k).2.2.2 = _; rw [hTd]; exact hm.symm]) (fun j hj => by
                                by_cases e : j = k
                                · subst e
                                  intro z
                                  exact absurd (tkR0 (z ▸ hkd)) (by decide)
                                · exact hne j (by omega)) (hI.tok hkd (by rw [hTd]))
                            · have h4 : ¬ m ≤ 4 := fun h => c253 (nI_le h (by omega))
                              refine r_iconst (pc := 256) (v := nI 3) C dX9_cut_256 (by decide) ?_
                              refine r_goto (pc := 257) 261 C dX9_cut_257 (by decide) ?_
                              refine r_iload1 (pc := 261) C dX9_cut_261 ?_
                              refine r_iload4 (pc := 262) C dX9_cut_262 ?_
                              refine r_lconst (pc := 264) (v := 0) C dX9_cut_264 (by decide) ?_
                              refine r_callVv (pc := 265) C rfl dX9_cut_265 kX9_236 gF9 jM (tX9_token Z.1 C.w hI.2.2.1 (by omega)) rfl rfl (Nat.le_of_ble_eq_true rfl) (by decide) (fun G265 h265 => ?_)
                              subst h265
                              have hkd : tkR (tkT B n k).1 (tkT B n k).2.1 (nI 3) (nI (a10 B i (min m 4))) := by
                                rw [hTd]
                                show tkR (if skB isDi B n i - i ≤ 4 then nI 2 else nI 1) (intW B (skB isDi B n i - i) i (nI 0)) _ _
                                rw [show skB isDi B n i - i = m by omega]
                                exact tk_int hlet (if_neg h4).symm (fun z => by rw [show min m 4 = m by omega])
                              refine r_iload1 (pc := 268) C dX9_cut_268 ?_
                              refine r_iload3 (pc := 269) C dX9_cut_269 ?_
                              refine r_iadd (pc := 270) C dX9_cut_270 ?_
                              refine r_eqi (nI_add i m) ?_
                              refine r_istore1 (pc := 271) C dX9_cut_271 rfl ?_
                              refine r_goto (pc := 272) 291 C dX9_cut_272 (by decide) ?_
                              refine r_goto (pc := 291) 7 C dX9_cut_291 (by decide) ?_
                              exact ihW (n - (i + m)) (by omega) (i + m) (k + 1) _ _ _ _ _ _ _ rfl hmle (by omega) (by rw [show pP B n (k + 1) = i + m by show (tkT B n k).2.2.2 = _; rw [hTd]; exact hm.symm]) (fun j hj => by
                                by_cases e : j = k
                                · subst e
                                  intro z
                                  exact absurd (tkR0 (z ▸ hkd)) (by decide)
                                · exact hne j (by omega)) (hI.tok hkd (by rw [hTd]))
                          · have hl0 : isDi (atB B n (i + m)) = true := bI_n.mp c218
                            have himn : i + m < n := by
                              rcases Nat.lt_or_ge (i + m) n with z | z
                              · exact z
                              · rw [show atB B n (i + m) = 0 from if_neg (by omega)] at hl0; cases hl0
                            have hat : atB B n (i + m) = B (i + m) := if_pos himn
                            have hlm : isDi (B (i + m)) = true := by rw [← hat]; exact hl0
                            have hlr : 48 ≤ B (i + m) ∧ B (i + m) ≤ 57 := of_decide_eq_true hlm
                            refine r_iload3 (pc := 221) C dX9_cut_221 ?_
                            refine r_iconst (pc := 222) (v := nI 4) C dX9_cut_222 (by decide) ?_
                            refine r_icmp_ge (pc := 223) 244 C dX9_cut_223 (by decide) (fun c223 => ?_) (fun c223 => ?_)
                            · have h8 : 4 ≤ m := (nI_leI (by omega) (by omega)).mp c223
                              refine r_iinc3 (pc := 244) (nI 1) C dX9_cut_244 (by decide) rfl ?_
                              rw [nI_add m 1]
                              refine r_goto (pc := 247) 208 C dX9_cut_247 (by decide) ?_
                              rw [show min m 4 = min (m + 1) 4 by omega]
                              exact ih (n - (i + (m + 1))) (by omega) (m + 1) _ _ _ rfl (by omega) (by rw [show i + (m + 1) = i + m + 1 by omega, ← skB_go himn hlm]; exact hsm)
                            · have h8 : m < 4 := by
                                rcases Nat.lt_or_ge m 4 with h | h
                                · exact h
                                · exact absurd (nI_le h (by omega)) c223
                              refine r_bipush (pc := 226) (v := nI 10) C dX9_cut_226 (by decide) ?_
                              refine r_iload4 (pc := 228) C dX9_cut_228 ?_
                              refine r_imul (pc := 230) C dX9_cut_230 ?_
                              refine r_eqi (y := nI (10 * a10 B i m)) (by rw [pk_mul, show min m 4 = m by omega]) ?_
                              refine r_aload0 (pc := 231) C dX9_cut_231 ?_
                              refine r_iload1 (pc := 232) C dX9_cut_232 ?_
                              refine r_iload3 (pc := 233) C dX9_cut_233 ?_
                              refine r_iadd (pc := 234) C dX9_cut_234 ?_
                              refine r_eqi (nI_add i m) ?_
                              refine r_callVi (pc := 235) C rfl dX9_cut_235 kX9_232 gF9 jM (tX9_at Z.1 C.w (htx.fr hI.1 hI.2.1) (by omega)) rfl rfl (Nat.le_of_ble_eq_true rfl) (by decide) (fun x235 G235 h235 => ?_)
                              obtain ⟨rfl, h235b⟩ := h235
                              have h235b := h235b.symm
                              subst h235b
                              refine r_iadd (pc := 238) C dX9_cut_238 ?_
                              refine r_eqi (y := nI (10 * a10 B i m + B (i + m))) (by rw [hat, nI_add]) ?_
                              refine r_bipush (pc := 239) (v := nI 48) C dX9_cut_239 (by decide) ?_
                              refine r_isub (pc := 241) C dX9_cut_241 ?_
                              refine r_eqi (pk_sub (by omega)) ?_
                              refine r_istore4 (pc := 242) C dX9_cut_242 rfl ?_
                              refine r_iinc3 (pc := 244) (nI 1) C dX9_cut_244 (by decide) rfl ?_
                              rw [nI_add m 1]
                              refine r_goto (pc := 247) 208 C dX9_cut_247 (by decide) ?_
                              rw [show nI (10 * a10 B i m + B (i + m) - 48) = nI (a10 B i (min (m + 1) 4)) by rw [show min (m + 1) 4 = m + 1 by omega]; rfl]
                              exact ih (n - (i + (m + 1))) (by omega) (m + 1) _ _ _ rfl (by omega) (by rw [show i + (m + 1) = i + m + 1 by omega, ← skB_go himn hlm]; exact hsm)
                      refine r_iconst (pc := 203) (v := nI 0) C dX9_cut_203 (by decide) ?_
                      refine r_istore3 (pc := 204) C dX9_cut_204 rfl ?_
                      refine r_iconst (pc := 205) (v := nI 0) C dX9_cut_205 (by decide) ?_
                      refine r_istore4 (pc := 206) C dX9_cut_206 rfl ?_
                      exact loopd _ 0 _ _ _ rfl (by omega) rfl
                  · have hle : isLe (B i) = true := bI_n.mp c77
                    have hT : tkT B n k = ((wsF (accW B (skB isLe B n i - i) i 0) 12).1, (wsF (accW B (skB isLe B n i - i) i 0) 12).2, i, skB isLe B n i) := by
                      unfold tkT tokC
                      rw [hs]
                      rw [if_neg (by omega), if_pos hle]
                    have ihW := ih
                    have loopl : ∀ (k0 : Nat) (m : Nat) (o6 o7 : Option Value), k0 = n - (i + m) → i + m ≤ n → skB isLe B n (i + m) = skB isLe B n i → WW Z (qv (fun G' => cutP G G' B n)) 85 [some (.ref (ad Z (100))), some (.int (nI i)), some (.int (nI (B i))), some (.int (nI m)), some (.long (lN (a27 B i (min m 8)))), none, o6, o7] [] G1 := by
                      intro k0
                      induction k0 using Nat.strongRecOn with
                      | _ k0 ih =>
                        intro m o6 o7 hk0 him hsm
                        refine r_aload0 (pc := 85) C dX9_cut_85 ?_
                        refine r_iload1 (pc := 86) C dX9_cut_86 ?_
                        refine r_iload3 (pc := 87) C dX9_cut_87 ?_
                        refine r_iadd (pc := 88) C dX9_cut_88 ?_
                        refine r_eqi (nI_add i m) ?_
                        refine r_callVi (pc := 89) C rfl dX9_cut_89 kX9_232 gF9 jM (tX9_at Z.1 C.w (htx.fr hI.1 hI.2.1) (by omega)) rfl rfl (Nat.le_of_ble_eq_true rfl) (by decide) (fun x89 G89 h89 => ?_)
                        obtain ⟨rfl, h89b⟩ := h89
                        have h89b := h89b.symm
                        subst h89b
                        refine r_callSi (pc := 92) C rfl dX9_cut_92 kX9_240 (tX9_isLetter Z.1 C.w (atB_lt hB)) rfl rfl (Nat.le_of_ble_eq_true rfl) (by decide) (fun x92 G92 h92 => ?_)
                        obtain ⟨rfl, h92b⟩ := h92
                        have h92b := h92b.symm
                        subst h92b
                        refine r_if_eq (pc := 95) 124 C dX9_cut_95 (by decide) (fun c95 => ?_) (fun c95 => ?_)
                        · have hm : i + m = skB isLe B n i := by
                            rw [← hsm]
                            refine (skB_no (fun z => ?_)).symm
                            rw [show atB B n (i + m) = B (i + m) from if_pos z.1] at c95
                            rw [z.2] at c95
                            exact absurd c95 (by decide)
                          have h1m : 1 ≤ m := by have := skB_gt (p := isLe) hin hle; omega
                          have hlet : ∀ k, i ≤ k → k < i + m → 97 ≤ B k ∧ B k ≤ 122 := fun k a b => of_decide_eq_true (skB_all (p := isLe) a (by rw [← hm]; exact b)).1
                          refine r_iload3 (pc := 124) C dX9_cut_124 ?_
                          refine r_bipush (pc := 125) (v := nI 8) C dX9_cut_125 (by decide) ?_
                          refine r_icmp_le (pc := 127) 134 C dX9_cut_127 (by decide) (fun c127 => ?_) (fun c127 => ?_)
                          · have h8 : m ≤ 8 := (nI_leI (by omega) (by omega)).mp c127
                            have hbase : nI 1 = nI 1 ∨ nI 1 = nI 3 := Or.inl rfl
                            obtain ⟨base, hbs⟩ : ∃ b, b = nI 1 := ⟨_, rfl⟩
                            rw [← hbs] at hbase
                            have hbase : base = nI 1 ∨ base = nI 3 := Or.inl hbs
                            have tokL : ∀ (kd : Int32) (o7 : Option Value), (m ≤ 7 → kd = kdF (a27 B i m) base 12) → (8 ≤ m → kd = base) → WW Z (qv (fun G' => cutP G G' B n)) 179 [some (.ref (ad Z (100))), some (.int (nI i)), some (.int (nI (B i))), some (.int (nI m)), some (.long (lN (a27 B i (min m 8)))), none, some (.int (kd)), o7] [] G1 := by
                              intro kd o7 hk7 hk8
                              have hkd : tkR (wsF (accW B (skB isLe B n i - i) i 0) 12).1 (wsF (accW B (skB isLe B n i - i) i 0) 12).2 kd (nI 0) := by
                                rw [show skB isLe B n i - i = m by omega]
                                exact tk_word hB h1m hlet hbase kd hk7 hk8
                              have hk0n : ¬ kd = nI 0 := by
                                by_cases h7 : m ≤ 7
                                · rw [hk7 h7]
                                  rcases kd_cases (a27 B i m) base 12 with ⟨j, p1, p2, p3⟩ | ⟨p1, p2⟩
                                  · rw [p3]; exact fun z => absurd ((nI_eq (by omega) (by decide)).mp z) (by omega)
                                  · rw [p2]; rcases hbase with rfl | rfl <;> decide
                                · rw [hk8 (by omega)]; rcases hbase with rfl | rfl <;> decide
                              refine r_aload0 (pc := 179) C dX9_cut_179 ?_
                              refine r_iload6 (pc := 180) C dX9_cut_180 ?_
                              refine r_iload1 (pc := 182) C dX9_cut_182 ?_
                              refine r_iconst (pc := 183) (v := nI 0) C dX9_cut_183 (by decide) ?_
                              refine r_lload4 (pc := 184) C dX9_cut_184 ?_
                              refine r_callVv (pc := 186) C rfl dX9_cut_186 kX9_236 gF9 jM (tX9_token Z.1 C.w hI.2.2.1 (by omega)) rfl rfl (Nat.le_of_ble_eq_true rfl) (by decide) (fun G186 h186 => ?_)
                              subst h186
                              refine r_iload1 (pc := 189) C dX9_cut_189 ?_
                              refine r_iload3 (pc := 190) C dX9_cut_190 ?_
                              refine r_iadd (pc := 191) C dX9_cut_191 ?_
                              refine r_eqi (nI_add i m) ?_
                              refine r_istore1 (pc := 192) C dX9_cut_192 rfl ?_
                              refine r_goto (pc := 193) 291 C dX9_cut_193 (by decide) ?_
                              refine r_goto (pc := 291) 7 C dX9_cut_291 (by decide) ?_
                              have hmle : i + m ≤ n := by rw [hm]; exact skB_le (by omega)
                              exact ihW (n - (i + m)) (by omega) (i + m) (k + 1) _ _ _ _ _ _ _ rfl hmle (by omega) (by rw [show pP B n (k + 1) = i + m by show (tkT B n k).2.2.2 = _; rw [hT]; exact hm.symm]) (fun j hj => by
                                by_cases e : j = k
                                · subst e
                                  rw [hT]
                                  intro z
                                  have z : (wsF (accW B (skB isLe B n i - i) i 0) 12).1 = nI 0 := z
                                  have h := tkR0 (z ▸ hkd)
                                  exact absurd h hk0n
                                · exact hne j (by omega)) (hI.tok (by rw [hT]; exact hkd) (by rw [hT]))
                            refine r_iconst (pc := 134) (v := nI 1) C dX9_cut_134 (by decide) ?_
                            refine r_istore6 (pc := 135) C dX9_cut_135 rfl ?_
                            refine r_iload3 (pc := 137) C dX9_cut_137 ?_
                            refine r_bipush (pc := 138) (v := nI 7) C dX9_cut_138 (by decide) ?_
                            refine r_icmp_gt (pc := 140) 179 C dX9_cut_140 (by decide) (fun c140 => ?_) (fun c140 => ?_)
                            · have h7 : 7 < m := (nI_ltI (by omega) (by omega)).mp c140
                              exact tokL _ _ (fun z => absurd h7 (by omega)) (fun _ => hbs.symm)
                            · have h7 : m ≤ 7 := by
                                rcases Nat.lt_or_ge 7 m with h | h
                                · exact absurd (nI_lt h (by omega)) c140
                                · exact h
                              refine r_iconst (pc := 143) (v := nI 0) C dX9_cut_143 (by decide) ?_
                              refine r_istore7 (pc := 144) C dX9_cut_144 rfl ?_
                              rw [show min m 8 = m by omega] at tokL ⊢
                              have ha27 : a27 B i m < 2 ^ 63 := by
                                have h1 := a27_ltm (B := B) (i := i) (m := m) hlet
                                have : 27 ^ m ≤ 27 ^ 8 := Nat.pow_le_pow_right (by decide) (by omega)
                                omega
                              have loopq : ∀ (k0 : Nat) (q : Nat), k0 = 12 - q → q ≤ 12 → WW Z (qv (fun G' => cutP G G' B n)) 146 [some (.ref (ad Z (100))), some (.int (nI i)), some (.int (nI (B i))), some (.int (nI m)), some (.long (lN (a27 B i m))), none, some (.int (kdF (a27 B i m) base q)), some (.int (nI q))] [] G1 := by
                                intro k0
                                induction k0 using Nat.strongRecOn with
                                | _ k0 ih =>
                                  intro q hk0 hqq
                                  refine r_iload7 (pc := 146) C dX9_cut_146 ?_
                                  refine r_bipush (pc := 148) (v := nI 12) C dX9_cut_148 (by decide) ?_
                                  refine r_icmp_ge (pc := 150) 179 C dX9_cut_150 (by decide) (fun c150 => ?_) (fun c150 => ?_)
                                  · obtain rfl : q = 12 := by have := (nI_leI (by omega) (by omega)).mp c150; omega
                                    exact tokL _ _ (fun _ => rfl) (fun z => absurd h7 (by omega))
                                  · have hqb : q < 12 := by
                                      rcases Nat.lt_or_ge q 12 with h | h
                                      · exact h
                                      · exact absurd (nI_le h (by omega)) c150
                                    refine r_aload0 (pc := 153) C dX9_cut_153 ?_
                                    refine gX9_34 (pc := 154) C dX9_cut_154 ?_
                                    refine r_iload7 (pc := 157) C dX9_cut_157 ?_
                                    refine r_lald (pc := 159) (_) C dX9_cut_159 aM9 (rfl) (by omega) ?_
                                    rw [show G1.2.1 9 q = lN (kyN.getD q 0) by rw [hI.1.2.1 9 (by unfold cS; decide)]; exact hky q hqb]
                                    refine r_lload4 (pc := 160) C dX9_cut_160 ?_
                                    refine r_lcmp (pc := 162) C dX9_cut_162 ?_
                                    refine r_if_ne (pc := 163) 173 C dX9_cut_163 (by decide) (fun c163 => ?_) (fun c163 => ?_)
                                    · refine r_iinc7 (pc := 173) (nI 1) C dX9_cut_173 (by decide) rfl ?_
                                      rw [nI_add q 1]
                                      refine r_goto (pc := 176) 146 C dX9_cut_176 (by decide) ?_
                                      have e : kdF (a27 B i m) base (q + 1) = kdF (a27 B i m) base q := by rw [kdF, if_neg (fun z => c163 (lcmp_z.mpr (by rw [z])))]
                                      rw [← e]
                                      exact ih (12 - (q + 1)) (by omega) (q + 1) rfl (by omega)
                                    · refine r_bipush (pc := 166) (v := nI 20) C dX9_cut_166 (by decide) ?_
                                      refine r_iload7 (pc := 168) C dX9_cut_168 ?_
                                      refine r_iadd (pc := 170) C dX9_cut_170 ?_
                                      refine r_eqi (nI_add 20 q) ?_
                                      refine r_istore6 (pc := 171) C dX9_cut_171 rfl ?_
                                      refine r_iinc7 (pc := 173) (nI 1) C dX9_cut_173 (by decide) rfl ?_
                                      rw [nI_add q 1]
                                      refine r_goto (pc := 176) 146 C dX9_cut_176 (by decide) ?_
                                      have e : kdF (a27 B i m) base (q + 1) = nI (20 + q) := by rw [kdF, if_pos ((pk_lEQ (by have := kyN_lt q hqb; omega) (by omega)).mp (lcmp_z.mp c163))]
                                      rw [← e]
                                      exact ih (12 - (q + 1)) (by omega) (q + 1) rfl (by omega)
                              rw [← hbs]
                              exact loopq _ 0 rfl (by omega)
                          · have h8 : ¬ m ≤ 8 := fun h => c127 (nI_le h (by omega))
                            obtain ⟨base, hbs⟩ : ∃ b, b = nI 3 := ⟨_, rfl⟩
                            have hbase : base = nI 1 ∨ base = nI 3 := Or.inr hbs
                            have tokL : ∀ (kd : Int32) (o7 : Option Value), (m ≤ 7 → kd = kdF (a27 B i m) base 12) → (8 ≤ m → kd = base) → WW Z (qv (fun G' => cutP G G' B n)) 179 [some (.ref (ad Z (100))), some (.int (nI i)), some (.int (nI (B i))), some (.int (nI m)), some (.long (lN (a27 B i (min m 8)))), none, some (.int (kd)), o7] [] G1 := by
                              intro kd o7 hk7 hk8
                              have hkd : tkR (wsF (accW B (skB isLe B n i - i) i 0) 12).1 (wsF (accW B (skB isLe B n i - i) i 0) 12).2 kd (nI 0) := by
                                rw [show skB isLe B n i - i = m by omega]
                                exact tk_word hB h1m hlet hbase kd hk7 hk8
                              have hk0n : ¬ kd = nI 0 := by
                                by_cases h7 : m ≤ 7
                                · rw [hk7 h7]
                                  rcases kd_cases (a27 B i m) base 12 with ⟨j, p1, p2, p3⟩ | ⟨p1, p2⟩
                                  · rw [p3]; exact fun z => absurd ((nI_eq (by omega) (by decide)).mp z) (by omega)
                                  · rw [p2]; rcases hbase with rfl | rfl <;> decide
                                · rw [hk8 (by omega)]; rcases hbase with rfl | rfl <;> decide
                              refine r_aload0 (pc := 179) C dX9_cut_179 ?_
                              refine r_iload6 (pc := 180) C dX9_cut_180 ?_
                              refine r_iload1 (pc := 182) C dX9_cut_182 ?_
                              refine r_iconst (pc := 183) (v := nI 0) C dX9_cut_183 (by decide) ?_
                              refine r_lload4 (pc := 184) C dX9_cut_184 ?_
                              refine r_callVv (pc := 186) C rfl dX9_cut_186 kX9_236 gF9 jM (tX9_token Z.1 C.w hI.2.2.1 (by omega)) rfl rfl (Nat.le_of_ble_eq_true rfl) (by decide) (fun G186 h186 => ?_)
                              subst h186
                              refine r_iload1 (pc := 189) C dX9_cut_189 ?_
                              refine r_iload3 (pc := 190) C dX9_cut_190 ?_
                              refine r_iadd (pc := 191) C dX9_cut_191 ?_
                              refine r_eqi (nI_add i m) ?_
                              refine r_istore1 (pc := 192) C dX9_cut_192 rfl ?_
                              refine r_goto (pc := 193) 291 C dX9_cut_193 (by decide) ?_
                              refine r_goto (pc := 291) 7 C dX9_cut_291 (by decide) ?_
                              have hmle : i + m ≤ n := by rw [hm]; exact skB_le (by omega)
                              exact ihW (n - (i + m)) (by omega) (i + m) (k + 1) _ _ _ _ _ _ _ rfl hmle (by omega) (by rw [show pP B n (k + 1) = i + m by show (tkT B n k).2.2.2 = _; rw [hT]; exact hm.symm]) (fun j hj => by
                                by_cases e : j = k
                                · subst e
                                  rw [hT]
                                  intro z
                                  have z : (wsF (accW B (skB isLe B n i - i) i 0) 12).1 = nI 0 := z
                                  have h := tkR0 (z ▸ hkd)
                                  exact absurd h hk0n
                                · exact hne j (by omega)) (hI.tok (by rw [hT]; exact hkd) (by rw [hT]))
                            refine r_iconst (pc := 130) (v := nI 3) C dX9_cut_130 (by decide) ?_
                            refine r_goto (pc := 131) 135 C dX9_cut_131 (by decide) ?_
                            refine r_istore6 (pc := 135) C dX9_cut_135 rfl ?_
                            refine r_iload3 (pc := 137) C dX9_cut_137 ?_
                            refine r_bipush (pc := 138) (v := nI 7) C dX9_cut_138 (by decide) ?_
                            refine r_icmp_gt (pc := 140) 179 C dX9_cut_140 (by decide) (fun c140 => ?_) (fun c140 => ?_)
                            · have h7 : 7 < m := (nI_ltI (by omega) (by omega)).mp c140
                              exact tokL _ _ (fun z => absurd h7 (by omega)) (fun _ => hbs.symm)
                            · have h7 : m ≤ 7 := by
                                rcases Nat.lt_or_ge 7 m with h | h
                                · exact absurd (nI_lt h (by omega)) c140
                                · exact h
                              refine r_iconst (pc := 143) (v := nI 0) C dX9_cut_143 (by decide) ?_
                              refine r_istore7 (pc := 144) C dX9_cut_144 rfl ?_
                              rw [show min m 8 = m by omega] at tokL ⊢
                              have ha27 : a27 B i m < 2 ^ 63 := by
                                have h1 := a27_ltm (B := B) (i := i) (m := m) hlet
                                have : 27 ^ m ≤ 27 ^ 8 := Nat.pow_le_pow_right (by decide) (by omega)
                                omega
                              have loopq : ∀ (k0 : Nat) (q : Nat), k0 = 12 - q → q ≤ 12 → WW Z (qv (fun G' => cutP G G' B n)) 146 [some (.ref (ad Z (100))), some (.int (nI i)), some (.int (nI (B i))), some (.int (nI m)), some (.long (lN (a27 B i m))), none, some (.int (kdF (a27 B i m) base q)), some (.int (nI q))] [] G1 := by
                                intro k0
                                induction k0 using Nat.strongRecOn with
                                | _ k0 ih =>
                                  intro q hk0 hqq
                                  refine r_iload7 (pc := 146) C dX9_cut_146 ?_
                                  refine r_bipush (pc := 148) (v := nI 12) C dX9_cut_148 (by decide) ?_
                                  refine r_icmp_ge (pc := 150) 179 C dX9_cut_150 (by decide) (fun c150 => ?_) (fun c150 => ?_)
                                  · obtain rfl : q = 12 := by have := (nI_leI (by omega) (by omega)).mp c150; omega
                                    exact tokL _ _ (fun _ => rfl) (fun z => absurd h7 (by omega))
                                  · have hqb : q < 12 := by
                                      rcases Nat.lt_or_ge q 12 with h | h
                                      · exact h
                                      · exact absurd (nI_le h (by omega)) c150
                                    refine r_aload0 (pc := 153) C dX9_cut_153 ?_
                                    refine gX9_34 (pc := 154) C dX9_cut_154 ?_
                                    refine r_iload7 (pc := 157) C dX9_cut_157 ?_
                                    refine r_lald (pc := 159) (_) C dX9_cut_159 aM9 (rfl) (by omega) ?_
                                    rw [show G1.2.1 9 q = lN (kyN.getD q 0) by rw [hI.1.2.1 9 (by unfold cS; decide)]; exact hky q hqb]
                                    refine r_lload4 (pc := 160) C dX9_cut_160 ?_
                                    refine r_lcmp (pc := 162) C dX9_cut_162 ?_
                                    refine r_if_ne (pc := 163) 173 C dX9_cut_163 (by decide) (fun c163 => ?_) (fun c163 => ?_)
                                    · refine r_iinc7 (pc := 173) (nI 1) C dX9_cut_173 (by decide) rfl ?_
                                      rw [nI_add q 1]
                                      refine r_goto (pc := 176) 146 C dX9_cut_176 (by decide) ?_
                                      have e : kdF (a27 B i m) base (q + 1) = kdF (a27 B i m) base q := by rw [kdF, if_neg (fun z => c163 (lcmp_z.mpr (by rw [z])))]
                                      rw [← e]
                                      exact ih (12 - (q + 1)) (by omega) (q + 1) rfl (by omega)
                                    · refine r_bipush (pc := 166) (v := nI 20) C dX9_cut_166 (by decide) ?_
                                      refine r_iload7 (pc := 168) C dX9_cut_168 ?_
                                      refine r_iadd (pc := 170) C dX9_cut_170 ?_
                                      refine r_eqi (nI_add 20 q) ?_
                                      refine r_istore6 (pc := 171) C dX9_cut_171 rfl ?_
                                      refine r_iinc7 (pc := 173) (nI 1) C dX9_cut_173 (by decide) rfl ?_
                                      rw [nI_add q 1]
                                      refine r_goto (pc := 176) 146 C dX9_cut_176 (by decide) ?_
                                      have e : kdF (a27 B i m) base (q + 1) = nI (20 + q) := by rw [kdF, if_pos ((pk_lEQ (by have := kyN_lt q hqb; omega) (by omega)).mp (lcmp_z.mp c163))]
                                      rw [← e]
                                      exact ih (12 - (q + 1)) (by omega) (q + 1) rfl (by omega)
                              rw [← hbs]
                              exact loopq _ 0 rfl (by omega)
                        · have hl0 : isLe (atB B n (i + m)) = true := bI_n.mp c95
                          have himn : i + m < n := by
                            rcases Nat.lt_or_ge (i + m) n with z | z
                            · exact z
                            · rw [show atB B n (i + m) = 0 from if_neg (by omega)] at hl0; cases hl0
                          have hat : atB B n (i + m) = B (i + m) := if_pos himn
                          have hlm : isLe (B (i + m)) = true := by rw [← hat]; exact hl0
                          have hlr : 97 ≤ B (i + m) ∧ B (i + m) ≤ 122 := of_decide_eq_true hlm
                          refine r_iload3 (pc := 98) C dX9_cut_98 ?_
                          refine r_bipush (pc := 99) (v := nI 8) C dX9_cut_99 (by decide) ?_
                          refine r_icmp_ge (pc := 101) 118 C dX9_cut_101 (by decide) (fun c101 => ?_) (fun c101 => ?_)
                          · have h8 : 8 ≤ m := (nI_leI (by omega) (by omega)).mp c101
                            refine r_iinc3 (pc := 118) (nI 1) C dX9_cut_118 (by decide) rfl ?_
                            rw [nI_add m 1]
                            refine r_goto (pc := 121) 85 C dX9_cut_121 (by decide) ?_
                            rw [show min m 8 = min (m + 1) 8 by omega]
                            exact ih (n - (i + (m + 1))) (by omega) (m + 1) _ _ rfl (by omega) (by rw [show i + (m + 1) = i + m + 1 by omega, ← skB_go himn hlm]; exact hsm)
                          · have h8 : m < 8 := by
                              rcases Nat.lt_or_ge m 8 with h | h
                              · exact h
                              · exact absurd (nI_le h (by omega)) c101
                            refine r_lload4 (pc := 104) C dX9_cut_104 ?_
                            refine r_aload0 (pc := 106) C dX9_cut_106 ?_
                            refine r_iload1 (pc := 107) C dX9_cut_107 ?_
                            refine r_iload3 (pc := 108) C dX9_cut_108 ?_
                            refine r_iadd (pc := 109) C dX9_cut_109 ?_
                            refine r_eqi (nI_add i m) ?_
                            refine r_callVi (pc := 110) C rfl dX9_cut_110 kX9_232 gF9 jM (tX9_at Z.1 C.w (htx.fr hI.1 hI.2.1) (by omega)) rfl rfl (Nat.le_of_ble_eq_true rfl) (by decide) (fun x110 G110 h110 => ?_)
                            obtain ⟨rfl, h110b⟩ := h110
                            have h110b := h110b.symm
                            subst h110b
                            refine r_callSl (pc := 113) C rfl dX9_cut_113 kX9_225 (tX9_more Z.1 C.w) rfl rfl (Nat.le_of_ble_eq_true rfl) (by decide) (fun x113 G113 h113 => ?_)
                            obtain ⟨r113, h113b⟩ := h113
                            have h113b := h113b.symm
                            subst h113b
                            have e113 : x113 = lN (27 * a27 B i m + (B (i + m) - 96)) := by
                              rw [r113, hat, if_neg (show ¬ nI (B (i + m)) = (0 : Int32) from fun z => absurd ((nI_eq (a := B (i + m)) (b := 0) (by omega) (by decide)).mp z) (by omega)), pk_sub (by omega), nI_add, nI_l (by omega), show min m 8 = m by omega, show (27 : Int64) = lN 27 from rfl, lN_mul, lN_add, show B (i + m) - 97 + 1 = B (i + m) - 96 by omega]
                            subst e113
                            refine r_lstore4 (pc := 116) C dX9_cut_116 rfl ?_
                            refine r_iinc3 (pc := 118) (nI 1) C dX9_cut_118 (by decide) rfl ?_
                            rw [nI_add m 1]
                            refine r_goto (pc := 121) 85 C dX9_cut_121 (by decide) ?_
                            rw [show lN (27 * a27 B i m + (B (i + m) - 96)) = lN (a27 B i (min (m + 1) 8)) by rw [show min (m + 1) 8 = m + 1 by omega]; rfl]
                            exact ih (n - (i + (m + 1))) (by omega) (m + 1) _ _ rfl (by omega) (by rw [show i + (m + 1) = i + m + 1 by omega, ← skB_go himn hlm]; exact hsm)
                    refine r_iconst (pc := 80) (v := nI 0) C dX9_cut_80 (by decide) ?_
                    refine r_istore3 (pc := 81) C dX9_cut_81 rfl ?_
                    refine r_lconst (pc := 82) (v := 0) C dX9_cut_82 (by decide) ?_
                    refine r_lstore4 (pc := 83) C dX9_cut_83 rfl ?_
                    exact loopl _ 0 _ _ rfl (by omega) rfl
                · refine r_iinc1 (pc := 67) (nI 1) C dX9_cut_67 (by decide) rfl ?_
                  rw [nI_add i 1]
                  refine r_goto (pc := 70) 291 C dX9_cut_70 (by decide) ?_
                  refine r_goto (pc := 291) 7 C dX9_cut_291 (by decide) ?_
                  have hbl : isBl (B i) = true := isBl_t (Or.inr (Or.inr (Or.inr ((nI_eq (by omega) (by decide)).mp c64))))
                  exact ih (n - (i + 1)) (by omega) (i + 1) k _ _ _ _ _ _ _ rfl (by omega) (by omega) (by rw [← skB_go hin hbl]; exact hsk) hne hI
        · have hin : i = n := by
            rcases Nat.lt_or_ge i n with h | h
            · exact absurd (nI_lt h (by omega)) c28
            · omega
          have hT : tkT B n k = (nI 0, nI 0, n, n) := by
            have hs : skB isBl B n (pP B n k) = n := by rw [← hsk, hin]; exact skB_no (fun z => absurd z.1 (Nat.lt_irrefl n))
            unfold tkT tokC
            rw [hs]
            exact if_pos (Nat.le_refl n)
          refine r_aload0 (pc := 31) C dX9_cut_31 ?_
          refine r_iconst (pc := 32) (v := nI 0) C dX9_cut_32 (by decide) ?_
          refine r_aload0 (pc := 33) C dX9_cut_33 ?_
          refine gX9_220 (pc := 34) C dX9_cut_34 ?_
          refine r_eqi (y := nI n) (by rw [hI.2.1 4 (by decide)]; exact htx.1) ?_
          refine r_iconst (pc := 37) (v := nI 0) C dX9_cut_37 (by decide) ?_
          refine r_lconst (pc := 38) (v := 0) C dX9_cut_38 (by decide) ?_
          refine r_callVv (pc := 39) C rfl dX9_cut_39 kX9_236 gF9 jM (tX9_token Z.1 C.w hI.2.2.1 (by omega)) rfl rfl (Nat.le_of_ble_eq_true rfl) (by decide) (fun G39 h39 => ?_)
          subst h39
          have hI2 := hI.tok (kd := nI 0) (vl := nI 0) (wh := nI n) (nm := 0) (by rw [hT]; exact Or.inl ⟨rfl, rfl⟩) (by rw [hT])
          exact r_return (pc := 42) C dX9_cut_42 (⟨hI2.1, hI2.2.1, fun j hj hz => hI2.2.2.2 j (by
        rcases Nat.lt_or_ge k j with z | z
        · exact absurd (by rw [hT]) (hz k z)
        · omega)⟩)
  refine r_aload0 (pc := 0) C dX9_cut_0 ?_
  refine r_iconst (pc := 1) (v := nI 0) C dX9_cut_1 (by decide) ?_
  refine pX9_229 (pc := 2) C dX9_cut_2 ?_
  refine r_iconst (pc := 5) (v := nI 0) C dX9_cut_5 (by decide) ?_
  refine r_istore1 (pc := 6) C dX9_cut_6 rfl ?_
  exact loop _ 0 0 _ _ _ _ _ _ _ rfl (Nat.zero_le _) (by omega) rfl (fun j hj => absurd hj (Nat.not_lt_zero j)) ⟨Fr.refl.sI (Or.inr (Or.inr (Or.inr (Or.inr rfl)))), fun q hq => by rw [sI_s, upd_o hq], by rw [sI_s, upd_s], fun j hj => absurd hj (Nat.not_lt_zero j)⟩
