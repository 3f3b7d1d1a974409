def tokP (T : Int32 × Int32 × Nat × Nat) : Prop := T.1 = nI (cN T.1) ∧ cN T.1 ≤ 12 ∧ (cN T.1 = 7 ∨ cN T.1 = 8 ∨ cN T.1 = 9 → T.2.1 = nI (cN T.2.1) ∧ 1 ≤ cN T.2.1 ∧ cN T.2.1 ≤ 9 ∧ (cN T.1 = 9 → 7 ≤ cN T.2.1)) ∧ (cN T.1 = 2 → T.2.1 = nI (cN T.2.1) ∧ cN T.2.1 ≤ 9999) ∧ (cN T.1 = 3 → T.2.1 = nI (cN T.2.1) ∧ cN T.2.1 ≤ 6)
theorem wsF_P (x : Int64) (a b : Nat) : ∀ k, k ≤ 12 → tokP ((wsF x k).1, (wsF x k).2, a, b)
  | 0, _ => by
    have : tokP (nI 1, nI 0, 0, 0) := by unfold tokP; decide
    exact this
  | k + 1, hk => by
    rw [wsF]
    split
    · have : ∀ k, k < 12 → tokP (tWs.getD k 0, tWv.getD k 0, 0, 0) := by unfold tokP; decide +kernel
      exact this k (by omega)
    · exact wsF_P x a b k (by omega)
theorem intW_P {B : Nat → Nat} {n : Nat} : ∀ (k i v : Nat), (∀ q, i ≤ q → q < i + k → 48 ≤ B q ∧ B q ≤ 57) → k ≤ 4 → v < 10 ^ (4 - k) → ∃ u, u < 10000 ∧ intW B k i (nI v) = nI u
  | 0, i, v, _, _, hv => ⟨v, hv, rfl⟩
  | k + 1, i, v, hd, hk, hv => by
    obtain ⟨h1, h2⟩ := hd i (Nat.le_refl _) (by omega)
    have e : nI v * nI 10 + nI (B i) - nI 48 = nI (v * 10 + B i - 48) := by rw [pk_mul, nI_add, pk_sub (by omega)]
    have hp : 10 ^ (4 - k) = 10 ^ (4 - (k + 1)) * 10 := by rw [← Nat.pow_succ]; congr 1; omega
    rw [intW, e]
    exact intW_P (n := n) k (i + 1) _ (fun q h3 h4 => hd q (by omega) (by omega)) (by omega) (by rw [hp]; omega)
theorem skB_in {p : Nat → Bool} {B : Nat → Nat} {n : Nat} : ∀ (f i q : Nat), i ≤ q → q < whB p B n f i → p (B q) = true
  | 0, i, q, h1, h2 => by rw [whB] at h2; omega
  | f + 1, i, q, h1, h2 => by
    rw [whB] at h2
    split at h2
    · rename_i hc
      by_cases e : q = i
      · subst e; exact hc.2
      · exact skB_in f (i + 1) q (by omega) h2
    · omega
theorem tokC_P (B : Nat → Nat) (n i : Nat) : tokP (tokC B n i) := by
  unfold tokC
  dsimp only
  split
  · have : tokP (nI 0, nI 0, 0, 0) := by unfold tokP; decide
    exact this
  · split
    · exact wsF_P _ _ _ 12 (Nat.le_refl _)
    · split
      · split
        · rename_i h4
          obtain ⟨u, hu, e⟩ := intW_P (n := n) (B := B) (skB isDi B n (skB isBl B n i) - skB isBl B n i) (skB isBl B n i) 0 (fun q h1 h2 => of_decide_eq_true (skB_in (p := isDi) (B := B) (n := n) _ _ q h1 (by show q < skB isDi B n (skB isBl B n i); omega))) h4 (Nat.pos_of_ne_zero (by have := Nat.pow_pos (n := 4 - (skB isDi B n (skB isBl B n i) - skB isBl B n i)) (show 0 < 10 by decide); omega))
          unfold tokP
          dsimp only
          rw [e, cN_nI (show u < 2 ^ 31 by omega)]
          refine ⟨by decide, by decide, fun h => absurd h (by decide), fun _ => ⟨rfl, by omega⟩, fun h => absurd h (by decide)⟩
        · unfold tokP
          dsimp only
          refine ⟨by decide, by decide, fun h => absurd h (by decide), fun h => absurd h (by decide), fun h => absurd h (by decide)⟩
      · have : ∀ c eq, tokP (nI (sgF c eq).1, nI (sgF c eq).2.1, 0, 0) := by
          intro c eq
          unfold sgF
          repeat' split
          all_goals (unfold tokP; decide)
        exact this _ _
set_option maxHeartbeats 4000000 in
set_option maxRecDepth 100000 in
theorem tX3_followingUnit (Y : gY) (hY : Y.2.2.2 = wC) {G : gS} {o so : Nat} {rel : Bool} (ho : G.1 3 5 = nI o) (ho6 : o ≤ 6) (hr : G.1 3 6 = bI rel) (hso : so ≤ 12) : ∀ l : Launch, gM Y l yX3_followingUnit cX3_followingUnit 2 (some .int) (0, 0) [.ref (Y.2.1 (3)), .int (nI so)] G (qi (fun r G' => r = n9 (folU o rel so) ∧ G' = G)) := by
  intro l
  refine gM_of hY rfl (Nat.le_of_ble_eq_true rfl) [some (.ref (Y.2.1 (3))), some (.int (nI so))] rfl rfl ?_
  rintro Z rfl C
  refine r_iload1 (pc := 0) C dX3_followingUnit_0 ?_
  refine r_bipush (pc := 1) (v := nI 9) C dX3_followingUnit_1 (by decide) ?_
  refine r_icmp_ne (pc := 3) 8 C dX3_followingUnit_3 (by decide) (fun c3 => ?_) (fun c3 => ?_)
  · have d3 : so ≠ 9 := fun e => c3 (by rw [e])
    refine r_aload0 (pc := 8) C dX3_followingUnit_8 ?_
    refine gX3_73 (pc := 9) C dX3_followingUnit_9 ?_
    refine r_eqi ho ?_
    refine r_if_le (pc := 12) 28 C dX3_followingUnit_12 (by decide) (fun c12 => ?_) (fun c12 => ?_)
    · have d12 : ¬ 0 < o := by
        intro h
        exact absurd c12 (nI_nle h (by omega))
      refine r_aload0 (pc := 28) C dX3_followingUnit_28 ?_
      refine gX3_76 (pc := 29) C dX3_followingUnit_29 ?_
      refine r_eqi hr ?_
      refine r_if_ne (pc := 32) 47 C dX3_followingUnit_32 (by decide) (fun c32 => ?_) (fun c32 => ?_)
      · have d32 := bI_n.mp c32
        refine r_iload1 (pc := 47) C dX3_followingUnit_47 ?_
        refine r_bipush (pc := 48) (v := nI 7) C dX3_followingUnit_48 (by decide) ?_
        refine r_icmp_ne (pc := 50) 57 C dX3_followingUnit_50 (by decide) (fun c50 => ?_) (fun c50 => ?_)
        · have d50 : so ≠ 7 := fun e => c50 (by rw [e])
          refine r_iload1 (pc := 57) C dX3_followingUnit_57 ?_
          refine r_bipush (pc := 58) (v := nI 12) C dX3_followingUnit_58 (by decide) ?_
          refine r_icmp_ne (pc := 60) 67 C dX3_followingUnit_60 (by decide) (fun c60 => ?_) (fun c60 => ?_)
          · have d60 : so ≠ 12 := fun e => c60 (by rw [e])
            refine r_iconst (pc := 67) (v := (-1)) C dX3_followingUnit_67 (by decide) ?_
            exact r_ireturn (pc := 68) C dX3_followingUnit_68 (by refine ⟨?_, rfl⟩; simp [folU, n9, *])
          · have d60 : so = 12 := (nI_eq (by omega) (by decide)).mp c60
            refine r_iconst (pc := 63) (v := nI 0) C dX3_followingUnit_63 (by decide) ?_
            refine r_goto (pc := 64) 68 C dX3_followingUnit_64 (by decide) ?_
            exact r_ireturn (pc := 68) C dX3_followingUnit_68 (by refine ⟨?_, rfl⟩; simp [folU, n9, *])
        · have d50 : so = 7 := (nI_eq (by omega) (by decide)).mp c50
          refine r_iconst (pc := 53) (v := nI 5) C dX3_followingUnit_53 (by decide) ?_
          refine r_goto (pc := 54) 68 C dX3_followingUnit_54 (by decide) ?_
          exact r_ireturn (pc := 68) C dX3_followingUnit_68 (by refine ⟨?_, rfl⟩; simp [folU, n9, *])
      · have d32 := bI_z.mp c32
        refine r_iload1 (pc := 35) C dX3_followingUnit_35 ?_
        refine r_bipush (pc := 36) (v := nI 8) C dX3_followingUnit_36 (by decide) ?_
        refine r_icmp_ne (pc := 38) 45 C dX3_followingUnit_38 (by decide) (fun c38 => ?_) (fun c38 => ?_)
        · have d38 : so ≠ 8 := fun e => c38 (by rw [e])
          refine r_iconst (pc := 45) (v := (-1)) C dX3_followingUnit_45 (by decide) ?_
          exact r_ireturn (pc := 46) C dX3_followingUnit_46 (by refine ⟨?_, rfl⟩; simp [folU, n9, *])
        · have d38 : so = 8 := (nI_eq (by omega) (by decide)).mp c38
          refine r_iconst (pc := 41) (v := nI 5) C dX3_followingUnit_41 (by decide) ?_
          refine r_goto (pc := 42) 46 C dX3_followingUnit_42 (by decide) ?_
          exact r_ireturn (pc := 46) C dX3_followingUnit_46 (by refine ⟨?_, rfl⟩; simp [folU, n9, *])
    · have d12 : 0 < o := by
        rcases Nat.eq_zero_or_pos o with h | h
        · exact absurd (by rw [h]; decide) c12
        · exact h
      refine r_iload1 (pc := 15) C dX3_followingUnit_15 ?_
      refine r_bipush (pc := 16) (v := nI 11) C dX3_followingUnit_16 (by decide) ?_
      refine r_icmp_ne (pc := 18) 26 C dX3_followingUnit_18 (by decide) (fun c18 => ?_) (fun c18 => ?_)
      · have d18 : so ≠ 11 := fun e => c18 (by rw [e])
        refine r_iconst (pc := 26) (v := (-1)) C dX3_followingUnit_26 (by decide) ?_
        exact r_ireturn (pc := 27) C dX3_followingUnit_27 (by refine ⟨?_, rfl⟩; simp [folU, n9, *])
      · have d18 : so = 11 := (nI_eq (by omega) (by decide)).mp c18
        refine r_bipush (pc := 21) (v := nI 6) C dX3_followingUnit_21 (by decide) ?_
        refine r_goto (pc := 23) 27 C dX3_followingUnit_23 (by decide) ?_
        exact r_ireturn (pc := 27) C dX3_followingUnit_27 (by refine ⟨?_, rfl⟩; simp [folU, n9, *])
  · have d3 : so = 9 := (nI_eq (by omega) (by decide)).mp c3
    refine r_iconst (pc := 6) (v := nI 5) C dX3_followingUnit_6 (by decide) ?_
    exact r_ireturn (pc := 7) C dX3_followingUnit_7 (by refine ⟨?_, rfl⟩; simp [folU, n9, *])
set_option maxHeartbeats 4000000 in
set_option maxRecDepth 100000 in
theorem tX3_following (Y : gY) (hY : Y.2.2.2 = wC) {G : gS} {e o so : Nat} {rel : Bool} (he : G.1 3 4 = nI e) (he6 : e ≤ 6) (ho : G.1 3 5 = nI o) (ho6 : o ≤ 6) (hr : G.1 3 6 = bI rel) (hso : so ≤ 12) : ∀ l : Launch, gM Y l yX3_following cX3_following 2 (some .int) (1, 21) [.ref (Y.2.1 (3)), .int (nI so)] G (qi (fun r G' => r = n9 (fol e o rel so) ∧ G' = G)) := by
  intro l
  refine gM_of hY rfl (Nat.le_of_ble_eq_true rfl) [some (.ref (Y.2.1 (3))), some (.int (nI so))] rfl rfl ?_
  rintro Z rfl C
  refine r_aload0 (pc := 0) C dX3_following_0 ?_
  refine gX3_61 (pc := 1) C dX3_following_1 ?_
  refine r_eqi he ?_
  by_cases s4_0 : nI e = nI 0
  · refine r_eqi s4_0 ?_
    refine r_tableIn (pc := 4) 44 C dX3_following_4 (by decide) (by decide) (off := 40) rfl (by decide) ?_
    obtain rfl : e = 0 := (nI_eq (by omega) (by decide)).mp s4_0
    refine r_iload1 (pc := 44) C dX3_following_44 ?_
    refine r_iconst (pc := 45) (v := nI 4) C dX3_following_45 (by decide) ?_
    refine r_icmp_ne (pc := 46) 53 C dX3_following_46 (by decide) (fun c46 => ?_) (fun c46 => ?_)
    · have d46 : so ≠ 4 := fun e => c46 (by rw [e])
      refine r_iload1 (pc := 53) C dX3_following_53 ?_
      refine r_iconst (pc := 54) (v := nI 5) C dX3_following_54 (by decide) ?_
      refine r_icmp_ne (pc := 55) 62 C dX3_following_55 (by decide) (fun c55 => ?_) (fun c55 => ?_)
      · have d55 : so ≠ 5 := fun e => c55 (by rw [e])
        refine r_iload1 (pc := 62) C dX3_following_62 ?_
        refine r_if_ne (pc := 63) 71 C dX3_following_63 (by decide) (fun c63 => ?_) (fun c63 => ?_)
        · have d63 : so ≠ 0 := fun h => c63 (by rw [h]; decide)
          refine r_iconst (pc := 71) (v := (-1)) C dX3_following_71 (by decide) ?_
          exact r_ireturn (pc := 72) C dX3_following_72 (by refine ⟨?_, rfl⟩; simp [fol, n9, *])
        · have d63 : so = 0 := (nI_eq (a := so) (b := 0) (by omega) (by decide)).mp c63
          refine r_bipush (pc := 66) (v := nI 7) C dX3_following_66 (by decide) ?_
          refine r_goto (pc := 68) 72 C dX3_following_68 (by decide) ?_
          exact r_ireturn (pc := 72) C dX3_following_72 (by refine ⟨?_, rfl⟩; simp [fol, n9, *])
      · have d55 : so = 5 := (nI_eq (by omega) (by decide)).mp c55
        refine r_iconst (pc := 58) (v := nI 3) C dX3_following_58 (by decide) ?_
        refine r_goto (pc := 59) 72 C dX3_following_59 (by decide) ?_
        exact r_ireturn (pc := 72) C dX3_following_72 (by refine ⟨?_, rfl⟩; simp [fol, n9, *])
    · have d46 : so = 4 := (nI_eq (by omega) (by decide)).mp c46
      refine r_iconst (pc := 49) (v := nI 1) C dX3_following_49 (by decide) ?_
      refine r_goto (pc := 50) 72 C dX3_following_50 (by decide) ?_
      exact r_ireturn (pc := 72) C dX3_following_72 (by refine ⟨?_, rfl⟩; simp [fol, n9, *])
  by_cases s4_1 : nI e = nI 1
  · refine r_eqi s4_1 ?_
    refine r_tableIn (pc := 4) 73 C dX3_following_4 (by decide) (by decide) (off := 69) rfl (by decide) ?_
    obtain rfl : e = 1 := (nI_eq (by omega) (by decide)).mp s4_1
    refine r_iload1 (pc := 73) C dX3_following_73 ?_
    refine r_iconst (pc := 74) (v := nI 2) C dX3_following_74 (by decide) ?_
    refine r_icmp_ne (pc := 75) 82 C dX3_following_75 (by decide) (fun c75 => ?_) (fun c75 => ?_)
    · have d75 : so ≠ 2 := fun e => c75 (by rw [e])
      refine r_iconst (pc := 82) (v := (-1)) C dX3_following_82 (by decide) ?_
      exact r_ireturn (pc := 83) C dX3_following_83 (by refine ⟨?_, rfl⟩; simp [fol, n9, *])
    · have d75 : so = 2 := (nI_eq (by omega) (by decide)).mp c75
      refine r_iconst (pc := 78) (v := nI 2) C dX3_following_78 (by decide) ?_
      refine r_goto (pc := 79) 83 C dX3_following_79 (by decide) ?_
      exact r_ireturn (pc := 83) C dX3_following_83 (by refine ⟨?_, rfl⟩; simp [fol, n9, *])
  by_cases s4_2 : nI e = nI 2
  · refine r_eqi s4_2 ?_
    refine r_tableIn (pc := 4) 84 C dX3_following_4 (by decide) (by decide) (off := 80) rfl (by decide) ?_
    obtain rfl : e = 2 := (nI_eq (by omega) (by decide)).mp s4_2
    refine r_iload1 (pc := 84) C dX3_following_84 ?_
    refine r_bipush (pc := 85) (v := nI 6) C dX3_following_85 (by decide) ?_
    refine r_icmp_ne (pc := 87) 94 C dX3_following_87 (by decide) (fun c87 => ?_) (fun c87 => ?_)
    · have d87 : so ≠ 6 := fun e => c87 (by rw [e])
      refine r_iload1 (pc := 94) C dX3_following_94 ?_
      refine r_bipush (pc := 95) (v := nI 12) C dX3_following_95 (by decide) ?_
      refine r_icmp_ne (pc := 97) 104 C dX3_following_97 (by decide) (fun c97 => ?_) (fun c97 => ?_)
      · have d97 : so ≠ 12 := fun e => c97 (by rw [e])
        refine r_iconst (pc := 104) (v := (-1)) C dX3_following_104 (by decide) ?_
        exact r_ireturn (pc := 105) C dX3_following_105 (by refine ⟨?_, rfl⟩; simp [fol, n9, *])
      · have d97 : so = 12 := (nI_eq (by omega) (by decide)).mp c97
        refine r_iconst (pc := 100) (v := nI 0) C dX3_following_100 (by decide) ?_
        refine r_goto (pc := 101) 105 C dX3_following_101 (by decide) ?_
        exact r_ireturn (pc := 105) C dX3_following_105 (by refine ⟨?_, rfl⟩; simp [fol, n9, *])
    · have d87 : so = 6 := (nI_eq (by omega) (by decide)).mp c87
      refine r_iconst (pc := 90) (v := nI 5) C dX3_following_90 (by decide) ?_
      refine r_goto (pc := 91) 105 C dX3_following_91 (by decide) ?_
      exact r_ireturn (pc := 105) C dX3_following_105 (by refine ⟨?_, rfl⟩; simp [fol, n9, *])
  by_cases s4_3 : nI e = nI 3
  · refine r_eqi s4_3 ?_
    refine r_tableIn (pc := 4) 106 C dX3_following_4 (by decide) (by decide) (off := 102) rfl (by decide) ?_
    obtain rfl : e = 3 := (nI_eq (by omega) (by decide)).mp s4_3
    refine r_iload1 (pc := 106) C dX3_following_106 ?_
    refine r_iconst (pc := 107) (v := nI 2) C dX3_following_107 (by decide) ?_
    refine r_icmp_ne (pc := 108) 115 C dX3_following_108 (by decide) (fun c108 => ?_) (fun c108 => ?_)
    · have d108 : so ≠ 2 := fun e => c108 (by rw [e])
      refine r_iconst (pc := 115) (v := (-1)) C dX3_following_115 (by decide) ?_
      exact r_ireturn (pc := 116) C dX3_following_116 (by refine ⟨?_, rfl⟩; simp [fol, n9, *])
    · have d108 : so = 2 := (nI_eq (by omega) (by decide)).mp c108
      refine r_iconst (pc := 111) (v := nI 4) C dX3_following_111 (by decide) ?_
      refine r_goto (pc := 112) 116 C dX3_following_112 (by decide) ?_
      exact r_ireturn (pc := 116) C dX3_following_116 (by refine ⟨?_, rfl⟩; simp [fol, n9, *])
  by_cases s4_4 : nI e = nI 4
  · refine r_eqi s4_4 ?_
    refine r_tableIn (pc := 4) 117 C dX3_following_4 (by decide) (by decide) (off := 113) rfl (by decide) ?_
    obtain rfl : e = 4 := (nI_eq (by omega) (by decide)).mp s4_4
    refine r_iload1 (pc := 117) C dX3_following_117 ?_
    refine r_bipush (pc := 118) (v := nI 6) C dX3_following_118 (by decide) ?_
    refine r_icmp_ne (pc := 120) 127 C dX3_following_120 (by decide) (fun c120 => ?_) (fun c120 => ?_)
    · have d120 : so ≠ 6 := fun e => c120 (by rw [e])
      refine r_iconst (pc := 127) (v := (-1)) C dX3_following_127 (by decide) ?_
      exact r_ireturn (pc := 128) C dX3_following_128 (by refine ⟨?_, rfl⟩; simp [fol, n9, *])
    · have d120 : so = 6 := (nI_eq (by omega) (by decide)).mp c120
      refine r_iconst (pc := 123) (v := nI 5) C dX3_following_123 (by decide) ?_
      refine r_goto (pc := 124) 128 C dX3_following_124 (by decide) ?_
      exact r_ireturn (pc := 128) C dX3_following_128 (by refine ⟨?_, rfl⟩; simp [fol, n9, *])
  by_cases s4_5 : nI e = nI 5
  · refine r_eqi s4_5 ?_
    refine r_tableIn (pc := 4) 129 C dX3_following_4 (by decide) (by decide) (off := 125) rfl (by decide) ?_
    obtain rfl : e = 5 := (nI_eq (by omega) (by decide)).mp s4_5
    refine r_iload1 (pc := 129) C dX3_following_129 ?_
    refine r_iconst (pc := 130) (v := nI 2) C dX3_following_130 (by decide) ?_
    refine r_icmp_eq (pc := 131) 139 C dX3_following_131 (by decide) (fun c131 => ?_) (fun c131 => ?_)
    · have d131 : so = 2 := (nI_eq (by omega) (by decide)).mp c131
      refine r_bipush (pc := 139) (v := nI 6) C dX3_following_139 (by decide) ?_
      refine r_goto (pc := 141) 155 C dX3_following_141 (by decide) ?_
      exact r_ireturn (pc := 155) C dX3_following_155 (by refine ⟨?_, rfl⟩; simp [fol, n9, *])
    · have d131 : so ≠ 2 := fun e => c131 (by rw [e])
      refine r_iload1 (pc := 134) C dX3_following_134 ?_
      refine r_iconst (pc := 135) (v := nI 3) C dX3_following_135 (by decide) ?_
      refine r_icmp_ne (pc := 136) 144 C dX3_following_136 (by decide) (fun c136 => ?_) (fun c136 => ?_)
      · have d136 : so ≠ 3 := fun e => c136 (by rw [e])
        refine r_iload1 (pc := 144) C dX3_following_144 ?_
        refine r_bipush (pc := 145) (v := nI 10) C dX3_following_145 (by decide) ?_
        refine r_icmp_ne (pc := 147) 154 C dX3_following_147 (by decide) (fun c147 => ?_) (fun c147 => ?_)
        · have d147 : so ≠ 10 := fun e => c147 (by rw [e])
          refine r_iconst (pc := 154) (v := (-1)) C dX3_following_154 (by decide) ?_
          exact r_ireturn (pc := 155) C dX3_following_155 (by refine ⟨?_, rfl⟩; simp [fol, n9, *])
        · have d147 : so = 10 := (nI_eq (by omega) (by decide)).mp c147
          refine r_iconst (pc := 150) (v := nI 5) C dX3_following_150 (by decide) ?_
          refine r_goto (pc := 151) 155 C dX3_following_151 (by decide) ?_
          exact r_ireturn (pc := 155) C dX3_following_155 (by refine ⟨?_, rfl⟩; simp [fol, n9, *])
      · have d136 : so = 3 := (nI_eq (by omega) (by decide)).mp c136
        refine r_bipush (pc := 139) (v := nI 6) C dX3_following_139 (by decide) ?_
        refine r_goto (pc := 141) 155 C dX3_following_141 (by decide) ?_
        exact r_ireturn (pc := 155) C dX3_following_155 (by refine ⟨?_, rfl⟩; simp [fol, n9, *])
  refine r_tableOut (pc := 4) 156 C dX3_following_4 (tsw_o 0 5 (fun v a b => by rcases (show v = 0 ∨ v = 1 ∨ v = 2 ∨ v = 3 ∨ v = 4 ∨ v = 5 by omega) with rfl | rfl | rfl | rfl | rfl | rfl <;> assumption) (by decide)) (by decide) ?_
  have he6 : e = 6 := by
    have h0 : e ≠ 0 := fun h => s4_0 (by rw [h])
    have h1 : e ≠ 1 := fun h => s4_1 (by rw [h])
    have h2 : e ≠ 2 := fun h => s4_2 (by rw [h])
    have h3 : e ≠ 3 := fun h => s4_3 (by rw [h])
    have h4 : e ≠ 4 := fun h => s4_4 (by rw [h])
    have h5 : e ≠ 5 := fun h => s4_5 (by rw [h])
    omega
  subst he6
  refine r_aload0 (pc := 156) C dX3_following_156 ?_
  refine r_iload1 (pc := 157) C dX3_following_157 ?_
  refine r_callVi (pc := 158) C rfl dX3_following_158 kX3_80 gF3 jC3 (tX3_followingUnit Z.1 C.w ho ho6 hr hso) rfl rfl (Nat.le_of_ble_eq_true rfl) (by decide) (fun x158 G158 h158 => ?_)
  obtain ⟨rfl, h158b⟩ := h158
  subst h158b
  exact r_ireturn (pc := 161) C dX3_following_161 (⟨rfl, rfl⟩)
set_option maxHeartbeats 4000000 in
set_option maxRecDepth 100000 in
theorem tX3_isOverfull (Y : gY) (hY : Y.2.2.2 = wC) {G : gS} {j e o so s : Nat} (hj : j < 3) (hrj : G.2.2 3 3 = 40 + j) (he : G.1 3 4 = nI e) (he6 : e ≤ 6) (ho : G.1 3 5 = nI o) (ho6 : o ≤ 6) (hso : G.1 5 3 = nI so) (hso2 : so ≤ 12) (hs : G.1 (40 + j) 0 = nI s) (hs2 : s ≤ 20) : ∀ l : Launch, gM Y l yX3_isOverfull cX3_isOverfull 1 (some .boolean) (0, 0) [.ref (Y.2.1 (3))] G (qi (fun r G' => r = bI (decide ((e = 0 ∧ 20 ≤ s) ∨ (so = 10 ∧ 6 ≤ o))) ∧ G' = G)) := by
  intro l
  refine gM_of hY rfl (Nat.le_of_ble_eq_true rfl) [some (.ref (Y.2.1 (3)))] rfl rfl ?_
  rintro Z rfl C
  refine r_aload0 (pc := 0) C dX3_isOverfull_0 ?_
  refine gX3_61 (pc := 1) C dX3_isOverfull_1 ?_
  refine r_eqi he ?_
  refine r_if_ne (pc := 4) 19 C dX3_isOverfull_4 (by decide) (fun c4 => ?_) (fun c4 => ?_)
  · have d4 : e ≠ 0 := fun h => c4 (by rw [h]; decide)
    refine r_aload0 (pc := 19) C dX3_isOverfull_19 ?_
    refine gX3_31 (pc := 20) C dX3_isOverfull_20 ?_
    refine gX3_41 (pc := 23) C dX3_isOverfull_23 ?_
    refine r_eqi hso ?_
    refine r_bipush (pc := 26) (v := nI 10) C dX3_isOverfull_26 (by decide) ?_
    refine r_icmp_ne (pc := 28) 44 C dX3_isOverfull_28 (by decide) (fun c28 => ?_) (fun c28 => ?_)
    · have d28 : so ≠ 10 := fun e => c28 (by rw [e])
      refine r_iconst (pc := 44) (v := nI 0) C dX3_isOverfull_44 (by decide) ?_
      exact r_zreturn (pc := 45) C dX3_isOverfull_45 (rfl) (by first | exact ⟨bI_d (Or.inl ⟨d4, d16⟩), rfl⟩ | exact ⟨bI_d (Or.inr ⟨d28, d37⟩), rfl⟩ | exact ⟨bI_dn (by rintro (h | h); (first | exact d4 h.1 | exact d16 h.2); (first | exact d28 h.1 | exact d37 h.2)), rfl⟩)
    · have d28 : so = 10 := (nI_eq (by omega) (by decide)).mp c28
      refine r_aload0 (pc := 31) C dX3_isOverfull_31 ?_
      refine gX3_73 (pc := 32) C dX3_isOverfull_32 ?_
      refine r_eqi ho ?_
      refine r_bipush (pc := 35) (v := nI 6) C dX3_isOverfull_35 (by decide) ?_
      refine r_icmp_lt (pc := 37) 44 C dX3_isOverfull_37 (by decide) (fun c37 => ?_) (fun c37 => ?_)
      · have d37 : ¬ 6 ≤ o := by have := (nI_ltI (by omega) (by decide)).mp c37; omega
        refine r_iconst (pc := 44) (v := nI 0) C dX3_isOverfull_44 (by decide) ?_
        exact r_zreturn (pc := 45) C dX3_isOverfull_45 (rfl) (by first | exact ⟨bI_d (Or.inl ⟨d4, d16⟩), rfl⟩ | exact ⟨bI_d (Or.inr ⟨d28, d37⟩), rfl⟩ | exact ⟨bI_dn (by rintro (h | h); (first | exact d4 h.1 | exact d16 h.2); (first | exact d28 h.1 | exact d37 h.2)), rfl⟩)
      · have d37 : 6 ≤ o := (nI_leI (by decide) (by omega)).mp (Int32.not_lt.mp c37)
        refine r_iconst (pc := 40) (v := nI 1) C dX3_isOverfull_40 (by decide) ?_
        refine r_goto (pc := 41) 45 C dX3_isOverfull_41 (by decide) ?_
        exact r_zreturn (pc := 45) C dX3_isOverfull_45 (rfl) (by first | exact ⟨bI_d (Or.inl ⟨d4, d16⟩), rfl⟩ | exact ⟨bI_d (Or.inr ⟨d28, d37⟩), rfl⟩ | exact ⟨bI_dn (by rintro (h | h); (first | exact d4 h.1 | exact d16 h.2); (first | exact d28 h.1 | exact d37 h.2)), rfl⟩)
  · have d4 : e = 0 := (nI_eq (a := e) (b := 0) (by omega) (by decide)).mp c4
    refine r_aload0 (pc := 7) C dX3_isOverfull_7 ?_
    refine gX3_18 (pc := 8) C dX3_isOverfull_8 ?_
    refine r_eqr hrj ?_
    refine gX3_83 (pc := 11) C (by omega) dX3_isOverfull_11 ?_
    refine r_eqi hs ?_
    refine r_bipush (pc := 14) (v := nI 20) C dX3_isOverfull_14 (by decide) ?_
    refine r_icmp_ge (pc := 16) 40 C dX3_isOverfull_16 (by decide) (fun c16 => ?_) (fun c16 => ?_)
    · have d16 : 20 ≤ s := (nI_leI (by decide) (by omega)).mp c16
      refine r_iconst (pc := 40) (v := nI 1) C dX3_isOverfull_40 (by decide) ?_
      refine r_goto (pc := 41) 45 C dX3_isOverfull_41 (by decide) ?_
      exact r_zreturn (pc := 45) C dX3_isOverfull_45 (rfl) (by first | exact ⟨bI_d (Or.inl ⟨d4, d16⟩), rfl⟩ | exact ⟨bI_d (Or.inr ⟨d28, d37⟩), rfl⟩ | exact ⟨bI_dn (by rintro (h | h); (first | exact d4 h.1 | exact d16 h.2); (first | exact d28 h.1 | exact d37 h.2)), rfl⟩)
    · have d16 : ¬ 20 ≤ s := fun h => c16 (nI_le h (by omega))
      refine r_aload0 (pc := 19) C dX3_isOverfull_19 ?_
      refine gX3_31 (pc := 20) C dX3_isOverfull_20 ?_
      refine gX3_41 (pc := 23) C dX3_isOverfull_23 ?_
      refine r_eqi hso ?_
      refine r_bipush (pc := 26) (v := nI 10) C dX3_isOverfull_26 (by decide) ?_
      refine r_icmp_ne (pc := 28) 44 C dX3_isOverfull_28 (by decide) (fun c28 => ?_) (fun c28 => ?_)
      · have d28 : so ≠ 10 := fun e => c28 (by rw [e])
        refine r_iconst (pc := 44) (v := nI 0) C dX3_isOverfull_44 (by decide) ?_
        exact r_zreturn (pc := 45) C dX3_isOverfull_45 (rfl) (by first | exact ⟨bI_d (Or.inl ⟨d4, d16⟩), rfl⟩ | exact ⟨bI_d (Or.inr ⟨d28, d37⟩), rfl⟩ | exact ⟨bI_dn (by rintro (h | h); (first | exact d4 h.1 | exact d16 h.2); (first | exact d28 h.1 | exact d37 h.2)), rfl⟩)
      · have d28 : so = 10 := (nI_eq (by omega) (by decide)).mp c28
        refine r_aload0 (pc := 31) C dX3_isOverfull_31 ?_
        refine gX3_73 (pc := 32) C dX3_isOverfull_32 ?_
        refine r_eqi ho ?_
        refine r_bipush (pc := 35) (v := nI 6) C dX3_isOverfull_35 (by decide) ?_
        refine r_icmp_lt (pc := 37) 44 C dX3_isOverfull_37 (by decide) (fun c37 => ?_) (fun c37 => ?_)
        · have d37 : ¬ 6 ≤ o := by have := (nI_ltI (by omega) (by decide)).mp c37; omega
          refine r_iconst (pc := 44) (v := nI 0) C dX3_isOverfull_44 (by decide) ?_
          exact r_zreturn (pc := 45) C dX3_isOverfull_45 (rfl) (by first | exact ⟨bI_d (Or.inl ⟨d4, d16⟩), rfl⟩ | exact ⟨bI_d (Or.inr ⟨d28, d37⟩), rfl⟩ | exact ⟨bI_dn (by rintro (h | h); (first | exact d4 h.1 | exact d16 h.2); (first | exact d28 h.1 | exact d37 h.2)), rfl⟩)
        · have d37 : 6 ≤ o := (nI_leI (by decide) (by omega)).mp (Int32.not_lt.mp c37)
          refine r_iconst (pc := 40) (v := nI 1) C dX3_isOverfull_40 (by decide) ?_
          refine r_goto (pc := 41) 45 C dX3_isOverfull_41 (by decide) ?_
          exact r_zreturn (pc := 45) C dX3_isOverfull_45 (rfl) (by first | exact ⟨bI_d (Or.inl ⟨d4, d16⟩), rfl⟩ | exact ⟨bI_d (Or.inr ⟨d28, d37⟩), rfl⟩ | exact ⟨bI_dn (by rintro (h | h); (first | exact d4 h.1 | exact d16 h.2); (first | exact d28 h.1 | exact d37 h.2)), rfl⟩)
set_option maxHeartbeats 4000000 in
set_option maxRecDepth 100000 in
theorem tX3_exchange (Y : gY) (hY : Y.2.2.2 = wC) {G : gS} {y : Nat} : ∀ l : Launch, gM Y l yX3_exchange cX3_exchange 3 (some (.object "BootHall$Rules")) (0, 0) [.ref (Y.2.1 (3)), .ref (Y.2.1 (y))] G (qr Y.2.1 (fun r G' => r = G.2.2 3 3 ∧ G' = sR G 3 3 y)) := by
  intro l
  refine gM_of hY rfl (Nat.le_of_ble_eq_true rfl) [some (.ref (Y.2.1 (3))), some (.ref (Y.2.1 (y))), none] rfl rfl ?_
  rintro Z rfl C
  refine r_aload0 (pc := 0) C dX3_exchange_0 ?_
  refine gX3_18 (pc := 1) C dX3_exchange_1 ?_
  refine r_astore2 (pc := 4) C dX3_exchange_4 rfl ?_
  refine r_aload0 (pc := 5) C dX3_exchange_5 ?_
  refine r_aload1 (pc := 6) C dX3_exchange_6 ?_
  refine pX3_18 (pc := 7) C dX3_exchange_7 ?_
  refine r_aload2 (pc := 10) C dX3_exchange_10 ?_
  exact r_areturn (pc := 11) C dX3_exchange_11 (⟨rfl, rfl⟩)
set_option maxHeartbeats 4000000 in
set_option maxRecDepth 100000 in
theorem tX3_begin (Y : gY) (hY : Y.2.2.2 = wC) {G : gS} {j : Nat} (hj : j < 3) (hrj : G.2.2 3 3 = 40 + j) : ∀ l : Launch, gM Y l yX3_begin cX3_begin 1 none (1, 20) [.ref (Y.2.1 (3))] G (qv (fun G' => Fr (fun q => q = 3 ∨ q = 5 ∨ q = 40 + j) G G' ∧ G'.1 3 2 = nI 0 ∧ G'.1 3 4 = nI 0 ∧ G'.1 3 5 = nI 0 ∧ G'.1 3 6 = nI 0 ∧ G'.1 3 7 = -1 ∧ G'.1 5 1 = nI 0 ∧ G'.1 (40 + j) 0 = nI 0 ∧ G'.1 (40 + j) 1 = nI 0)) := by
  intro l
  refine gM_of hY rfl (Nat.le_of_ble_eq_true rfl) [some (.ref (Y.2.1 (3)))] rfl rfl ?_
  rintro Z rfl C
  refine r_aload0 (pc := 0) C dX3_begin_0 ?_
  refine gX3_31 (pc := 1) C dX3_begin_1 ?_
  refine r_callVv (pc := 4) C rfl dX3_begin_4 kX3_64 gF6 jC5 (tX6_restart Z.1 C.w) rfl rfl (Nat.le_of_ble_eq_true rfl) (by decide) (fun G4 h4 => ?_)
  subst h4
  refine r_aload0 (pc := 7) C dX3_begin_7 ?_
  refine gX3_18 (pc := 8) C dX3_begin_8 ?_
  refine r_eqr (y := 40 + j) hrj ?_
  refine r_callVv (pc := 11) C rfl dX3_begin_11 kX3_67 gF4 (jCr (by omega)) (tX4_clear Z.1 C.w hj) rfl rfl (Nat.le_of_ble_eq_true rfl) (by decide) (fun G11 h11 => ?_)
  subst h11
  refine r_aload0 (pc := 14) C dX3_begin_14 ?_
  refine r_iconst (pc := 15) (v := nI 0) C dX3_begin_15 (by decide) ?_
  refine pX3_70 (pc := 16) C dX3_begin_16 ?_
  refine r_aload0 (pc := 19) C dX3_begin_19 ?_
  refine r_iconst (pc := 20) (v := nI 0) C dX3_begin_20 (by decide) ?_
  refine pX3_61 (pc := 21) C dX3_begin_21 ?_
  refine r_aload0 (pc := 24) C dX3_begin_24 ?_
  refine r_iconst (pc := 25) (v := nI 0) C dX3_begin_25 (by decide) ?_
  refine pX3_73 (pc := 26) C dX3_begin_26 ?_
  refine r_aload0 (pc := 29) C dX3_begin_29 ?_
  refine r_iconst (pc := 30) (v := nI 0) C dX3_begin_30 (by decide) ?_
  refine pX3_76 (pc := 31) C dX3_begin_31 rfl rfl ?_
  refine r_aload0 (pc := 34) C dX3_begin_34 ?_
  refine r_iconst (pc := 35) (v := (-1)) C dX3_begin_35 (by decide) ?_
  refine pX3_51 (pc := 36) C dX3_begin_36 ?_
  exact r_return (pc := 39) C dX3_begin_39 (by
  refine ⟨((((((((Fr.refl.sW (Or.inr (Or.inl rfl))).sI (Or.inr (Or.inr rfl))).sI (Or.inr (Or.inr rfl))).sI (Or.inl rfl)).sI (Or.inl rfl)).sI (Or.inl rfl)).sI (Or.inl rfl)).sI (Or.inl rfl)), rfl, rfl, rfl, rfl, rfl, ?_, ?_, ?_⟩
  · rw [sI_o (by omega), sI_o (by omega), sI_o (by omega), sI_o (by omega), sI_o (by omega), sI_o (by omega), sI_o (by omega), sW_s, upd_s]
  · rw [sI_o (by omega), sI_o (by omega), sI_o (by omega), sI_o (by omega), sI_o (by omega), sI_s, upd_o (by decide), sI_s, upd_s]
  · rw [sI_o (by omega), sI_o (by omega), sI_o (by omega), sI_o (by omega), sI_o (by omega), sI_s, upd_s])
