def no6 (c : Nat) : Prop := c ≠ 59 ∧ c ≠ 40 ∧ c ≠ 41 ∧ c ≠ 43 ∧ c ≠ 45 ∧ c ≠ 42
theorem sgF_no {c : Nat} {eq : Bool} (h : no6 c) : sgF c eq = (if c = 60 then (if eq then (8, 6, 2) else (8, 5, 1)) else if eq = true ∧ c = 61 then (8, 3, 2) else if eq = true ∧ c = 33 then (8, 4, 2) else (1, 0, 1)) := by
  obtain ⟨h1, h2, h3, h4, h5, h6⟩ := h
  rw [sgF, if_neg h1, if_neg h2, if_neg h3, if_neg h4, if_neg h5, if_neg h6]
theorem upd_c {f : Nat → Int32} {j k : Nat} {v w : Int32} (h : j ≠ k) : upd (upd f j v) k w = upd (upd f k w) j v := by
  funext q
  simp only [upd]
  by_cases e1 : q = k
  · by_cases e2 : q = j
    · exact absurd (e2.symm.trans e1) h
    · rw [if_pos e1, if_neg e2, if_pos e1]
  · simp [e1]
theorem upd_u {f : Nat → Int32} {k : Nat} {v w : Int32} : upd (upd f k v) k w = upd f k w := by
  funext q
  simp only [upd]
  by_cases e1 : q = k
  · simp [e1]
  · simp [e1]
/-- the scanner's row with next, sort and value set -/
def sc3 (f : Nat → Int32) (a b c : Int32) : Nat → Int32 := upd (upd (upd f 1 a) 3 b) 4 c
theorem sc3_v {f : Nat → Int32} {a b c : Int32} : upd (sc3 f a b c) 4 c = sc3 f a b c := by rw [sc3, upd_u]
set_option maxHeartbeats 4000000 in
set_option maxRecDepth 100000 in
theorem tX6_scanRelation (Y : gY) (hY : Y.2.2.2 = wC) {G : gS} {n i c : Nat} (hT : tapeOk G n) (hi : i ≤ n) (hn1 : G.1 5 1 = nI i) (hv0 : G.1 5 4 = nI 0) (hc : c < 256) (h6 : no6 c) : ∀ l : Launch, gM Y l yX6_scanRelation cX6_scanRelation 3 none (1, 22) [.ref (Y.2.1 (5)), .int (nI c)] G (qv (fun G' => G' = sW G 5 (sc3 (G.1 5) (nI (i + (sgF c (eqB (tB G) n i)).2.2 - 1)) (nI (sgF c (eqB (tB G) n i)).1) (nI (sgF c (eqB (tB G) n i)).2.1)))) := by
  intro l
  refine gM_of hY rfl (Nat.le_of_ble_eq_true rfl) [some (.ref (Y.2.1 (5))), some (.int (nI c)), none] rfl rfl ?_
  rintro Z rfl C
  have hn20 := hT.2.1
  refine r_aload0 (pc := 0) C dX6_scanRelation_0 ?_
  refine gX6_15 (pc := 1) C dX6_scanRelation_1 ?_
  refine r_eqi hn1 ?_
  refine r_aload0 (pc := 4) C dX6_scanRelation_4 ?_
  refine gX6_9 (pc := 5) C dX6_scanRelation_5 ?_
  refine gX6_19 (pc := 8) C dX6_scanRelation_8 ?_
  refine r_eqi hT.1 ?_
  refine r_icmp_ge (pc := 11) 35 C dX6_scanRelation_11 (by decide) (fun c11 => ?_) (fun c11 => ?_)
  · have hge : n ≤ i := (nI_leI (by omega) (by omega)).mp c11
    refine r_iconst (pc := 35) (v := nI 0) C dX6_scanRelation_35 (by decide) ?_
    have heq : eqB (tB G) n i = false := decide_eq_false (fun h => absurd h.1 (by omega))
    refine r_istore2 (pc := 36) C dX6_scanRelation_36 rfl ?_
    refine r_iload1 (pc := 37) C dX6_scanRelation_37 ?_
    refine r_bipush (pc := 38) (v := nI 60) C dX6_scanRelation_38 (by decide) ?_
    refine r_icmp_ne (pc := 40) 62 C dX6_scanRelation_40 (by decide) (fun c40 => ?_) (fun c40 => ?_)
    · have d40 : c ≠ 60 := fun e => c40 (by rw [e])
      refine r_iload2 (pc := 62) C dX6_scanRelation_62 ?_
      refine r_if_eq (pc := 63) 98 C dX6_scanRelation_63 (by decide) (fun c63 => ?_) (fun c63 => ?_)
      rotate_left
      · exact absurd c63 (by decide)
      refine r_aload0 (pc := 98) C dX6_scanRelation_98 ?_
      refine r_iconst (pc := 99) (v := nI 1) C dX6_scanRelation_99 (by decide) ?_
      refine pX6_38 (pc := 100) C dX6_scanRelation_100 ?_
      exact r_return (pc := 103) C dX6_scanRelation_103 (by
  have hs : (sgF c (eqB (tB G) n i)) = (1, 0, 1) := by rw [sgF_no h6, if_neg d40, heq, if_neg (by rintro ⟨h, -⟩; cases h), if_neg (by rintro ⟨h, -⟩; cases h)]
  rw [hs]
  show _ = sW G 5 (sc3 (G.1 5) (nI i) (nI 1) (nI 0))
  simp only [sI0, sW_s, sW_W, sc3, nI_add, Nat.add_sub_cancel]
  all_goals
    congr 1
    funext q
    simp only [upd]
    by_cases q4 : q = 4
    · simp [q4]; exact hv0
    · by_cases q1 : q = 1
      · simp [q1]; exact hn1
      · by_cases q3 : q = 3
        · simp [q3]
        · by_cases q2 : q = 2
          · simp [q2]
          · simp [q4, q1, q3, q2])
    · have d40 : c = 60 := (nI_eq (by omega) (by decide)).mp c40
      refine r_aload0 (pc := 43) C dX6_scanRelation_43 ?_
      refine r_bipush (pc := 44) (v := nI 8) C dX6_scanRelation_44 (by decide) ?_
      refine r_iload2 (pc := 46) C dX6_scanRelation_46 ?_
      refine r_if_eq (pc := 47) 55 C dX6_scanRelation_47 (by decide) (fun c47 => ?_) (fun c47 => ?_)
      rotate_left
      · exact absurd c47 (by decide)
      refine r_iconst (pc := 55) (v := nI 5) C dX6_scanRelation_55 (by decide) ?_
      refine r_callVv (pc := 56) C rfl dX6_scanRelation_56 kX6_66 gF6 jC5 (tX6_set Z.1 C.w) rfl rfl (Nat.le_of_ble_eq_true rfl) (by decide) (fun G56 h56 => ?_)
      subst h56
      refine r_goto (pc := 59) 104 C dX6_scanRelation_59 (by decide) ?_
      refine r_iload2 (pc := 104) C dX6_scanRelation_104 ?_
      refine r_if_eq (pc := 105) 118 C dX6_scanRelation_105 (by decide) (fun c105 => ?_) (fun c105 => ?_)
      rotate_left
      · exact absurd c105 (by decide)
      exact r_return (pc := 118) C dX6_scanRelation_118 (by
  have hs : (sgF c (eqB (tB G) n i)) = (8, 5, 1) := by rw [sgF_no h6, if_pos d40, heq, if_neg (by decide)]
  rw [hs]
  show _ = sW G 5 (sc3 (G.1 5) (nI i) (nI 8) (nI 5))
  simp only [sI0, sW_s, sW_W, sc3, nI_add, Nat.add_sub_cancel]
  all_goals
    congr 1
    funext q
    simp only [upd]
    by_cases q4 : q = 4
    · simp [q4]
    · by_cases q1 : q = 1
      · simp [q1]; exact hn1
      · by_cases q3 : q = 3
        · simp [q3]
        · by_cases q2 : q = 2
          · simp [q2]
          · simp [q4, q1, q3, q2])
  · have hlt : i < n := by
      rcases Nat.lt_or_ge i n with h | h
      · exact h
      · exact absurd (nI_le h (by omega)) c11
    obtain ⟨b1, b2⟩ := hT.2.2 i hlt
    refine r_aload0 (pc := 14) C dX6_scanRelation_14 ?_
    refine gX6_9 (pc := 15) C dX6_scanRelation_15 ?_
    refine gX6_24 (pc := 18) C dX6_scanRelation_18 ?_
    refine r_aload0 (pc := 21) C dX6_scanRelation_21 ?_
    refine gX6_15 (pc := 22) C dX6_scanRelation_22 ?_
    refine r_eqi hn1 ?_
    refine r_iald (pc := 25) (_) C dX6_scanRelation_25 aC2 (rfl) (by omega) ?_
    refine r_eqi b1 ?_
    refine r_bipush (pc := 26) (v := nI 61) C dX6_scanRelation_26 (by decide) ?_
    refine r_icmp_ne (pc := 28) 35 C dX6_scanRelation_28 (by decide) (fun c28 => ?_) (fun c28 => ?_)
    · refine r_iconst (pc := 35) (v := nI 0) C dX6_scanRelation_35 (by decide) ?_
      have heq : eqB (tB G) n i = false := decide_eq_false (fun h => c28 (by rw [h.2]))
      refine r_istore2 (pc := 36) C dX6_scanRelation_36 rfl ?_
      refine r_iload1 (pc := 37) C dX6_scanRelation_37 ?_
      refine r_bipush (pc := 38) (v := nI 60) C dX6_scanRelation_38 (by decide) ?_
      refine r_icmp_ne (pc := 40) 62 C dX6_scanRelation_40 (by decide) (fun c40 => ?_) (fun c40 => ?_)
      · have d40 : c ≠ 60 := fun e => c40 (by rw [e])
        refine r_iload2 (pc := 62) C dX6_scanRelation_62 ?_
        refine r_if_eq (pc := 63) 98 C dX6_scanRelation_63 (by decide) (fun c63 => ?_) (fun c63 => ?_)
        rotate_left
        · exact absurd c63 (by decide)
        refine r_aload0 (pc := 98) C dX6_scanRelation_98 ?_
        refine r_iconst (pc := 99) (v := nI 1) C dX6_scanRelation_99 (by decide) ?_
        refine pX6_38 (pc := 100) C dX6_scanRelation_100 ?_
        exact r_return (pc := 103) C dX6_scanRelation_103 (by
  have hs : (sgF c (eqB (tB G) n i)) = (1, 0, 1) := by rw [sgF_no h6, if_neg d40, heq, if_neg (by rintro ⟨h, -⟩; cases h), if_neg (by rintro ⟨h, -⟩; cases h)]
  rw [hs]
  show _ = sW G 5 (sc3 (G.1 5) (nI i) (nI 1) (nI 0))
  simp only [sI0, sW_s, sW_W, sc3, nI_add, Nat.add_sub_cancel]
  all_goals
    congr 1
    funext q
    simp only [upd]
    by_cases q4 : q = 4
    · simp [q4]; exact hv0
    · by_cases q1 : q = 1
      · simp [q1]; exact hn1
      · by_cases q3 : q = 3
        · simp [q3]
        · by_cases q2 : q = 2
          · simp [q2]
          · simp [q4, q1, q3, q2])
      · have d40 : c = 60 := (nI_eq (by omega) (by decide)).mp c40
        refine r_aload0 (pc := 43) C dX6_scanRelation_43 ?_
        refine r_bipush (pc := 44) (v := nI 8) C dX6_scanRelation_44 (by decide) ?_
        refine r_iload2 (pc := 46) C dX6_scanRelation_46 ?_
        refine r_if_eq (pc := 47) 55 C dX6_scanRelation_47 (by decide) (fun c47 => ?_) (fun c47 => ?_)
        rotate_left
        · exact absurd c47 (by decide)
        refine r_iconst (pc := 55) (v := nI 5) C dX6_scanRelation_55 (by decide) ?_
        refine r_callVv (pc := 56) C rfl dX6_scanRelation_56 kX6_66 gF6 jC5 (tX6_set Z.1 C.w) rfl rfl (Nat.le_of_ble_eq_true rfl) (by decide) (fun G56 h56 => ?_)
        subst h56
        refine r_goto (pc := 59) 104 C dX6_scanRelation_59 (by decide) ?_
        refine r_iload2 (pc := 104) C dX6_scanRelation_104 ?_
        refine r_if_eq (pc := 105) 118 C dX6_scanRelation_105 (by decide) (fun c105 => ?_) (fun c105 => ?_)
        rotate_left
        · exact absurd c105 (by decide)
        exact r_return (pc := 118) C dX6_scanRelation_118 (by
  have hs : (sgF c (eqB (tB G) n i)) = (8, 5, 1) := by rw [sgF_no h6, if_pos d40, heq, if_neg (by decide)]
  rw [hs]
  show _ = sW G 5 (sc3 (G.1 5) (nI i) (nI 8) (nI 5))
  simp only [sI0, sW_s, sW_W, sc3, nI_add, Nat.add_sub_cancel]
  all_goals
    congr 1
    funext q
    simp only [upd]
    by_cases q4 : q = 4
    · simp [q4]
    · by_cases q1 : q = 1
      · simp [q1]; exact hn1
      · by_cases q3 : q = 3
        · simp [q3]
        · by_cases q2 : q = 2
          · simp [q2]
          · simp [q4, q1, q3, q2])
    · refine r_iconst (pc := 31) (v := nI 1) C dX6_scanRelation_31 (by decide) ?_
      refine r_goto (pc := 32) 36 C dX6_scanRelation_32 (by decide) ?_
      have heq : eqB (tB G) n i = true := decide_eq_true ⟨hlt, (nI_eq (by omega) (by decide)).mp c28⟩
      refine r_istore2 (pc := 36) C dX6_scanRelation_36 rfl ?_
      refine r_iload1 (pc := 37) C dX6_scanRelation_37 ?_
      refine r_bipush (pc := 38) (v := nI 60) C dX6_scanRelation_38 (by decide) ?_
      refine r_icmp_ne (pc := 40) 62 C dX6_scanRelation_40 (by decide) (fun c40 => ?_) (fun c40 => ?_)
      · have d40 : c ≠ 60 := fun e => c40 (by rw [e])
        refine r_iload2 (pc := 62) C dX6_scanRelation_62 ?_
        refine r_if_eq (pc := 63) 98 C dX6_scanRelation_63 (by decide) (fun c63 => ?_) (fun c63 => ?_)
        · exact absurd c63 (by decide)
        refine r_iload1 (pc := 66) C dX6_scanRelation_66 ?_
        refine r_bipush (pc := 67) (v := nI 61) C dX6_scanRelation_67 (by decide) ?_
        refine r_icmp_eq (pc := 69) 78 C dX6_scanRelation_69 (by decide) (fun c69 => ?_) (fun c69 => ?_)
        · have d69 : c = 61 := (nI_eq (by omega) (by decide)).mp c69
          refine r_aload0 (pc := 78) C dX6_scanRelation_78 ?_
          refine r_bipush (pc := 79) (v := nI 8) C dX6_scanRelation_79 (by decide) ?_
          refine r_iload1 (pc := 81) C dX6_scanRelation_81 ?_
          refine r_bipush (pc := 82) (v := nI 61) C dX6_scanRelation_82 (by decide) ?_
          refine r_icmp_ne (pc := 84) 91 C dX6_scanRelation_84 (by decide) (fun c84 => ?_) (fun c84 => ?_)
          · exact absurd c84 (by rw [d69]; decide)
          refine r_iconst (pc := 87) (v := nI 3) C dX6_scanRelation_87 (by decide) ?_
          refine r_goto (pc := 88) 92 C dX6_scanRelation_88 (by decide) ?_
          refine r_callVv (pc := 92) C rfl dX6_scanRelation_92 kX6_66 gF6 jC5 (tX6_set Z.1 C.w) rfl rfl (Nat.le_of_ble_eq_true rfl) (by decide) (fun G92 h92 => ?_)
          subst h92
          refine r_goto (pc := 95) 104 C dX6_scanRelation_95 (by decide) ?_
          refine r_iload2 (pc := 104) C dX6_scanRelation_104 ?_
          refine r_if_eq (pc := 105) 118 C dX6_scanRelation_105 (by decide) (fun c105 => ?_) (fun c105 => ?_)
          · exact absurd c105 (by decide)
          refine r_aload0 (pc := 108) C dX6_scanRelation_108 ?_
          refine r_dup (pc := 109) C dX6_scanRelation_109 rfl ?_
          refine gX6_15 (pc := 110) C dX6_scanRelation_110 ?_
          refine r_eqi (y := nI i) (by rw [sW_s, upd_o (by decide), upd_o (by decide)]; exact hn1) ?_
          refine r_iconst (pc := 113) (v := nI 1) C dX6_scanRelation_113 (by decide) ?_
          refine r_iadd (pc := 114) C dX6_scanRelation_114 ?_
          refine pX6_15 (pc := 115) C dX6_scanRelation_115 ?_
          exact r_return (pc := 118) C dX6_scanRelation_118 (by
  have hs : (sgF c (eqB (tB G) n i)) = (8, 3, 2) := by rw [sgF_no h6, if_neg d40, heq, if_pos ⟨rfl, d69⟩]
  rw [hs]
  show _ = sW G 5 (sc3 (G.1 5) (nI (i + 1)) (nI 8) (nI 3))
  simp only [sI0, sW_s, sW_W, sc3, nI_add, Nat.add_sub_cancel]
  all_goals
    congr 1
    funext q
    simp only [upd]
    by_cases q4 : q = 4
    · simp [q4]
    · by_cases q1 : q = 1
      · simp [q1]
      · by_cases q3 : q = 3
        · simp [q3]
        · by_cases q2 : q = 2
          · simp [q2]
          · simp [q4, q1, q3, q2])
        · have d69 : c ≠ 61 := fun e => c69 (by rw [e])
          refine r_iload1 (pc := 72) C dX6_scanRelation_72 ?_
          refine r_bipush (pc := 73) (v := nI 33) C dX6_scanRelation_73 (by decide) ?_
          refine r_icmp_ne (pc := 75) 98 C dX6_scanRelation_75 (by decide) (fun c75 => ?_) (fun c75 => ?_)
          · have d75 : c ≠ 33 := fun e => c75 (by rw [e])
            refine r_aload0 (pc := 98) C dX6_scanRelation_98 ?_
            refine r_iconst (pc := 99) (v := nI 1) C dX6_scanRelation_99 (by decide) ?_
            refine pX6_38 (pc := 100) C dX6_scanRelation_100 ?_
            exact r_return (pc := 103) C dX6_scanRelation_103 (by
  have hs : (sgF c (eqB (tB G) n i)) = (1, 0, 1) := by rw [sgF_no h6, if_neg d40, heq, if_neg (fun h => d69 h.2), if_neg (fun h => d75 h.2)]
  rw [hs]
  show _ = sW G 5 (sc3 (G.1 5) (nI i) (nI 1) (nI 0))
  simp only [sI0, sW_s, sW_W, sc3, nI_add, Nat.add_sub_cancel]
  all_goals
    congr 1
    funext q
    simp only [upd]
    by_cases q4 : q = 4
    · simp [q4]; exact hv0
    · by_cases q1 : q = 1
      · simp [q1]; exact hn1
      · by_cases q3 : q = 3
        · simp [q3]
        · by_cases q2 : q = 2
          · simp [q2]
          · simp [q4, q1, q3, q2])
          · have d75 : c = 33 := (nI_eq (by omega) (by decide)).mp c75
            refine r_aload0 (pc := 78) C dX6_scanRelation_78 ?_
            refine r_bipush (pc := 79) (v := nI 8) C dX6_scanRelation_79 (by decide) ?_
            refine r_iload1 (pc := 81) C dX6_scanRelation_81 ?_
            refine r_bipush (pc := 82) (v := nI 61) C dX6_scanRelation_82 (by decide) ?_
            refine r_icmp_ne (pc := 84) 91 C dX6_scanRelation_84 (by decide) (fun c84 => ?_) (fun c84 => ?_)
            rotate_left
            · exact absurd c84 (by rw [d75]; decide)
            refine r_iconst (pc := 91) (v := nI 4) C dX6_scanRelation_91 (by decide) ?_
            refine r_callVv (pc := 92) C rfl dX6_scanRelation_92 kX6_66 gF6 jC5 (tX6_set Z.1 C.w) rfl rfl (Nat.le_of_ble_eq_true rfl) (by decide) (fun G92 h92 => ?_)
            subst h92
            refine r_goto (pc := 95) 104 C dX6_scanRelation_95 (by decide) ?_
            refine r_iload2 (pc := 104) C dX6_scanRelation_104 ?_
            refine r_if_eq (pc := 105) 118 C dX6_scanRelation_105 (by decide) (fun c105 => ?_) (fun c105 => ?_)
            · exact absurd c105 (by decide)
            refine r_aload0 (pc := 108) C dX6_scanRelation_108 ?_
            refine r_dup (pc := 109) C dX6_scanRelation_109 rfl ?_
            refine gX6_15 (pc := 110) C dX6_scanRelation_110 ?_
            refine r_eqi (y := nI i) (by rw [sW_s, upd_o (by decide), upd_o (by decide)]; exact hn1) ?_
            refine r_iconst (pc := 113) (v := nI 1) C dX6_scanRelation_113 (by decide) ?_
            refine r_iadd (pc := 114) C dX6_scanRelation_114 ?_
            refine pX6_15 (pc := 115) C dX6_scanRelation_115 ?_
            exact r_return (pc := 118) C dX6_scanRelation_118 (by
  have hs : (sgF c (eqB (tB G) n i)) = (8, 4, 2) := by rw [sgF_no h6, if_neg d40, heq, if_neg (fun h => d69 h.2), if_pos ⟨rfl, d75⟩]
  rw [hs]
  show _ = sW G 5 (sc3 (G.1 5) (nI (i + 1)) (nI 8) (nI 4))
  simp only [sI0, sW_s, sW_W, sc3, nI_add, Nat.add_sub_cancel]
  all_goals
    congr 1
    funext q
    simp only [upd]
    by_cases q4 : q = 4
    · simp [q4]
    · by_cases q1 : q = 1
      · simp [q1]
      · by_cases q3 : q = 3
        · simp [q3]
        · by_cases q2 : q = 2
          · simp [q2]
          · simp [q4, q1, q3, q2])
      · have d40 : c = 60 := (nI_eq (by omega) (by decide)).mp c40
        refine r_aload0 (pc := 43) C dX6_scanRelation_43 ?_
        refine r_bipush (pc := 44) (v := nI 8) C dX6_scanRelation_44 (by decide) ?_
        refine r_iload2 (pc := 46) C dX6_scanRelation_46 ?_
        refine r_if_eq (pc := 47) 55 C dX6_scanRelation_47 (by decide) (fun c47 => ?_) (fun c47 => ?_)
        · exact absurd c47 (by decide)
        refine r_bipush (pc := 50) (v := nI 6) C dX6_scanRelation_50 (by decide) ?_
        refine r_goto (pc := 52) 56 C dX6_scanRelation_52 (by decide) ?_
        refine r_callVv (pc := 56) C rfl dX6_scanRelation_56 kX6_66 gF6 jC5 (tX6_set Z.1 C.w) rfl rfl (Nat.le_of_ble_eq_true rfl) (by decide) (fun G56 h56 => ?_)
        subst h56
        refine r_goto (pc := 59) 104 C dX6_scanRelation_59 (by decide) ?_
        refine r_iload2 (pc := 104) C dX6_scanRelation_104 ?_
        refine r_if_eq (pc := 105) 118 C dX6_scanRelation_105 (by decide) (fun c105 => ?_) (fun c105 => ?_)
        · exact absurd c105 (by decide)
        refine r_aload0 (pc := 108) C dX6_scanRelation_108 ?_
        refine r_dup (pc := 109) C dX6_scanRelation_109 rfl ?_
        refine gX6_15 (pc := 110) C dX6_scanRelation_110 ?_
        refine r_eqi (y := nI i) (by rw [sW_s, upd_o (by decide), upd_o (by decide)]; exact hn1) ?_
        refine r_iconst (pc := 113) (v := nI 1) C dX6_scanRelation_113 (by decide) ?_
        refine r_iadd (pc := 114) C dX6_scanRelation_114 ?_
        refine pX6_15 (pc := 115) C dX6_scanRelation_115 ?_
        exact r_return (pc := 118) C dX6_scanRelation_118 (by
  have hs : (sgF c (eqB (tB G) n i)) = (8, 6, 2) := by rw [sgF_no h6, if_pos d40, heq, if_pos rfl]
  rw [hs]
  show _ = sW G 5 (sc3 (G.1 5) (nI (i + 1)) (nI 8) (nI 6))
  simp only [sI0, sW_s, sW_W, sc3, nI_add, Nat.add_sub_cancel]
  all_goals
    congr 1
    funext q
    simp only [upd]
    by_cases q4 : q = 4
    · simp [q4]
    · by_cases q1 : q = 1
      · simp [q1]
      · by_cases q3 : q = 3
        · simp [q3]
        · by_cases q2 : q = 2
          · simp [q2]
          · simp [q4, q1, q3, q2])
set_option maxHeartbeats 4000000 in
set_option maxRecDepth 100000 in
theorem tX6_scanSign (Y : gY) (hY : Y.2.2.2 = wC) {G : gS} {n i : Nat} (hT : tapeOk G n) (hi : i < n) (hn1 : G.1 5 1 = nI i) (hv0 : G.1 5 4 = nI 0) : ∀ l : Launch, gM Y l yX6_scanSign cX6_scanSign 2 none (2, 44) [.ref (Y.2.1 (5))] G (qv (fun G' => G' = sW G 5 (sc3 (G.1 5) (nI (i + (sgF (tB G i) (eqB (tB G) n (i + 1))).2.2)) (nI (sgF (tB G i) (eqB (tB G) n (i + 1))).1) (nI (sgF (tB G i) (eqB (tB G) n (i + 1))).2.1)))) := by
  intro l
  refine gM_of hY rfl (Nat.le_of_ble_eq_true rfl) [some (.ref (Y.2.1 (5))), none] rfl rfl ?_
  rintro Z rfl C
  have hn20 := hT.2.1
  obtain ⟨b1, b2⟩ := hT.2.2 i hi
  refine r_aload0 (pc := 0) C dX6_scanSign_0 ?_
  refine gX6_9 (pc := 1) C dX6_scanSign_1 ?_
  refine gX6_24 (pc := 4) C dX6_scanSign_4 ?_
  refine r_aload0 (pc := 7) C dX6_scanSign_7 ?_
  refine gX6_15 (pc := 8) C dX6_scanSign_8 ?_
  refine r_eqi hn1 ?_
  refine r_iald (pc := 11) (_) C dX6_scanSign_11 aC2 (rfl) (by omega) ?_
  refine r_eqi b1 ?_
  refine r_istore1 (pc := 12) C dX6_scanSign_12 rfl ?_
  refine r_aload0 (pc := 13) C dX6_scanSign_13 ?_
  refine r_dup (pc := 14) C dX6_scanSign_14 rfl ?_
  refine gX6_15 (pc := 15) C dX6_scanSign_15 ?_
  refine r_eqi hn1 ?_
  refine r_iconst (pc := 18) (v := nI 1) C dX6_scanSign_18 (by decide) ?_
  refine r_iadd (pc := 19) C dX6_scanSign_19 ?_
  refine r_eqi (nI_add i 1) ?_
  refine pX6_15 (pc := 20) C dX6_scanSign_20 ?_
  refine r_G (sI0 G 5 1 (nI (i + 1))) ?_
  refine r_iload1 (pc := 23) C dX6_scanSign_23 ?_
  by_cases s24_40 : nI (tB G i) = nI 40
  · refine r_eqi s24_40 ?_
    refine r_tableIn (pc := 24) 129 C dX6_scanSign_24 (by decide) (by decide) (off := 105) rfl (by decide) ?_
    have hcv : tB G i = 40 := (nI_eq (by omega) (by decide)).mp s24_40
    refine r_aload0 (pc := 129) C dX6_scanSign_129 ?_
    refine r_bipush (pc := 130) (v := nI 10) C dX6_scanSign_130 (by decide) ?_
    refine pX6_38 (pc := 132) C dX6_scanSign_132 ?_
    refine r_goto (pc := 135) 185 C dX6_scanSign_135 (by decide) ?_
    exact r_return (pc := 185) C dX6_scanSign_185 (by
  have hs : (sgF (tB G i) (eqB (tB G) n (i + 1))) = (10, 0, 1) := by rw [hcv]; rfl
  rw [hs]
  show _ = sW G 5 (sc3 (G.1 5) (nI (i + 1)) (nI 10) (nI 0))
  simp only [sI0, sW_s, sW_W, sc3]
  all_goals
    congr 1
    funext q
    simp only [upd]
    by_cases q4 : q = 4
    · simp [q4]; exact hv0
    · by_cases q1 : q = 1
      · simp [q1]
      · by_cases q3 : q = 3
        · simp [q3]
        · by_cases q2 : q = 2
          · simp [q2]
          · simp [q4, q1, q3, q2])
  by_cases s24_41 : nI (tB G i) = nI 41
  · refine r_eqi s24_41 ?_
    refine r_tableIn (pc := 24) 138 C dX6_scanSign_24 (by decide) (by decide) (off := 114) rfl (by decide) ?_
    have hcv : tB G i = 41 := (nI_eq (by omega) (by decide)).mp s24_41
    refine r_aload0 (pc := 138) C dX6_scanSign_138 ?_
    refine r_bipush (pc := 139) (v := nI 11) C dX6_scanSign_139 (by decide) ?_
    refine pX6_38 (pc := 141) C dX6_scanSign_141 ?_
    refine r_goto (pc := 144) 185 C dX6_scanSign_144 (by decide) ?_
    exact r_return (pc := 185) C dX6_scanSign_185 (by
  have hs : (sgF (tB G i) (eqB (tB G) n (i + 1))) = (11, 0, 1) := by rw [hcv]; rfl
  rw [hs]
  show _ = sW G 5 (sc3 (G.1 5) (nI (i + 1)) (nI 11) (nI 0))
  simp only [sI0, sW_s, sW_W, sc3]
  all_goals
    congr 1
    funext q
    simp only [upd]
    by_cases q4 : q = 4
    · simp [q4]; exact hv0
    · by_cases q1 : q = 1
      · simp [q1]
      · by_cases q3 : q = 3
        · simp [q3]
        · by_cases q2 : q = 2
          · simp [q2]
          · simp [q4, q1, q3, q2])
  by_cases s24_42 : nI (tB G i) = nI 42
  · refine r_eqi s24_42 ?_
    refine r_tableIn (pc := 24) 169 C dX6_scanSign_24 (by decide) (by decide) (off := 145) rfl (by decide) ?_
    have hcv : tB G i = 42 := (nI_eq (by omega) (by decide)).mp s24_42
    refine r_aload0 (pc := 169) C dX6_scanSign_169 ?_
    refine r_bipush (pc := 170) (v := nI 9) C dX6_scanSign_170 (by decide) ?_
    refine r_bipush (pc := 172) (v := nI 9) C dX6_scanSign_172 (by decide) ?_
    refine r_callVv (pc := 174) C rfl dX6_scanSign_174 kX6_66 gF6 jC5 (tX6_set Z.1 C.w) rfl rfl (Nat.le_of_ble_eq_true rfl) (by decide) (fun G174 h174 => ?_)
    subst h174
    refine r_goto (pc := 177) 185 C dX6_scanSign_177 (by decide) ?_
    exact r_return (pc := 185) C dX6_scanSign_185 (by
  have hs : (sgF (tB G i) (eqB (tB G) n (i + 1))) = (9, 9, 1) := by rw [hcv]; rfl
  rw [hs]
  show _ = sW G 5 (sc3 (G.1 5) (nI (i + 1)) (nI 9) (nI 9))
  simp only [sI0, sW_s, sW_W, sc3]
  all_goals
    congr 1
    funext q
    simp only [upd]
    by_cases q4 : q = 4
    · simp [q4]
    · by_cases q1 : q = 1
      · simp [q1]
      · by_cases q3 : q = 3
        · simp [q3]
        · by_cases q2 : q = 2
          · simp [q2]
          · simp [q4, q1, q3, q2])
  by_cases s24_43 : nI (tB G i) = nI 43
  · refine r_eqi s24_43 ?_
    refine r_tableIn (pc := 24) 147 C dX6_scanSign_24 (by decide) (by decide) (off := 123) rfl (by decide) ?_
    have hcv : tB G i = 43 := (nI_eq (by omega) (by decide)).mp s24_43
    refine r_aload0 (pc := 147) C dX6_scanSign_147 ?_
    refine r_bipush (pc := 148) (v := nI 9) C dX6_scanSign_148 (by decide) ?_
    refine r_bipush (pc := 150) (v := nI 7) C dX6_scanSign_150 (by decide) ?_
    refine r_callVv (pc := 152) C rfl dX6_scanSign_152 kX6_66 gF6 jC5 (tX6_set Z.1 C.w) rfl rfl (Nat.le_of_ble_eq_true rfl) (by decide) (fun G152 h152 => ?_)
    subst h152
    refine r_goto (pc := 155) 185 C dX6_scanSign_155 (by decide) ?_
    exact r_return (pc := 185) C dX6_scanSign_185 (by
  have hs : (sgF (tB G i) (eqB (tB G) n (i + 1))) = (9, 7, 1) := by rw [hcv]; rfl
  rw [hs]
  show _ = sW G 5 (sc3 (G.1 5) (nI (i + 1)) (nI 9) (nI 7))
  simp only [sI0, sW_s, sW_W, sc3]
  all_goals
    congr 1
    funext q
    simp only [upd]
    by_cases q4 : q = 4
    · simp [q4]
    · by_cases q1 : q = 1
      · simp [q1]
      · by_cases q3 : q = 3
        · simp [q3]
        · by_cases q2 : q = 2
          · simp [q2]
          · simp [q4, q1, q3, q2])
  by_cases s24_44 : nI (tB G i) = nI 44
  · refine r_eqi s24_44 ?_
    refine r_tableIn (pc := 24) 180 C dX6_scanSign_24 (by decide) (by decide) (off := 156) rfl (by decide) ?_
    have hcv : tB G i = 44 := (nI_eq (by omega) (by decide)).mp s24_44
    refine r_aload0 (pc := 180) C dX6_scanSign_180 ?_
    refine r_iload1 (pc := 181) C dX6_scanSign_181 ?_
    refine r_callVv (pc := 182) C rfl dX6_scanSign_182 kX6_70 gF6 jC5 (tX6_scanRelation Z.1 C.w (n := n) (i := i + 1) (c := tB G i) hT (by omega) (by rw [sW_s, upd_s]) (by rw [sW_s, upd_o (by decide)]; exact hv0) b2 ⟨by omega, by omega, by omega, by omega, by omega, by omega⟩) rfl rfl (Nat.le_of_ble_eq_true rfl) (by decide) (fun G182 h182 => ?_)
    exact r_return (pc := 185) C dX6_scanSign_185 (by
  rw [h182]
  have hl := sgF_len (c := tB G i) (eq := eqB (tB G) n (i + 1))
  have e1 : i + 1 + (sgF (tB G i) (eqB (tB G) n (i + 1))).2.2 - 1 = i + (sgF (tB G i) (eqB (tB G) n (i + 1))).2.2 := by omega
  rw [sW_s, sW_W, show tB (sW G 5 (upd (G.1 5) 1 (nI (i + 1)))) = tB G from rfl, e1]
  simp only [sc3, upd_u])
  by_cases s24_45 : nI (tB G i) = nI 45
  · refine r_eqi s24_45 ?_
    refine r_tableIn (pc := 24) 158 C dX6_scanSign_24 (by decide) (by decide) (off := 134) rfl (by decide) ?_
    have hcv : tB G i = 45 := (nI_eq (by omega) (by decide)).mp s24_45
    refine r_aload0 (pc := 158) C dX6_scanSign_158 ?_
    refine r_bipush (pc := 159) (v := nI 9) C dX6_scanSign_159 (by decide) ?_
    refine r_bipush (pc := 161) (v := nI 8) C dX6_scanSign_161 (by decide) ?_
    refine r_callVv (pc := 163) C rfl dX6_scanSign_163 kX6_66 gF6 jC5 (tX6_set Z.1 C.w) rfl rfl (Nat.le_of_ble_eq_true rfl) (by decide) (fun G163 h163 => ?_)
    subst h163
    refine r_goto (pc := 166) 185 C dX6_scanSign_166 (by decide) ?_
    exact r_return (pc := 185) C dX6_scanSign_185 (by
  have hs : (sgF (tB G i) (eqB (tB G) n (i + 1))) = (9, 8, 1) := by rw [hcv]; rfl
  rw [hs]
  show _ = sW G 5 (sc3 (G.1 5) (nI (i + 1)) (nI 9) (nI 8))
  simp only [sI0, sW_s, sW_W, sc3]
  all_goals
    congr 1
    funext q
    simp only [upd]
    by_cases q4 : q = 4
    · simp [q4]
    · by_cases q1 : q = 1
      · simp [q1]
      · by_cases q3 : q = 3
        · simp [q3]
        · by_cases q2 : q = 2
          · simp [q2]
          · simp [q4, q1, q3, q2])
  by_cases s24_46 : nI (tB G i) = nI 46
  · refine r_eqi s24_46 ?_
    refine r_tableIn (pc := 24) 180 C dX6_scanSign_24 (by decide) (by decide) (off := 156) rfl (by decide) ?_
    have hcv : tB G i = 46 := (nI_eq (by omega) (by decide)).mp s24_46
    refine r_aload0 (pc := 180) C dX6_scanSign_180 ?_
    refine r_iload1 (pc := 181) C dX6_scanSign_181 ?_
    refine r_callVv (pc := 182) C rfl dX6_scanSign_182 kX6_70 gF6 jC5 (tX6_scanRelation Z.1 C.w (n := n) (i := i + 1) (c := tB G i) hT (by omega) (by rw [sW_s, upd_s]) (by rw [sW_s, upd_o (by decide)]; exact hv0) b2 ⟨by omega, by omega, by omega, by omega, by omega, by omega⟩) rfl rfl (Nat.le_of_ble_eq_true rfl) (by decide) (fun G182 h182 => ?_)
    exact r_return (pc := 185) C dX6_scanSign_185 (by
  rw [h182]
  have hl := sgF_len (c := tB G i) (eq := eqB (tB G) n (i + 1))
  have e1 : i + 1 + (sgF (tB G i) (eqB (tB G) n (i + 1))).2.2 - 1 = i + (sgF (tB G i) (eqB (tB G) n (i + 1))).2.2 := by omega
  rw [sW_s, sW_W, show tB (sW G 5 (upd (G.1 5) 1 (nI (i + 1)))) = tB G from rfl, e1]
  simp only [sc3, upd_u])
  by_cases s24_47 : nI (tB G i) = nI 47
  · refine r_eqi s24_47 ?_
    refine r_tableIn (pc := 24) 180 C dX6_scanSign_24 (by decide) (by decide) (off := 156) rfl (by decide) ?_
    have hcv : tB G i = 47 := (nI_eq (by omega) (by decide)).mp s24_47
    refine r_aload0 (pc := 180) C dX6_scanSign_180 ?_
    refine r_iload1 (pc := 181) C dX6_scanSign_181 ?_
    refine r_callVv (pc := 182) C rfl dX6_scanSign_182 kX6_70 gF6 jC5 (tX6_scanRelation Z.1 C.w (n := n) (i := i + 1) (c := tB G i) hT (by omega) (by rw [sW_s, upd_s]) (by rw [sW_s, upd_o (by decide)]; exact hv0) b2 ⟨by omega, by omega, by omega, by omega, by omega, by omega⟩) rfl rfl (Nat.le_of_ble_eq_true rfl) (by decide) (fun G182 h182 => ?_)
    exact r_return (pc := 185) C dX6_scanSign_185 (by
  rw [h182]
  have hl := sgF_len (c := tB G i) (eq := eqB (tB G) n (i + 1))
  have e1 : i + 1 + (sgF (tB G i) (eqB (tB G) n (i + 1))).2.2 - 1 = i + (sgF (tB G i) (eqB (tB G) n (i + 1))).2.2 := by omega
  rw [sW_s, sW_W, show tB (sW G 5 (upd (G.1 5) 1 (nI (i + 1)))) = tB G from rfl, e1]
  simp only [sc3, upd_u])
  by_cases s24_48 : nI (tB G i) = nI 48
  · refine r_eqi s24_48 ?_
    refine r_tableIn (pc := 24) 180 C dX6_scanSign_24 (by decide) (by decide) (off := 156) rfl (by decide) ?_
    have hcv : tB G i = 48 := (nI_eq (by omega) (by decide)).mp s24_48
    refine r_aload0 (pc := 180) C dX6_scanSign_180 ?_
    refine r_iload1 (pc := 181) C dX6_scanSign_181 ?_
    refine r_callVv (pc := 182) C rfl dX6_scanSign_182 kX6_70 gF6 jC5 (tX6_scanRelation Z.1 C.w (n := n) (i := i + 1) (c := tB G i) hT (by omega) (by rw [sW_s, upd_s]) (by rw [sW_s, upd_o (by decide)]; exact hv0) b2 ⟨by omega, by omega, by omega, by omega, by omega, by omega⟩) rfl rfl (Nat.le_of_ble_eq_true rfl) (by decide) (fun G182 h182 => ?_)
    exact r_return (pc := 185) C dX6_scanSign_185 (by
  rw [h182]
  have hl := sgF_len (c := tB G i) (eq := eqB (tB G) n (i + 1))
  have e1 : i + 1 + (sgF (tB G i) (eqB (tB G) n (i + 1))).2.2 - 1 = i + (sgF (tB G i) (eqB (tB G) n (i + 1))).2.2 := by omega
  rw [sW_s, sW_W, show tB (sW G 5 (upd (G.1 5) 1 (nI (i + 1)))) = tB G from rfl, e1]
  simp only [sc3, upd_u])
  by_cases s24_49 : nI (tB G i) = nI 49
  · refine r_eqi s24_49 ?_
    refine r_tableIn (pc := 24) 180 C dX6_scanSign_24 (by decide) (by decide) (off := 156) rfl (by decide) ?_
    have hcv : tB G i = 49 := (nI_eq (by omega) (by decide)).mp s24_49
    refine r_aload0 (pc := 180) C dX6_scanSign_180 ?_
    refine r_iload1 (pc := 181) C dX6_scanSign_181 ?_
    refine r_callVv (pc := 182) C rfl dX6_scanSign_182 kX6_70 gF6 jC5 (tX6_scanRelation Z.1 C.w (n := n) (i := i + 1) (c := tB G i) hT (by omega) (by rw [sW_s, upd_s]) (by rw [sW_s, upd_o (by decide)]; exact hv0) b2 ⟨by omega, by omega, by omega, by omega, by omega, by omega⟩) rfl rfl (Nat.le_of_ble_eq_true rfl) (by decide) (fun G182 h182 => ?_)
    exact r_return (pc := 185) C dX6_scanSign_185 (by
  rw [h182]
  have hl := sgF_len (c := tB G i) (eq := eqB (tB G) n (i + 1))
  have e1 : i + 1 + (sgF (tB G i) (eqB (tB G) n (i + 1))).2.2 - 1 = i + (sgF (tB G i) (eqB (tB G) n (i + 1))).2.2 := by omega
  rw [sW_s, sW_W, show tB (sW G 5 (upd (G.1 5) 1 (nI (i + 1)))) = tB G from rfl, e1]
  simp only [sc3, upd_u])
  by_cases s24_50 : nI (tB G i) = nI 50
  · refine r_eqi s24_50 ?_
    refine r_tableIn (pc := 24) 180 C dX6_scanSign_24 (by decide) (by decide) (off := 156) rfl (by decide) ?_
    have hcv : tB G i = 50 := (nI_eq (by omega) (by decide)).mp s24_50
    refine r_aload0 (pc := 180) C dX6_scanSign_180 ?_
    refine r_iload1 (pc := 181) C dX6_scanSign_181 ?_
    refine r_callVv (pc := 182) C rfl dX6_scanSign_182 kX6_70 gF6 jC5 (tX6_scanRelation Z.1 C.w (n := n) (i := i + 1) (c := tB G i) hT (by omega) (by rw [sW_s, upd_s]) (by rw [sW_s, upd_o (by decide)]; exact hv0) b2 ⟨by omega, by omega, by omega, by omega, by omega, by omega⟩) rfl rfl (Nat.le_of_ble_eq_true rfl) (by decide) (fun G182 h182 => ?_)
    exact r_return (pc := 185) C dX6_scanSign_185 (by
  rw [h182]
  have hl := sgF_len (c := tB G i) (eq := eqB (tB G) n (i + 1))
  have e1 : i + 1 + (sgF (tB G i) (eqB (tB G) n (i + 1))).2.2 - 1 = i + (sgF (tB G i) (eqB (tB G) n (i + 1))).2.2 := by omega
  rw [sW_s, sW_W, show tB (sW G 5 (upd (G.1 5) 1 (nI (i + 1)))) = tB G from rfl, e1]
  simp only [sc3, upd_u])
  by_cases s24_51 : nI (tB G i) = nI 51
  · refine r_eqi s24_51 ?_
    refine r_tableIn (pc := 24) 180 C dX6_scanSign_24 (by decide) (by decide) (off := 156) rfl (by decide) ?_
    have hcv : tB G i = 51 := (nI_eq (by omega) (by decide)).mp s24_51
    refine r_aload0 (pc := 180) C dX6_scanSign_180 ?_
    refine r_iload1 (pc := 181) C dX6_scanSign_181 ?_
    refine r_callVv (pc := 182) C rfl dX6_scanSign_182 kX6_70 gF6 jC5 (tX6_scanRelation Z.1 C.w (n := n) (i := i + 1) (c := tB G i) hT (by omega) (by rw [sW_s, upd_s]) (by rw [sW_s, upd_o (by decide)]; exact hv0) b2 ⟨by omega, by omega, by omega, by omega, by omega, by omega⟩) rfl rfl (Nat.le_of_ble_eq_true rfl) (by decide) (fun G182 h182 => ?_)
    exact r_return (pc := 185) C dX6_scanSign_185 (by
  rw [h182]
  have hl := sgF_len (c := tB G i) (eq := eqB (tB G) n (i + 1))
  have e1 : i + 1 + (sgF (tB G i) (eqB (tB G) n (i + 1))).2.2 - 1 = i + (sgF (tB G i) (eqB (tB G) n (i + 1))).2.2 := by omega
  rw [sW_s, sW_W, show tB (sW G 5 (upd (G.1 5) 1 (nI (i + 1)))) = tB G from rfl, e1]
  simp only [sc3, upd_u])
  by_cases s24_52 : nI (tB G i) = nI 52
  · refine r_eqi s24_52 ?_
    refine r_tableIn (pc := 24) 180 C dX6_scanSign_24 (by decide) (by decide) (off := 156) rfl (by decide) ?_
    have hcv : tB G i = 52 := (nI_eq (by omega) (by decide)).mp s24_52
    refine r_aload0 (pc := 180) C dX6_scanSign_180 ?_
    refine r_iload1 (pc := 181) C dX6_scanSign_181 ?_
    refine r_callVv (pc := 182) C rfl dX6_scanSign_182 kX6_70 gF6 jC5 (tX6_scanRelation Z.1 C.w (n := n) (i := i + 1) (c := tB G i) hT (by omega) (by rw [sW_s, upd_s]) (by rw [sW_s, upd_o (by decide)]; exact hv0) b2 ⟨by omega, by omega, by omega, by omega, by omega, by omega⟩) rfl rfl (Nat.le_of_ble_eq_true rfl) (by decide) (fun G182 h182 => ?_)
    exact r_return (pc := 185) C dX6_scanSign_185 (by
  rw [h182]
  have hl := sgF_len (c := tB G i) (eq := eqB (tB G) n (i + 1))
  have e1 : i + 1 + (sgF (tB G i) (eqB (tB G) n (i + 1))).2.2 - 1 = i + (sgF (tB G i) (eqB (tB G) n (i + 1))).2.2 := by omega
  rw [sW_s, sW_W, show tB (sW G 5 (upd (G.1 5) 1 (nI (i + 1)))) = tB G from rfl, e1]
  simp only [sc3, upd_u])
  by_cases s24_53 : nI (tB G i) = nI 53
  · refine r_eqi s24_53 ?_
    refine r_tableIn (pc := 24) 180 C dX6_scanSign_24 (by decide) (by decide) (off := 156) rfl (by decide) ?_
    have hcv : tB G i = 53 := (nI_eq (by omega) (by decide)).mp s24_53
    refine r_aload0 (pc := 180) C dX6_scanSign_180 ?_
    refine r_iload1 (pc := 181) C dX6_scanSign_181 ?_
    refine r_callVv (pc := 182) C rfl dX6_scanSign_182 kX6_70 gF6 jC5 (tX6_scanRelation Z.1 C.w (n := n) (i := i + 1) (c := tB G i) hT (by omega) (by rw [sW_s, upd_s]) (by rw [sW_s, upd_o (by decide)]; exact hv0) b2 ⟨by omega, by omega, by omega, by omega, by omega, by omega⟩) rfl rfl (Nat.le_of_ble_eq_true rfl) (by decide) (fun G182 h182 => ?_)
    exact r_return (pc := 185) C dX6_scanSign_185 (by
  rw [h182]
  have hl := sgF_len (c := tB G i) (eq := eqB (tB G) n (i + 1))
  have e1 : i + 1 + (sgF (tB G i) (eqB (tB G) n (i + 1))).2.2 - 1 = i + (sgF (tB G i) (eqB (tB G) n (i + 1))).2.2 := by omega
  rw [sW_s, sW_W, show tB (sW G 5 (upd (G.1 5) 1 (nI (i + 1)))) = tB G from rfl, e1]
  simp only [sc3, upd_u])
  by_cases s24_54 : nI (tB G i) = nI 54
  · refine r_eqi s24_54 ?_
    refine r_tableIn (pc := 24) 180 C dX6_scanSign_24 (by decide) (by decide) (off := 156) rfl (by decide) ?_
    have hcv : tB G i = 54 := (nI_eq (by omega) (by decide)).mp s24_54
    refine r_aload0 (pc := 180) C dX6_scanSign_180 ?_
    refine r_iload1 (pc := 181) C dX6_scanSign_181 ?_
    refine r_callVv (pc := 182) C rfl dX6_scanSign_182 kX6_70 gF6 jC5 (tX6_scanRelation Z.1 C.w (n := n) (i := i + 1) (c := tB G i) hT (by omega) (by rw [sW_s, upd_s]) (by rw [sW_s, upd_o (by decide)]; exact hv0) b2 ⟨by omega, by omega, by omega, by omega, by omega, by omega⟩) rfl rfl (Nat.le_of_ble_eq_true rfl) (by decide) (fun G182 h182 => ?_)
    exact r_return (pc := 185) C dX6_scanSign_185 (by
  rw [h182]
  have hl := sgF_len (c := tB G i) (eq := eqB (tB G) n (i + 1))
  have e1 : i + 1 + (sgF (tB G i) (eqB (tB G) n (i + 1))).2.2 - 1 = i + (sgF (tB G i) (eqB (tB G) n (i + 1))).2.2 := by omega
  rw [sW_s, sW_W, show tB (sW G 5 (upd (G.1 5) 1 (nI (i + 1)))) = tB G from rfl, e1]
  simp only [sc3, upd_u])
  by_cases s24_55 : nI (tB G i) = nI 55
  · refine r_eqi s24_55 ?_
    refine r_tableIn (pc := 24) 180 C dX6_scanSign_24 (by decide) (by decide) (off := 156) rfl (by decide) ?_
    have hcv : tB G i = 55 := (nI_eq (by omega) (by decide)).mp s24_55
    refine r_aload0 (pc := 180) C dX6_scanSign_180 ?_
    refine r_iload1 (pc := 181) C dX6_scanSign_181 ?_
    refine r_callVv (pc := 182) C rfl dX6_scanSign_182 kX6_70 gF6 jC5 (tX6_scanRelation Z.1 C.w (n := n) (i := i + 1) (c := tB G i) hT (by omega) (by rw [sW_s, upd_s]) (by rw [sW_s, upd_o (by decide)]; exact hv0) b2 ⟨by omega, by omega, by omega, by omega, by omega, by omega⟩) rfl rfl (Nat.le_of_ble_eq_true rfl) (by decide) (fun G182 h182 => ?_)
    exact r_return (pc := 185) C dX6_scanSign_185 (by
  rw [h182]
  have hl := sgF_len (c := tB G i) (eq := eqB (tB G) n (i + 1))
  have e1 : i + 1 + (sgF (tB G i) (eqB (tB G) n (i + 1))).2.2 - 1 = i + (sgF (tB G i) (eqB (tB G) n (i + 1))).2.2 := by omega
  rw [sW_s, sW_W, show tB (sW G 5 (upd (G.1 5) 1 (nI (i + 1)))) = tB G from rfl, e1]
  simp only [sc3, upd_u])
  by_cases s24_56 : nI (tB G i) = nI 56
  · refine r_eqi s24_56 ?_
    refine r_tableIn (pc := 24) 180 C dX6_scanSign_24 (by decide) (by decide) (off := 156) rfl (by decide) ?_
    have hcv : tB G i = 56 := (nI_eq (by omega) (by decide)).mp s24_56
    refine r_aload0 (pc := 180) C dX6_scanSign_180 ?_
    refine r_iload1 (pc := 181) C dX6_scanSign_181 ?_
    refine r_callVv (pc := 182) C rfl dX6_scanSign_182 kX6_70 gF6 jC5 (tX6_scanRelation Z.1 C.w (n := n) (i := i + 1) (c := tB G i) hT (by omega) (by rw [sW_s, upd_s]) (by rw [sW_s, upd_o (by decide)]; exact hv0) b2 ⟨by omega, by omega, by omega, by omega, by omega, by omega⟩) rfl rfl (Nat.le_of_ble_eq_true rfl) (by decide) (fun G182 h182 => ?_)
    exact r_return (pc := 185) C dX6_scanSign_185 (by
  rw [h182]
  have hl := sgF_len (c := tB G i) (eq := eqB (tB G) n (i + 1))
  have e1 : i + 1 + (sgF (tB G i) (eqB (tB G) n (i + 1))).2.2 - 1 = i + (sgF (tB G i) (eqB (tB G) n (i + 1))).2.2 := by omega
  rw [sW_s, sW_W, show tB (sW G 5 (upd (G.1 5) 1 (nI (i + 1)))) = tB G from rfl, e1]
  simp only [sc3, upd_u])
  by_cases s24_57 : nI (tB G i) = nI 57
  · refine r_eqi s24_57 ?_
    refine r_tableIn (pc := 24) 180 C dX6_scanSign_24 (by decide) (by decide) (off := 156) rfl (by decide) ?_
    have hcv : tB G i = 57 := (nI_eq (by omega) (by decide)).mp s24_57
    refine r_aload0 (pc := 180) C dX6_scanSign_180 ?_
    refine r_iload1 (pc := 181) C dX6_scanSign_181 ?_
    refine r_callVv (pc := 182) C rfl dX6_scanSign_182 kX6_70 gF6 jC5 (tX6_scanRelation Z.1 C.w (n := n) (i := i + 1) (c := tB G i) hT (by omega) (by rw [sW_s, upd_s]) (by rw [sW_s, upd_o (by decide)]; exact hv0) b2 ⟨by omega, by omega, by omega, by omega, by omega, by omega⟩) rfl rfl (Nat.le_of_ble_eq_true rfl) (by decide) (fun G182 h182 => ?_)
    exact r_return (pc := 185) C dX6_scanSign_185 (by
  rw [h182]
  have hl := sgF_len (c := tB G i) (eq := eqB (tB G) n (i + 1))
  have e1 : i + 1 + (sgF (tB G i) (eqB (tB G) n (i + 1))).2.2 - 1 = i + (sgF (tB G i) (eqB (tB G) n (i + 1))).2.2 := by omega
  rw [sW_s, sW_W, show tB (sW G 5 (upd (G.1 5) 1 (nI (i + 1)))) = tB G from rfl, e1]
  simp only [sc3, upd_u])
  by_cases s24_58 : nI (tB G i) = nI 58
  · refine r_eqi s24_58 ?_
    refine r_tableIn (pc := 24) 180 C dX6_scanSign_24 (by decide) (by decide) (off := 156) rfl (by decide) ?_
    have hcv : tB G i = 58 := (nI_eq (by omega) (by decide)).mp s24_58
    refine r_aload0 (pc := 180) C dX6_scanSign_180 ?_
    refine r_iload1 (pc := 181) C dX6_scanSign_181 ?_
    refine r_callVv (pc := 182) C rfl dX6_scanSign_182 kX6_70 gF6 jC5 (tX6_scanRelation Z.1 C.w (n := n) (i := i + 1) (c := tB G i) hT (by omega) (by rw [sW_s, upd_s]) (by rw [sW_s, upd_o (by decide)]; exact hv0) b2 ⟨by omega, by omega, by omega, by omega, by omega, by omega⟩) rfl rfl (Nat.le_of_ble_eq_true rfl) (by decide) (fun G182 h182 => ?_)
    exact r_return (pc := 185) C dX6_scanSign_185 (by
  rw [h182]
  have hl := sgF_len (c := tB G i) (eq := eqB (tB G) n (i + 1))
  have e1 : i + 1 + (sgF (tB G i) (eqB (tB G) n (i + 1))).2.2 - 1 = i + (sgF (tB G i) (eqB (tB G) n (i + 1))).2.2 := by omega
  rw [sW_s, sW_W, show tB (sW G 5 (upd (G.1 5) 1 (nI (i + 1)))) = tB G from rfl, e1]
  simp only [sc3, upd_u])
  by_cases s24_59 : nI (tB G i) = nI 59
  · refine r_eqi s24_59 ?_
    refine r_tableIn (pc := 24) 120 C dX6_scanSign_24 (by decide) (by decide) (off := 96) rfl (by decide) ?_
    have hcv : tB G i = 59 := (nI_eq (by omega) (by decide)).mp s24_59
    refine r_aload0 (pc := 120) C dX6_scanSign_120 ?_
    refine r_bipush (pc := 121) (v := nI 12) C dX6_scanSign_121 (by decide) ?_
    refine pX6_38 (pc := 123) C dX6_scanSign_123 ?_
    refine r_goto (pc := 126) 185 C dX6_scanSign_126 (by decide) ?_
    exact r_return (pc := 185) C dX6_scanSign_185 (by
  have hs : (sgF (tB G i) (eqB (tB G) n (i + 1))) = (12, 0, 1) := by rw [hcv]; rfl
  rw [hs]
  show _ = sW G 5 (sc3 (G.1 5) (nI (i + 1)) (nI 12) (nI 0))
  simp only [sI0, sW_s, sW_W, sc3]
  all_goals
    congr 1
    funext q
    simp only [upd]
    by_cases q4 : q = 4
    · simp [q4]; exact hv0
    · by_cases q1 : q = 1
      · simp [q1]
      · by_cases q3 : q = 3
        · simp [q3]
        · by_cases q2 : q = 2
          · simp [q2]
          · simp [q4, q1, q3, q2])
  refine r_tableOut (pc := 24) 180 C dX6_scanSign_24 (tsw_o 40 59 (fun v a b => by rcases (show v = 40 ∨ v = 41 ∨ v = 42 ∨ v = 43 ∨ v = 44 ∨ v = 45 ∨ v = 46 ∨ v = 47 ∨ v = 48 ∨ v = 49 ∨ v = 50 ∨ v = 51 ∨ v = 52 ∨ v = 53 ∨ v = 54 ∨ v = 55 ∨ v = 56 ∨ v = 57 ∨ v = 58 ∨ v = 59 by omega) with rfl | rfl | rfl | rfl | rfl | rfl | rfl | rfl | rfl | rfl | rfl | rfl | rfl | rfl | rfl | rfl | rfl | rfl | rfl | rfl <;> assumption) (by decide)) (by decide) ?_
  refine r_aload0 (pc := 180) C dX6_scanSign_180 ?_
  refine r_iload1 (pc := 181) C dX6_scanSign_181 ?_
  refine r_callVv (pc := 182) C rfl dX6_scanSign_182 kX6_70 gF6 jC5 (tX6_scanRelation Z.1 C.w (n := n) (i := i + 1) (c := tB G i) hT (by omega) (by rw [sW_s, upd_s]) (by rw [sW_s, upd_o (by decide)]; exact hv0) b2 ⟨fun e => s24_59 (by rw [e]), fun e => s24_40 (by rw [e]), fun e => s24_41 (by rw [e]), fun e => s24_43 (by rw [e]), fun e => s24_45 (by rw [e]), fun e => s24_42 (by rw [e])⟩) rfl rfl (Nat.le_of_ble_eq_true rfl) (by decide) (fun G182 h182 => ?_)
  exact r_return (pc := 185) C dX6_scanSign_185 (by
  rw [h182]
  have hl := sgF_len (c := tB G i) (eq := eqB (tB G) n (i + 1))
  have e1 : i + 1 + (sgF (tB G i) (eqB (tB G) n (i + 1))).2.2 - 1 = i + (sgF (tB G i) (eqB (tB G) n (i + 1))).2.2 := by omega
  rw [sW_s, sW_W, show tB (sW G 5 (upd (G.1 5) 1 (nI (i + 1)))) = tB G from rfl, e1]
  simp only [sc3, upd_u])
set_option maxHeartbeats 4000000 in
set_option maxRecDepth 100000 in
theorem tX6_advance (Y : gY) (hY : Y.2.2.2 = wC) {G : gS} {n i0 : Nat} (hT : tapeOk G n) (hi0 : i0 ≤ n) (hn1 : G.1 5 1 = nI i0) : ∀ l : Launch, gM Y l yX6_advance cX6_advance 1 none (3, 65) [.ref (Y.2.1 (5))] G (qv (fun G' => G' = sW G 5 (scR (G.1 5) (tokC (tB G) n i0)))) := by
  intro l
  refine gM_of hY rfl (Nat.le_of_ble_eq_true rfl) [some (.ref (Y.2.1 (5)))] rfl rfl ?_
  rintro Z rfl C
  have hn20 := hT.2.1
  have loop : ∀ (k0 : Nat) (i : Nat), k0 = n - i → i ≤ n → skB isBl (tB G) n i = skB isBl (tB G) n i0 → WW Z (qv (fun G' => G' = sW G 5 (scR (G.1 5) (tokC (tB G) n i0)))) 0 [some (.ref (ad Z (5)))] [] (sW G 5 (upd (G.1 5) 1 (nI i))) := by
    intro k0
    induction k0 using Nat.strongRecOn with
    | _ k0 ih =>
      intro i hk0 hin hsk
      refine r_aload0 (pc := 0) C dX6_advance_0 ?_
      refine gX6_15 (pc := 1) C dX6_advance_1 ?_
      refine r_eqi (y := nI i) (by rw [sW_s, upd_s]) ?_
      refine r_aload0 (pc := 4) C dX6_advance_4 ?_
      refine gX6_9 (pc := 5) C dX6_advance_5 ?_
      refine gX6_19 (pc := 8) C dX6_advance_8 ?_
      refine r_eqi (y := nI n) (by rw [sW_o _ _ _ (by decide)]; exact hT.1) ?_
      refine r_icmp_ge (pc := 11) 45 C dX6_advance_11 (by decide) (fun c11 => ?_) (fun c11 => ?_)
      · have hge : n ≤ i := (nI_leI (by omega) (by omega)).mp c11
        have hend : skB isBl (tB G) n i0 = i := by rw [← hsk]; exact skB_no (fun h => absurd h.1 (by omega))
        refine r_aload0 (pc := 45) C dX6_advance_45 ?_
        refine r_aload0 (pc := 46) C dX6_advance_46 ?_
        refine gX6_15 (pc := 47) C dX6_advance_47 ?_
        refine r_eqi (y := nI i) (by rw [sW_s, upd_s]) ?_
        refine pX6_32 (pc := 50) C dX6_advance_50 ?_
        refine r_aload0 (pc := 53) C dX6_advance_53 ?_
        refine r_iconst (pc := 54) (v := nI 0) C dX6_advance_54 (by decide) ?_
        refine pX6_35 (pc := 55) C dX6_advance_55 ?_
        refine r_G (show _ = sW G 5 (upd (upd (upd (G.1 5) 1 (nI i)) 2 (nI i)) 4 (nI 0)) from by simp only [sI0, sW_s, sW_W]) ?_
        refine r_aload0 (pc := 58) C dX6_advance_58 ?_
        refine gX6_15 (pc := 59) C dX6_advance_59 ?_
        refine r_eqi (y := nI i) (by rw [sW_s]; rfl) ?_
        refine r_aload0 (pc := 62) C dX6_advance_62 ?_
        refine gX6_9 (pc := 63) C dX6_advance_63 ?_
        refine gX6_19 (pc := 66) C dX6_advance_66 ?_
        refine r_eqi (y := nI n) (by rw [sW_o _ _ _ (by decide)]; exact hT.1) ?_
        refine r_icmp_lt (pc := 69) 80 C dX6_advance_69 (by decide) (fun c69 => ?_) (fun c69 => ?_)
        · have hlt69 : i < n := (nI_ltI (by omega) (by omega)).mp c69
          obtain ⟨b1, b2⟩ := hT.2.2 i hlt69
          refine r_aload0 (pc := 80) C dX6_advance_80 ?_
          refine gX6_9 (pc := 81) C dX6_advance_81 ?_
          refine gX6_24 (pc := 84) C dX6_advance_84 ?_
          refine r_aload0 (pc := 87) C dX6_advance_87 ?_
          refine gX6_15 (pc := 88) C dX6_advance_88 ?_
          refine r_eqi (y := nI i) (by rw [sW_s]; rfl) ?_
          refine r_iald (pc := 91) (_) C dX6_advance_91 aC2 (rfl) (by omega) ?_
          refine r_eqi (y := nI (tB G i)) (by rw [sW_o _ _ _ (by decide)]; exact b1) ?_
          refine r_callSi (pc := 92) C rfl dX6_advance_92 kX6_41 (tX6_isLetter Z.1 C.w b2) rfl rfl (Nat.le_of_ble_eq_true rfl) (by decide) (fun x92 G92 h92 => ?_)
          obtain ⟨rfl, h92b⟩ := h92
          subst h92b
          refine r_if_eq (pc := 95) 105 C dX6_advance_95 (by decide) (fun c95 => ?_) (fun c95 => ?_)
          · refine r_aload0 (pc := 105) C dX6_advance_105 ?_
            refine gX6_9 (pc := 106) C dX6_advance_106 ?_
            refine gX6_24 (pc := 109) C dX6_advance_109 ?_
            refine r_aload0 (pc := 112) C dX6_advance_112 ?_
            refine gX6_15 (pc := 113) C dX6_advance_113 ?_
            refine r_eqi (y := nI i) (by rw [sW_s]; rfl) ?_
            refine r_iald (pc := 116) (_) C dX6_advance_116 aC2 (rfl) (by omega) ?_
            refine r_eqi (y := nI (tB G i)) (by rw [sW_o _ _ _ (by decide)]; exact b1) ?_
            refine r_callSi (pc := 117) C rfl dX6_advance_117 kX6_47 (tX6_isDigit Z.1 C.w b2) rfl rfl (Nat.le_of_ble_eq_true rfl) (by decide) (fun x117 G117 h117 => ?_)
            obtain ⟨rfl, h117b⟩ := h117
            subst h117b
            refine r_if_eq (pc := 120) 130 C dX6_advance_120 (by decide) (fun c120 => ?_) (fun c120 => ?_)
            · refine r_aload0 (pc := 130) C dX6_advance_130 ?_
              refine r_callVv (pc := 131) C rfl dX6_advance_131 kX6_53 gF6 jC5 (tX6_scanSign Z.1 C.w (n := n) (i := i) (show tapeOk (sW G 5 (upd (upd (upd (G.1 5) 1 (nI i)) 2 (nI i)) 4 (nI 0))) n from hT) hlt69 (by rw [sW_s]; rfl) (by rw [sW_s]; rfl)) rfl rfl (Nat.le_of_ble_eq_true rfl) (by decide) (fun G131 h131 => ?_)
              exact r_return (pc := 134) C dX6_advance_134 (by
        rw [h131, tokC]
        try dsimp only
        rw [hend, if_neg (show ¬ n ≤ i by omega), if_neg (show ¬ isLe (tB G i) = true by rw [bI_z.mp c95]; decide), if_neg (show ¬ isDi (tB G i) = true by rw [bI_z.mp c120]; decide), sW_s, sW_W, show tB (sW G 5 (upd (upd (upd (G.1 5) 1 (nI i)) 2 (nI i)) 4 (nI 0))) = tB G from rfl]
        simp only [scR, sc3]
        all_goals
          congr 1
          funext q
          simp only [upd]
          by_cases q4 : q = 4
          · simp [q4]
          · by_cases q1 : q = 1
            · simp [q1]
            · by_cases q3 : q = 3
              · simp [q3]
              · by_cases q2 : q = 2
                · simp [q2]
                · simp [q4, q1, q3, q2])
            · refine r_aload0 (pc := 123) C dX6_advance_123 ?_
              refine r_callVv (pc := 124) C rfl dX6_advance_124 kX6_50 gF6 jC5 (tX6_scanInt Z.1 C.w (n := n) (i0 := i) (show tapeOk (sW G 5 (upd (upd (upd (G.1 5) 1 (nI i)) 2 (nI i)) 4 (nI 0))) n from hT) (by omega) (by rw [sW_s]; rfl) (by rw [sW_s]; rfl) (by rw [sW_s]; rfl)) rfl rfl (Nat.le_of_ble_eq_true rfl) (by decide) (fun G124 h124 => ?_)
              refine r_goto (pc := 127) 134 C dX6_advance_127 (by decide) ?_
              exact r_return (pc := 134) C dX6_advance_134 (by
        rw [h124, tokC]
        try dsimp only
        rw [hend, if_neg (show ¬ n ≤ i by omega), if_neg (show ¬ isLe (tB G i) = true by rw [bI_z.mp c95]; decide), if_pos (bI_n.mp c120), sW_s, sW_W, show tB (sW G 5 (upd (upd (upd (G.1 5) 1 (nI i)) 2 (nI i)) 4 (nI 0))) = tB G from rfl]
        simp only [scR]
        all_goals
          congr 1
          funext q
          simp only [upd]
          by_cases q4 : q = 4
          · simp [q4]
          · by_cases q1 : q = 1
            · simp [q1]
            · by_cases q3 : q = 3
              · simp [q3]
              · by_cases q2 : q = 2
                · simp [q2]
                · simp [q4, q1, q3, q2])
          · refine r_aload0 (pc := 98) C dX6_advance_98 ?_
            refine r_callVv (pc := 99) C rfl dX6_advance_99 kX6_44 gF6 jC5 (tX6_scanWord Z.1 C.w (n := n) (i0 := i) (show tapeOk (sW G 5 (upd (upd (upd (G.1 5) 1 (nI i)) 2 (nI i)) 4 (nI 0))) n from hT) (by omega) (by rw [sW_s]; rfl) (by rw [sW_s]; rfl)) rfl rfl (Nat.le_of_ble_eq_true rfl) (by decide) (fun G99 h99 => ?_)
            refine r_goto (pc := 102) 134 C dX6_advance_102 (by decide) ?_
            exact r_return (pc := 134) C dX6_advance_134 (by
        rw [h99, tokC]
        try dsimp only
        rw [hend, if_neg (show ¬ n ≤ i by omega), if_pos (bI_n.mp c95), sW_s, sW_W, show tB (sW G 5 (upd (upd (upd (G.1 5) 1 (nI i)) 2 (nI i)) 4 (nI 0))) = tB G from rfl]
        simp only [scR]
        all_goals
          congr 1
          funext q
          simp only [upd]
          by_cases q4 : q = 4
          · simp [q4]
          · by_cases q1 : q = 1
            · simp [q1]
            · by_cases q3 : q = 3
              · simp [q3]
              · by_cases q2 : q = 2
                · simp [q2]
                · simp [q4, q1, q3, q2])
        · have hge69 : n ≤ i := (nI_leI (by omega) (by omega)).mp (Int32.not_lt.mp c69)
          refine r_aload0 (pc := 72) C dX6_advance_72 ?_
          refine r_iconst (pc := 73) (v := nI 0) C dX6_advance_73 (by decide) ?_
          refine pX6_38 (pc := 74) C dX6_advance_74 ?_
          refine r_goto (pc := 77) 134 C dX6_advance_77 (by decide) ?_
          exact r_return (pc := 134) C dX6_advance_134 (by
        have ht : tokC (tB G) n i0 = (nI 0, nI 0, i, i) := by rw [tokC]; (try dsimp only); rw [hend, if_pos hge69]
        rw [ht]
        simp only [sI0, sW_s, sW_W, scR]
        all_goals
          congr 1
          funext q
          simp only [upd]
          by_cases q4 : q = 4
          · simp [q4]
          · by_cases q1 : q = 1
            · simp [q1]
            · by_cases q3 : q = 3
              · simp [q3]
              · by_cases q2 : q = 2
                · simp [q2]
                · simp [q4, q1, q3, q2])
      · have hlt : i < n := by
          rcases Nat.lt_or_ge i n with h | h
          · exact h
          · exact absurd (nI_le h (by omega)) c11
        obtain ⟨b1, b2⟩ := hT.2.2 i hlt
        refine r_aload0 (pc := 14) C dX6_advance_14 ?_
        refine gX6_9 (pc := 15) C dX6_advance_15 ?_
        refine gX6_24 (pc := 18) C dX6_advance_18 ?_
        refine r_aload0 (pc := 21) C dX6_advance_21 ?_
        refine gX6_15 (pc := 22) C dX6_advance_22 ?_
        refine r_eqi (y := nI i) (by rw [sW_s, upd_s]) ?_
        refine r_iald (pc := 25) (_) C dX6_advance_25 aC2 (rfl) (by omega) ?_
        refine r_eqi (y := nI (tB G i)) (by rw [sW_o _ _ _ (by decide)]; exact b1) ?_
        refine r_callSi (pc := 26) C rfl dX6_advance_26 kX6_28 (tX6_isBlank Z.1 C.w b2) rfl rfl (Nat.le_of_ble_eq_true rfl) (by decide) (fun x26 G26 h26 => ?_)
        obtain ⟨rfl, h26b⟩ := h26
        have h26b := h26b.symm
        subst h26b
        refine r_if_eq (pc := 29) 45 C dX6_advance_29 (by decide) (fun c29 => ?_) (fun c29 => ?_)
        · have hend : skB isBl (tB G) n i0 = i := by rw [← hsk]; exact skB_no (fun h => by rw [bI_z.mp c29] at h; cases h.2)
          refine r_aload0 (pc := 45) C dX6_advance_45 ?_
          refine r_aload0 (pc := 46) C dX6_advance_46 ?_
          refine gX6_15 (pc := 47) C dX6_advance_47 ?_
          refine r_eqi (y := nI i) (by rw [sW_s, upd_s]) ?_
          refine pX6_32 (pc := 50) C dX6_advance_50 ?_
          refine r_aload0 (pc := 53) C dX6_advance_53 ?_
          refine r_iconst (pc := 54) (v := nI 0) C dX6_advance_54 (by decide) ?_
          refine pX6_35 (pc := 55) C dX6_advance_55 ?_
          refine r_G (show _ = sW G 5 (upd (upd (upd (G.1 5) 1 (nI i)) 2 (nI i)) 4 (nI 0)) from by simp only [sI0, sW_s, sW_W]) ?_
          refine r_aload0 (pc := 58) C dX6_advance_58 ?_
          refine gX6_15 (pc := 59) C dX6_advance_59 ?_
          refine r_eqi (y := nI i) (by rw [sW_s]; rfl) ?_
          refine r_aload0 (pc := 62) C dX6_advance_62 ?_
          refine gX6_9 (pc := 63) C dX6_advance_63 ?_
          refine gX6_19 (pc := 66) C dX6_advance_66 ?_
          refine r_eqi (y := nI n) (by rw [sW_o _ _ _ (by decide)]; exact hT.1) ?_
          refine r_icmp_lt (pc := 69) 80 C dX6_advance_69 (by decide) (fun c69 => ?_) (fun c69 => ?_)
          · have hlt69 : i < n := (nI_ltI (by omega) (by omega)).mp c69
            obtain ⟨b1, b2⟩ := hT.2.2 i hlt69
            refine r_aload0 (pc := 80) C dX6_advance_80 ?_
            refine gX6_9 (pc := 81) C dX6_advance_81 ?_
            refine gX6_24 (pc := 84) C dX6_advance_84 ?_
            refine r_aload0 (pc := 87) C dX6_advance_87 ?_
            refine gX6_15 (pc := 88) C dX6_advance_88 ?_
            refine r_eqi (y := nI i) (by rw [sW_s]; rfl) ?_
            refine r_iald (pc := 91) (_) C dX6_advance_91 aC2 (rfl) (by omega) ?_
            refine r_eqi (y := nI (tB G i)) (by rw [sW_o _ _ _ (by decide)]; exact b1) ?_
            refine r_callSi (pc := 92) C rfl dX6_advance_92 kX6_41 (tX6_isLetter Z.1 C.w b2) rfl rfl (Nat.le_of_ble_eq_true rfl) (by decide) (fun x92 G92 h92 => ?_)
            obtain ⟨rfl, h92b⟩ := h92
            subst h92b
            refine r_if_eq (pc := 95) 105 C dX6_advance_95 (by decide) (fun c95 => ?_) (fun c95 => ?_)
            · refine r_aload0 (pc := 105) C dX6_advance_105 ?_
              refine gX6_9 (pc := 106) C dX6_advance_106 ?_
              refine gX6_24 (pc := 109) C dX6_advance_109 ?_
              refine r_aload0 (pc := 112) C dX6_advance_112 ?_
              refine gX6_15 (pc := 113) C dX6_advance_113 ?_
              refine r_eqi (y := nI i) (by rw [sW_s]; rfl) ?_
              refine r_iald (pc := 116) (_) C dX6_advance_116 aC2 (rfl) (by omega) ?_
              refine r_eqi (y := nI (tB G i)) (by rw [sW_o _ _ _ (by decide)]; exact b1) ?_
              refine r_callSi (pc := 117) C rfl dX6_advance_117 kX6_47 (tX6_isDigit Z.1 C.w b2) rfl rfl (Nat.le_of_ble_eq_true rfl) (by decide) (fun x117 G117 h117 => ?_)
              obtain ⟨rfl, h117b⟩ := h117
              subst h117b
              refine r_if_eq (pc := 120) 130 C dX6_advance_120 (by decide) (fun c120 => ?_) (fun c120 => ?_)
              · refine r_aload0 (pc := 130) C dX6_advance_130 ?_
                refine r_callVv (pc := 131) C rfl dX6_advance_131 kX6_53 gF6 jC5 (tX6_scanSign Z.1 C.w (n := n) (i := i) (show tapeOk (sW G 5 (upd (upd (upd (G.1 5) 1 (nI i)) 2 (nI i)) 4 (nI 0))) n from hT) hlt69 (by rw [sW_s]; rfl) (by rw [sW_s]; rfl)) rfl rfl (Nat.le_of_ble_eq_true rfl) (by decide) (fun G131 h131 => ?_)
                exact r_return (pc := 134) C dX6_advance_134 (by
        rw [h131, tokC]
        try dsimp only
        rw [hend, if_neg (show ¬ n ≤ i by omega), if_neg (show ¬ isLe (tB G i) = true by rw [bI_z.mp c95]; decide), if_neg (show ¬ isDi (tB G i) = true by rw [bI_z.mp c120]; decide), sW_s, sW_W, show tB (sW G 5 (upd (upd (upd (G.1 5) 1 (nI i)) 2 (nI i)) 4 (nI 0))) = tB G from rfl]
        simp only [scR, sc3]
        all_goals
          congr 1
          funext q
          simp only [upd]
          by_cases q4 : q = 4
          · simp [q4]
          · by_cases q1 : q = 1
            · simp [q1]
            · by_cases q3 : q = 3
              · simp [q3]
              · by_cases q2 : q = 2
                · simp [q2]
                · simp [q4, q1, q3, q2])
              · refine r_aload0 (pc := 123) C dX6_advance_123 ?_
                refine r_callVv (pc := 124) C rfl dX6_advance_124 kX6_50 gF6 jC5 (tX6_scanInt Z.1 C.w (n := n) (i0 := i) (show tapeOk (sW G 5 (upd (upd (upd (G.1 5) 1 (nI i)) 2 (nI i)) 4 (nI 0))) n from hT) (by omega) (by rw [sW_s]; rfl) (by rw [sW_s]; rfl) (by rw [sW_s]; rfl)) rfl rfl (Nat.le_of_ble_eq_true rfl) (by decide) (fun G124 h124 => ?_)
                refine r_goto (pc := 127) 134 C dX6_advance_127 (by decide) ?_
                exact r_return (pc := 134) C dX6_advance_134 (by
        rw [h124, tokC]
        try dsimp only
        rw [hend, if_neg (show ¬ n ≤ i by omega), if_neg (show ¬ isLe (tB G i) = true by rw [bI_z.mp c95]; decide), if_pos (bI_n.mp c120), sW_s, sW_W, show tB (sW G 5 (upd (upd (upd (G.1 5) 1 (nI i)) 2 (nI i)) 4 (nI 0))) = tB G from rfl]
        simp only [scR]
        all_goals
          congr 1
          funext q
          simp only [upd]
          by_cases q4 : q = 4
          · simp [q4]
          · by_cases q1 : q = 1
            · simp [q1]
            · by_cases q3 : q = 3
              · simp [q3]
              · by_cases q2 : q = 2
                · simp [q2]
                · simp [q4, q1, q3, q2])
            · refine r_aload0 (pc := 98) C dX6_advance_98 ?_
              refine r_callVv (pc := 99) C rfl dX6_advance_99 kX6_44 gF6 jC5 (tX6_scanWord Z.1 C.w (n := n) (i0 := i) (show tapeOk (sW G 5 (upd (upd (upd (G.1 5) 1 (nI i)) 2 (nI i)) 4 (nI 0))) n from hT) (by omega) (by rw [sW_s]; rfl) (by rw [sW_s]; rfl)) rfl rfl (Nat.le_of_ble_eq_true rfl) (by decide) (fun G99 h99 => ?_)
              refine r_goto (pc := 102) 134 C dX6_advance_102 (by decide) ?_
              exact r_return (pc := 134) C dX6_advance_134 (by
        rw [h99, tokC]
        try dsimp only
        rw [hend, if_neg (show ¬ n ≤ i by omega), if_pos (bI_n.mp c95), sW_s, sW_W, show tB (sW G 5 (upd (upd (upd (G.1 5) 1 (nI i)) 2 (nI i)) 4 (nI 0))) = tB G from rfl]
        simp only [scR]
        all_goals
          congr 1
          funext q
          simp only [upd]
          by_cases q4 : q = 4
          · simp [q4]
          · by_cases q1 : q = 1
            · simp [q1]
            · by_cases q3 : q = 3
              · simp [q3]
              · by_cases q2 : q = 2
                · simp [q2]
                · simp [q4, q1, q3, q2])
          · have hge69 : n ≤ i := (nI_leI (by omega) (by omega)).mp (Int32.not_lt.mp c69)
            refine r_aload0 (pc := 72) C dX6_advance_72 ?_
            refine r_iconst (pc := 73) (v := nI 0) C dX6_advance_73 (by decide) ?_
            refine pX6_38 (pc := 74) C dX6_advance_74 ?_
            refine r_goto (pc := 77) 134 C dX6_advance_77 (by decide) ?_
            exact r_return (pc := 134) C dX6_advance_134 (by
        have ht : tokC (tB G) n i0 = (nI 0, nI 0, i, i) := by rw [tokC]; (try dsimp only); rw [hend, if_pos hge69]
        rw [ht]
        simp only [sI0, sW_s, sW_W, scR]
        all_goals
          congr 1
          funext q
          simp only [upd]
          by_cases q4 : q = 4
          · simp [q4]
          · by_cases q1 : q = 1
            · simp [q1]
            · by_cases q3 : q = 3
              · simp [q3]
              · by_cases q2 : q = 2
                · simp [q2]
                · simp [q4, q1, q3, q2])
        · refine r_aload0 (pc := 32) C dX6_advance_32 ?_
          refine r_dup (pc := 33) C dX6_advance_33 rfl ?_
          refine gX6_15 (pc := 34) C dX6_advance_34 ?_
          refine r_eqi (y := nI i) (by rw [sW_s, upd_s]) ?_
          refine r_iconst (pc := 37) (v := nI 1) C dX6_advance_37 (by decide) ?_
          refine r_iadd (pc := 38) C dX6_advance_38 ?_
          refine pX6_15 (pc := 39) C dX6_advance_39 ?_
          refine r_goto (pc := 42) 0 C dX6_advance_42 (by decide) ?_
          refine r_G (show _ = sW G 5 (upd (G.1 5) 1 (nI (i + 1))) from by rw [sI0, sW_s, sW_W, upd_u, nI_add]) ?_
          exact ih (n - (i + 1)) (by omega) (i + 1) rfl (by omega) (by rw [← hsk, skB_go hlt (bI_n.mp c29)])
  have K := loop _ i0 rfl hi0 rfl
  rw [upd_id hn1, sW_id] at K
  exact K
