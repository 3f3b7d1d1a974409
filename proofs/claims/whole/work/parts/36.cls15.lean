set_option maxHeartbeats 4000000 in
set_option maxRecDepth 100000 in
theorem tX3_take (Y : gY) (hY : Y.2.2.2 = wC) {G : gS} {j so a e o k : Nat} {rel : Bool} {fw v : Int32} {ops : List Nat} {rs : List pR} (hj : j < 3) (hrj : G.2.2 3 3 = 40 + j) (hso : G.1 5 3 = nI so) (hv : G.1 5 4 = v) (ha : G.1 5 2 = nI a) (hD : RD G j (decide (e ≠ 1 ∧ e ≠ 3)) (e, o, rel, fw, ops, rs)) (hi : pInv k (e, o, rel, fw, ops, rs)) (hk : k < 400) (hq : tokQ so v) (h9 : fol e o rel so ≠ 9) (hov : overS (e, o, rel, fw, ops, rs) so = false) : ∀ l : Launch, gM Y l yX3_take cX3_take 1 none (3, 62) [.ref (Y.2.1 (3))] G (qv (fun G' => Fr (sU j) G G' ∧ RD G' j (decide (e ≠ 0)) (takeS (e, o, rel, fw, ops, rs) so v a))) := by
  intro l
  refine gM_of hY rfl (Nat.le_of_ble_eq_true rfl) [some (.ref (Y.2.1 (3)))] rfl rfl ?_
  rintro Z rfl C
  obtain ⟨q1, q2, q3, q4, q5, q6, q7⟩ := hD
  obtain ⟨i1, i2, i3, i4, i5, i6, i7, i8, i9, i10⟩ := hi
  have hso2 := hq.1
  dsimp only at q1 q2 q3 q4 q5 q6 q7 i1 i2 i3 i4 i5 i6
  refine r_aload0 (pc := 0) C dX3_take_0 ?_
  refine gX3_61 (pc := 1) C dX3_take_1 ?_
  refine r_eqi q1 ?_
  by_cases s4_0 : nI e = nI 0
  · refine r_eqi s4_0 ?_
    refine r_tableIn (pc := 4) 48 C dX3_take_4 (by decide) (by decide) (off := 44) rfl (by decide) ?_
    obtain rfl : e = 0 := (nI_eq (by omega) (by decide)).mp s4_0
    refine r_aload0 (pc := 48) C dX3_take_48 ?_
    refine gX3_18 (pc := 49) C dX3_take_49 ?_
    refine r_eqr (y := 40 + j) hrj ?_
    refine r_aload0 (pc := 52) C dX3_take_52 ?_
    refine gX3_31 (pc := 53) C dX3_take_53 ?_
    refine gX3_41 (pc := 56) C dX3_take_56 ?_
    refine r_eqi hso ?_
    refine r_iconst (pc := 59) (v := nI 5) C dX3_take_59 (by decide) ?_
    refine r_icmp_ne (pc := 60) 67 C dX3_take_60 (by decide) (fun c60 => ?_) (fun c60 => ?_)
    · have d60 : so ≠ 5 := fun e => c60 (by rw [e])
      refine r_iconst (pc := 67) (v := nI 0) C dX3_take_67 (by decide) ?_
      refine r_eqi (bI_dn d60) ?_
      refine r_callVv (pc := 68) C rfl dX3_take_68 kX3_86 gF4 (jCr (by omega)) (tX4_add Z.1 C.w (s := rs.length) (c := lenC rs) (a := decide (so = 5)) hj q7.1 (by
    rcases Nat.lt_or_ge rs.length 20 with g | g
    · exact g
    · exact absurd (Or.inl ⟨rfl, g⟩) (of_decide_eq_false hov)) q7.2.1) rfl rfl (Nat.le_of_ble_eq_true rfl) (by decide) (fun G68 h68 => ?_)
      refine r_goto (pc := 71) 110 C dX3_take_71 (by decide) ?_
      exact r_return (pc := 110) C dX3_take_110 (by
  have hRa := RS_add q7 hj (decide (so = 5)) 0
  rw [← h68] at hRa
  have hF : Fr (fun q => q = 50 + j ∨ q = 70 + j ∨ q = 80 + j ∨ q = 40 + j) G G68 := by rw [h68]; exact (((Fr.refl.sI (Or.inl rfl)).sI (Or.inr (Or.inl rfl))).sI (Or.inr (Or.inr (Or.inl rfl)))).sI (Or.inr (Or.inr (Or.inr rfl)))
  refine ⟨hF.mono (fun q h => by unfold sU; omega), ?_, ?_, ?_, ?_, ?_, ?_, hRa⟩
  · rw [hF.1 3 (by omega)]; exact q1
  · rw [hF.1 3 (by omega)]; exact q2
  · rw [hF.1 3 (by omega)]; exact q3
  · rw [hF.1 3 (by omega)]; exact q4
  · rw [hF.1 3 (by omega)]; exact q5
  · rw [hF.1 4 (by omega)]; exact q6)
    · have d60 : so = 5 := (nI_eq (by omega) (by decide)).mp c60
      refine r_iconst (pc := 63) (v := nI 1) C dX3_take_63 (by decide) ?_
      refine r_eqi (bI_d d60) ?_
      refine r_goto (pc := 64) 68 C dX3_take_64 (by decide) ?_
      refine r_callVv (pc := 68) C rfl dX3_take_68 kX3_86 gF4 (jCr (by omega)) (tX4_add Z.1 C.w (s := rs.length) (c := lenC rs) (a := decide (so = 5)) hj q7.1 (by
    rcases Nat.lt_or_ge rs.length 20 with g | g
    · exact g
    · exact absurd (Or.inl ⟨rfl, g⟩) (of_decide_eq_false hov)) q7.2.1) rfl rfl (Nat.le_of_ble_eq_true rfl) (by decide) (fun G68 h68 => ?_)
      refine r_goto (pc := 71) 110 C dX3_take_71 (by decide) ?_
      exact r_return (pc := 110) C dX3_take_110 (by
  have hRa := RS_add q7 hj (decide (so = 5)) 0
  rw [← h68] at hRa
  have hF : Fr (fun q => q = 50 + j ∨ q = 70 + j ∨ q = 80 + j ∨ q = 40 + j) G G68 := by rw [h68]; exact (((Fr.refl.sI (Or.inl rfl)).sI (Or.inr (Or.inl rfl))).sI (Or.inr (Or.inr (Or.inl rfl)))).sI (Or.inr (Or.inr (Or.inr rfl)))
  refine ⟨hF.mono (fun q h => by unfold sU; omega), ?_, ?_, ?_, ?_, ?_, ?_, hRa⟩
  · rw [hF.1 3 (by omega)]; exact q1
  · rw [hF.1 3 (by omega)]; exact q2
  · rw [hF.1 3 (by omega)]; exact q3
  · rw [hF.1 3 (by omega)]; exact q4
  · rw [hF.1 3 (by omega)]; exact q5
  · rw [hF.1 4 (by omega)]; exact q6)
  by_cases s4_1 : nI e = nI 1
  · refine r_eqi s4_1 ?_
    refine r_tableIn (pc := 4) 74 C dX3_take_4 (by decide) (by decide) (off := 70) rfl (by decide) ?_
    obtain rfl : e = 1 := (nI_eq (by omega) (by decide)).mp s4_1
    obtain ⟨r, rs, rfl⟩ : ∃ r rs', rs = r :: rs' := by
      cases rs with
      | nil => exact absurd rfl (i6 (by decide))
      | cons r rs' => exact ⟨r, rs', rfl⟩
    have hr20 : rs.length < 20 := by have : rs.length + 1 ≤ 20 := i4; omega
    refine r_aload0 (pc := 74) C dX3_take_74 ?_
    refine r_bipush (pc := 75) (v := nI 6) C dX3_take_75 (by decide) ?_
    refine r_callVv (pc := 77) C rfl dX3_take_77 kX3_90 gF3 jC3 (tX3_takeNumber Z.1 C.w (a := a) (v := v) (fw := fw) hj hrj hv ha q4 q7 hr20) rfl rfl (Nat.le_of_ble_eq_true rfl) (by decide) (fun G77 h77 => ?_)
    obtain ⟨hFn, h3, hRn⟩ := h77
    refine r_goto (pc := 80) 110 C dX3_take_80 (by decide) ?_
    exact r_return (pc := 110) C dX3_take_110 (by
  have ht : takeS (1, o, rel, fw, ops, r :: rs) so v a = (1, o, rel, if ¬ v < nI 6 ∧ fw = -1 then nI a else fw, ops, (r.1, v, r.2.2) :: rs) := rfl
  rw [ht]
  refine ⟨hFn.mono (fun q h => by unfold sU; omega), ?_, ?_, ?_, ?_, ?_, ?_, hRn⟩
  · rw [h3, upd_o (by decide)]; exact q1
  · rw [h3, upd_o (by decide)]; exact q2
  · rw [h3, upd_o (by decide)]; exact q3
  · rw [h3, upd_s]
  · rw [h3, upd_o (by decide)]; exact q5
  · rw [hFn.1 4 (by omega)]; exact q6)
  by_cases s4_2 : nI e = nI 2
  · refine r_eqi s4_2 ?_
    refine r_tableIn (pc := 4) 105 C dX3_take_4 (by decide) (by decide) (off := 101) rfl (by decide) ?_
    obtain rfl : e = 2 := (nI_eq (by omega) (by decide)).mp s4_2
    refine r_aload0 (pc := 105) C dX3_take_105 ?_
    refine r_iconst (pc := 106) (v := nI 0) C dX3_take_106 (by decide) ?_
    refine pX3_76 (pc := 107) C dX3_take_107 rfl rfl ?_
    exact r_return (pc := 110) C dX3_take_110 (by
  have hF : Fr (fun q => q = 3) G (sI G 3 6 (nI 0)) := (Fr.refl (S := fun q => q = 3)).sI rfl
  exact ⟨hF.mono (fun q h => by unfold sU; omega), q1, q2, rfl, q4, q5, q6, q7.fr hF (by omega) (by omega) (by omega) (by omega) (by omega) (by omega)⟩)
  by_cases s4_3 : nI e = nI 3
  · refine r_eqi s4_3 ?_
    refine r_tableIn (pc := 4) 83 C dX3_take_4 (by decide) (by decide) (off := 79) rfl (by decide) ?_
    obtain rfl : e = 3 := (nI_eq (by omega) (by decide)).mp s4_3
    obtain ⟨r, rs, rfl⟩ : ∃ r rs', rs = r :: rs' := by
      cases rs with
      | nil => exact absurd rfl (i6 (by decide))
      | cons r rs' => exact ⟨r, rs', rfl⟩
    have hr20 : rs.length < 20 := by have : rs.length + 1 ≤ 20 := i4; omega
    refine r_aload0 (pc := 83) C dX3_take_83 ?_
    refine r_iconst (pc := 84) (v := nI 4) C dX3_take_84 (by decide) ?_
    refine r_callVv (pc := 85) C rfl dX3_take_85 kX3_90 gF3 jC3 (tX3_takeNumber Z.1 C.w (a := a) (v := v) (fw := fw) hj hrj hv ha q4 q7 hr20) rfl rfl (Nat.le_of_ble_eq_true rfl) (by decide) (fun G85 h85 => ?_)
    obtain ⟨hFn, h3, hRn⟩ := h85
    refine r_goto (pc := 88) 110 C dX3_take_88 (by decide) ?_
    exact r_return (pc := 110) C dX3_take_110 (by
  have ht : takeS (3, o, rel, fw, ops, r :: rs) so v a = (3, o, rel, if ¬ v < nI 4 ∧ fw = -1 then nI a else fw, ops, (r.1, v, r.2.2) :: rs) := rfl
  rw [ht]
  refine ⟨hFn.mono (fun q h => by unfold sU; omega), ?_, ?_, ?_, ?_, ?_, ?_, hRn⟩
  · rw [h3, upd_o (by decide)]; exact q1
  · rw [h3, upd_o (by decide)]; exact q2
  · rw [h3, upd_o (by decide)]; exact q3
  · rw [h3, upd_s]
  · rw [h3, upd_o (by decide)]; exact q5
  · rw [hFn.1 4 (by omega)]; exact q6)
  by_cases s4_4 : nI e = nI 4
  · refine r_eqi s4_4 ?_
    refine r_tableIn (pc := 4) 105 C dX3_take_4 (by decide) (by decide) (off := 101) rfl (by decide) ?_
    obtain rfl : e = 4 := (nI_eq (by omega) (by decide)).mp s4_4
    refine r_aload0 (pc := 105) C dX3_take_105 ?_
    refine r_iconst (pc := 106) (v := nI 0) C dX3_take_106 (by decide) ?_
    refine pX3_76 (pc := 107) C dX3_take_107 rfl rfl ?_
    exact r_return (pc := 110) C dX3_take_110 (by
  have hF : Fr (fun q => q = 3) G (sI G 3 6 (nI 0)) := (Fr.refl (S := fun q => q = 3)).sI rfl
  exact ⟨hF.mono (fun q h => by unfold sU; omega), q1, q2, rfl, q4, q5, q6, q7.fr hF (by omega) (by omega) (by omega) (by omega) (by omega) (by omega)⟩)
  by_cases s4_5 : nI e = nI 5
  · refine r_eqi s4_5 ?_
    refine r_tableIn (pc := 4) 91 C dX3_take_4 (by decide) (by decide) (off := 87) rfl (by decide) ?_
    obtain rfl : e = 5 := (nI_eq (by omega) (by decide)).mp s4_5
    obtain ⟨r, rs, rfl⟩ : ∃ r rs', rs = r :: rs' := by
      cases rs with
      | nil => exact absurd rfl (i6 (by decide))
      | cons r rs' => exact ⟨r, rs', rfl⟩
    have hr20 : rs.length < 20 := by have : rs.length + 1 ≤ 20 := i4; omega
    refine r_aload0 (pc := 91) C dX3_take_91 ?_
    refine r_callVv (pc := 92) C rfl dX3_take_92 kX3_94 gF3 jC3 (tX3_takeUnit Z.1 C.w (so := so) (a := a) (v := v) (r := r) (rs := rs) (ops := ops) (o := o) (rel := rel) (fw := fw) (b := true) hj hrj hso hso2 hv ⟨q1, q2, q3, q4, q5, q6, q7⟩ i2 hr20 (by have : lenC (r :: rs) + ops.length ≤ k := i5; omega) (by
    have := stk_len i3 (Nat.le_refl 6)
    split at this <;> omega)) rfl rfl (Nat.le_of_ble_eq_true rfl) (by decide) (fun G92 h92 => ?_)
    refine r_goto (pc := 95) 110 C dX3_take_95 (by decide) ?_
    exact r_return (pc := 110) C dX3_take_110 (h92)
  by_cases s4_6 : nI e = nI 6
  · refine r_eqi s4_6 ?_
    refine r_tableIn (pc := 4) 98 C dX3_take_4 (by decide) (by decide) (off := 94) rfl (by decide) ?_
    obtain rfl : e = 6 := (nI_eq (by omega) (by decide)).mp s4_6
    obtain ⟨r, rs, rfl⟩ : ∃ r rs', rs = r :: rs' := by
      cases rs with
      | nil => exact absurd rfl (i6 (by decide))
      | cons r rs' => exact ⟨r, rs', rfl⟩
    have hr20 : rs.length < 20 := by have : rs.length + 1 ≤ 20 := i4; omega
    refine r_aload0 (pc := 98) C dX3_take_98 ?_
    refine r_callVv (pc := 99) C rfl dX3_take_99 kX3_97 gF3 jC3 (tX3_takeBehindUnit Z.1 C.w (so := so) (a := a) (v := v) (r := r) (rs := rs) (ops := ops) (o := o) (rel := rel) (fw := fw) (b := true) hj hrj hso hso2 hv ⟨q1, q2, q3, q4, q5, q6, q7⟩ i2 hr20 i3 (by have : lenC (r :: rs) + ops.length ≤ k := i5; omega) (fun n11 n12 => by
    have h789 : so = 7 ∨ so = 8 ∨ so = 9 := by rcases folc6 h9 with ⟨h, -⟩ | ⟨-, h, -⟩ | ⟨-, -, h, -⟩ | ⟨-, -, h, -⟩ | ⟨-, -, h, -⟩ <;> omega
    obtain ⟨u1, u2, u3, -⟩ := hq.2.1 h789
    exact ⟨u1, u2, u3⟩) (fun h11 => by rcases folc6 h9 with ⟨h, -⟩ | ⟨h, -, -⟩ | ⟨-, -, h, -⟩ | ⟨-, -, h, -⟩ | ⟨-, -, h, -⟩ <;> omega)) rfl rfl (Nat.le_of_ble_eq_true rfl) (by decide) (fun G99 h99 => ?_)
    refine r_goto (pc := 102) 110 C dX3_take_102 (by decide) ?_
    exact r_return (pc := 110) C dX3_take_110 (h99)
  exfalso
  have h0 : e ≠ 0 := fun h => s4_0 (by rw [h])
  have h1 : e ≠ 1 := fun h => s4_1 (by rw [h])
  have h2 : e ≠ 2 := fun h => s4_2 (by rw [h])
  have h3 : e ≠ 3 := fun h => s4_3 (by rw [h])
  have h4 : e ≠ 4 := fun h => s4_4 (by rw [h])
  have h5 : e ≠ 5 := fun h => s4_5 (by rw [h])
  have h6 : e ≠ 6 := fun h => s4_6 (by rw [h])
  omega
theorem fol_le (e o : Nat) (rel : Bool) (so : Nat) : fol e o rel so ≤ 9 := by
  unfold fol folU
  repeat' split
  all_goals omega
theorem fol_7 {e o so : Nat} {rel : Bool} (he : e ≤ 6) (h : fol e o rel so = 7) : e = 0 := by
  by_cases h0 : e = 0
  · exact h0
  · exfalso
    rcases (show e = 1 ∨ e = 2 ∨ e = 3 ∨ e = 4 ∨ e = 5 ∨ e = 6 by omega) with rfl | rfl | rfl | rfl | rfl | rfl
    · have := (folc1 (o := o) (rel := rel) (so := so) (by omega)).2; omega
    · rcases folc2 (o := o) (rel := rel) (so := so) (by omega) with ⟨-, h⟩ | ⟨-, h⟩ <;> omega
    · have := (folc3 (o := o) (rel := rel) (so := so) (by omega)).2; omega
    · have := (folc4 (o := o) (rel := rel) (so := so) (by omega)).2; omega
    · rcases folc5 (o := o) (rel := rel) (so := so) (by omega) with ⟨-, h⟩ | ⟨-, h⟩ <;> omega
    · rcases folc6 (o := o) (rel := rel) (so := so) (by omega) with ⟨-, h⟩ | ⟨-, -, h⟩ | ⟨-, -, -, h⟩ | ⟨-, -, -, h⟩ | ⟨-, -, -, h⟩ <;> omega
set_option maxHeartbeats 4000000 in
set_option maxRecDepth 100000 in
theorem tX3_compile (Y : gY) (hY : Y.2.2.2 = wC) {G : gS} {j n : Nat} (hj : j < 3) (hrj : G.2.2 3 3 = 40 + j) (hT : tapeOk G n) : ∀ l : Launch, gM Y l yX3_compile cX3_compile 3 (some .int) (4, 85) [.ref (Y.2.1 (3))] G (qi (fun x G' => x = (pRun (tB G) n 401 0 0 pS0).1 ∧ G'.1 3 8 = (pRun (tB G) n 401 0 0 pS0).2.1 ∧ Fr (sT j) G G' ∧ (x = nI 0 → RS G' j true (pRun (tB G) n 401 0 0 pS0).2.2.2.2.2.2.2 ∧ ∃ k, pInv k (pRun (tB G) n 401 0 0 pS0).2.2))) := by
  intro l
  refine gM_of hY rfl (Nat.le_of_ble_eq_true rfl) [some (.ref (Y.2.1 (3))), none, none] rfl rfl ?_
  rintro Z rfl C
  have hn20 := hT.2.1
  have loop : ∀ (k0 : Nat) (k p e o : Nat) (rel : Bool) (fw : Int32) (ops : List Nat) (rs : List pR) (Gx : gS) (o2 : Option Value), k0 = 401 - k → k ≤ 400 → p ≤ n → Fr (sT j) G Gx → Gx.1 5 1 = nI p → RD Gx j (decide (e ≠ 1 ∧ e ≠ 3)) (e, o, rel, fw, ops, rs) → pInv k (e, o, rel, fw, ops, rs) → pRun (tB G) n (401 - k) k p (e, o, rel, fw, ops, rs) = pRun (tB G) n 401 0 0 pS0 → WW Z (qi (fun x G' => x = (pRun (tB G) n 401 0 0 pS0).1 ∧ G'.1 3 8 = (pRun (tB G) n 401 0 0 pS0).2.1 ∧ Fr (sT j) G G' ∧ (x = nI 0 → RS G' j true (pRun (tB G) n 401 0 0 pS0).2.2.2.2.2.2.2 ∧ ∃ k, pInv k (pRun (tB G) n 401 0 0 pS0).2.2))) 6 [some (.ref (ad Z (3))), some (.int (nI k)), o2] [] Gx := by
    intro k0
    induction k0 using Nat.strongRecOn with
    | _ k0 ih =>
      intro k p e o rel fw ops rs Gx o2 hk0 hk hp hF hp1 hRD hi hR
      have hT2 : tapeOk Gx n := by unfold tapeOk tB; rw [hF.1 1 (by intro h; unfold sT at h; omega), hF.1 2 (by intro h; unfold sT at h; omega)]; exact hT
      refine r_iload1 (pc := 6) C dX3_compile_6 ?_
      refine r_sipush (pc := 7) (v := nI 400) C dX3_compile_7 (by decide) ?_
      refine r_icmp_gt (pc := 10) 120 C dX3_compile_10 (by decide) (fun c10 => ?_) (fun c10 => ?_)
      · exact absurd c10 (fun h => absurd ((nI_ltI (by decide) (by omega)).mp h) (by omega))
      refine r_aload0 (pc := 13) C dX3_compile_13 ?_
      refine gX3_31 (pc := 14) C dX3_compile_14 ?_
      refine r_callVv (pc := 17) C rfl dX3_compile_17 kX3_38 gF6 jC5 (tX6_advance Z.1 C.w (n := n) (i0 := p) hT2 hp hp1) rfl rfl (Nat.le_of_ble_eq_true rfl) (by decide) (fun G17 h17 => ?_)
      have htB : tB Gx = tB G := by unfold tB; rw [hF.1 2 (by intro h; unfold sT at h; omega)]
      rw [htB] at h17
      have htq : tokQ (cN (tokC (tB G) n p).1) (tokC (tB G) n p).2.1 := (tokC_P (tB G) n p).q
      have htp := tokC_P (tB G) n p
      have hF17 : Fr (sT j) Gx G17 := by rw [h17]; exact Fr.refl.sW (Or.inr (Or.inr (Or.inl rfl)))
      have s1 : G17.1 5 1 = nI (tokC (tB G) n p).2.2.2 := by rw [h17, sW_s]; rfl
      have s2 : G17.1 5 2 = nI (tokC (tB G) n p).2.2.1 := by rw [h17, sW_s]; rfl
      have s3 : G17.1 5 3 = nI (cN (tokC (tB G) n p).1) := by rw [h17, sW_s]; exact htp.1
      have s4 : G17.1 5 4 = (tokC (tB G) n p).2.1 := by rw [h17, sW_s]; rfl
      have hF5 : Fr (fun q => q = 5) Gx G17 := by rw [h17]; exact (Fr.refl (S := fun q => q = 5)).sW rfl
      have hRD17 : RD G17 j (decide (e ≠ 1 ∧ e ≠ 3)) (e, o, rel, fw, ops, rs) := by
        obtain ⟨z1, z2, z3, z4, z5, z6, z7⟩ := hRD
        refine ⟨?_, ?_, ?_, ?_, ?_, ?_, z7.fr hF5 (by omega) (by omega) (by omega) (by omega) (by omega) (by omega)⟩
        · rw [hF5.1 3 (by decide)]; exact z1
        · rw [hF5.1 3 (by decide)]; exact z2
        · rw [hF5.1 3 (by decide)]; exact z3
        · rw [hF5.1 3 (by decide)]; exact z4
        · rw [hF5.1 3 (by decide)]; exact z5
        · rw [hF5.1 4 (by decide)]; exact z6
      have hrj17 : G17.2.2 3 3 = 40 + j := by rw [hF17.2.2, hF.2.2]; exact hrj
      rw [show 401 - k = (400 - k) + 1 by omega, pRun] at hR
      dsimp only at hR
      refine r_aload0 (pc := 20) C dX3_compile_20 ?_
      refine r_aload0 (pc := 21) C dX3_compile_21 ?_
      refine gX3_31 (pc := 22) C dX3_compile_22 ?_
      refine gX3_41 (pc := 25) C dX3_compile_25 ?_
      refine r_eqi s3 ?_
      refine r_callVi (pc := 28) C rfl dX3_compile_28 kX3_44 gF3 jC3 (tX3_following Z.1 C.w hRD17.1 hi.1 hRD17.2.1 hi.2.1 hRD17.2.2.1 htq.1) rfl rfl (Nat.le_of_ble_eq_true rfl) (by decide) (fun x28 G28 h28 => ?_)
      obtain ⟨rfl, h28b⟩ := h28
      have h28b := h28b.symm
      subst h28b
      refine r_istore2 (pc := 31) C dX3_compile_31 rfl ?_
      refine r_iload2 (pc := 32) C dX3_compile_32 ?_
      refine r_iconst (pc := 33) (v := (-1)) C dX3_compile_33 (by decide) ?_
      refine r_icmp_ne (pc := 34) 50 C dX3_compile_34 (by decide) (fun c34 => ?_) (fun c34 => ?_)
      · have h9 : (fol e o rel (cN (tokC (tB G) n p).1)) ≠ 9 := fun h => c34 (by rw [h]; rfl)
        refine r_iload2 (pc := 50) C dX3_compile_50 ?_
        refine r_bipush (pc := 51) (v := nI 7) C dX3_compile_51 (by decide) ?_
        refine r_icmp_ne (pc := 53) 78 C dX3_compile_53 (by decide) (fun c53 => ?_) (fun c53 => ?_)
        · have h7 : (fol e o rel (cN (tokC (tB G) n p).1)) ≠ 7 := fun h => c53 (by rw [h]; rfl)
          refine r_iload1 (pc := 78) C dX3_compile_78 ?_
          refine r_sipush (pc := 79) (v := nI 400) C dX3_compile_79 (by decide) ?_
          refine r_icmp_eq (pc := 82) 92 C dX3_compile_82 (by decide) (fun c82 => ?_) (fun c82 => ?_)
          · have hk400 : k = 400 := (nI_eq (by omega) (by decide)).mp c82
            refine r_aload0 (pc := 92) C dX3_compile_92 ?_
            refine r_aload0 (pc := 93) C dX3_compile_93 ?_
            refine gX3_31 (pc := 94) C dX3_compile_94 ?_
            refine gX3_48 (pc := 97) C dX3_compile_97 ?_
            refine r_eqi s2 ?_
            refine pX3_22 (pc := 100) C dX3_compile_100 ?_
            refine r_iconst (pc := 103) (v := nI 2) C dX3_compile_103 (by decide) ?_
            exact r_ireturn (pc := 104) C dX3_compile_104 (⟨by rw [← hR, if_neg h9, if_neg h7, if_pos (Or.inl hk400)], by rw [sI_s, upd_s, ← hR, if_neg h9, if_neg h7, if_pos (Or.inl hk400)], ((hF.trans hF17)).sI (Or.inl rfl), fun h => absurd h (by decide)⟩)
          · have hk400 : k ≠ 400 := fun h => c82 (by rw [h])
            refine r_aload0 (pc := 85) C dX3_compile_85 ?_
            refine r_callVi (pc := 86) C rfl dX3_compile_86 kX3_54 gF3 jC3 (tX3_isOverfull Z.1 C.w (s := rs.length) hj hrj17 hRD17.1 hi.1 hRD17.2.1 hi.2.1 s3 htq.1 hRD17.2.2.2.2.2.2.1 hi.2.2.2.1) rfl rfl (Nat.le_of_ble_eq_true rfl) (by decide) (fun x86 G86 h86 => ?_)
            obtain ⟨rfl, h86b⟩ := h86
            have h86b := h86b.symm
            subst h86b
            refine r_if_eq (pc := 89) 105 C dX3_compile_89 (by decide) (fun c89 => ?_) (fun c89 => ?_)
            · have hov : overS (e, o, rel, fw, ops, rs) (cN (tokC (tB G) n p).1) = false := bI_z.mp c89
              refine r_aload0 (pc := 105) C dX3_compile_105 ?_
              refine r_callVv (pc := 106) C rfl dX3_compile_106 kX3_58 gF3 jC3 (tX3_take Z.1 C.w (so := cN (tokC (tB G) n p).1) (a := (tokC (tB G) n p).2.2.1) (v := (tokC (tB G) n p).2.1) (k := k) hj hrj17 s3 s4 s2 hRD17 hi (by omega) htq h9 hov) rfl rfl (Nat.le_of_ble_eq_true rfl) (by decide) (fun G106 h106 => ?_)
              obtain ⟨hF106, hRD2⟩ := h106
              have e5 : G106.1 5 = G17.1 5 := hF106.1 5 (by intro h; unfold sU at h; omega)
              have hF106 : Fr (sT j) G17 G106 := hF106.mono (fun q h => by unfold sU at h; unfold sT; omega)
              refine r_aload0 (pc := 109) C dX3_compile_109 ?_
              refine r_iload2 (pc := 110) C dX3_compile_110 ?_
              refine pX3_61 (pc := 111) C dX3_compile_111 ?_
              refine r_iinc1 (pc := 114) (nI 1) C dX3_compile_114 (by decide) rfl ?_
              rw [nI_add]
              refine r_goto (pc := 117) 6 C dX3_compile_117 (by decide) ?_
              have hRD' : RD (sI G106 3 4 (n9 (fol e o rel (cN (tokC (tB G) n p).1)))) j (decide ((fol e o rel (cN (tokC (tB G) n p).1)) ≠ 1 ∧ (fol e o rel (cN (tokC (tB G) n p).1)) ≠ 3)) (setE (takeS (e, o, rel, fw, ops, rs) (cN (tokC (tB G) n p).1) (tokC (tB G) n p).2.1 (tokC (tB G) n p).2.2.1) (fol e o rel (cN (tokC (tB G) n p).1))) := by
                obtain ⟨z1, z2, z3, z4, z5, z6, z7⟩ := hRD2
                have hb : decide ((fol e o rel (cN (tokC (tB G) n p).1)) ≠ 1 ∧ (fol e o rel (cN (tokC (tB G) n p).1)) ≠ 3) = decide (e ≠ 0) := by
                  have hc := hi.1
                  dsimp only at hc
                  rcases (show e = 0 ∨ e = 1 ∨ e = 2 ∨ e = 3 ∨ e = 4 ∨ e = 5 ∨ e = 6 by omega) with rfl | rfl | rfl | rfl | rfl | rfl | rfl
                  · rcases folc0 h9 h7 with ⟨-, h⟩ | ⟨-, h⟩ <;> rw [h] <;> decide
                  · rw [(folc1 h9).2]; decide
                  · rcases folc2 h9 with ⟨-, h⟩ | ⟨-, h⟩ <;> rw [h] <;> decide
                  · rw [(folc3 h9).2]; decide
                  · rw [(folc4 h9).2]; decide
                  · rcases folc5 h9 with ⟨-, h⟩ | ⟨-, h⟩ <;> rw [h] <;> decide
                  · rcases folc6 h9 with ⟨-, h⟩ | ⟨-, -, h⟩ | ⟨-, -, -, h⟩ | ⟨-, -, -, h⟩ | ⟨-, -, -, h⟩ <;> rw [h] <;> decide
                have hF : Fr (fun q => q = 3) G106 (sI G106 3 4 (n9 (fol e o rel (cN (tokC (tB G) n p).1)))) := (Fr.refl (S := fun q => q = 3)).sI rfl
                refine ⟨?_, ?_, ?_, ?_, ?_, ?_, ?_⟩
                · rw [sI_s, upd_s, n9, if_neg h9]; rfl
                · rw [sI_s, upd_o (by decide)]; exact z2
                · rw [sI_s, upd_o (by decide)]; exact z3
                · rw [sI_s, upd_o (by decide)]; exact z4
                · rw [sI_s, upd_o (by decide)]; exact z5
                · rw [sI_o (by decide)]; exact z6
                · rw [hb]; exact z7.fr hF (by omega) (by omega) (by omega) (by omega) (by omega) (by omega)
              have hF' : Fr (sT j) G (sI G106 3 4 (n9 (fol e o rel (cN (tokC (tB G) n p).1)))) := ((hF.trans hF17).trans hF106).sI (Or.inl rfl)
              have hsc : (sI G106 3 4 (n9 (fol e o rel (cN (tokC (tB G) n p).1)))).1 5 1 = nI (tokC (tB G) n p).2.2.2 := by rw [sI_o (by decide), e5]; exact s1
              generalize hs' : setE (takeS (e, o, rel, fw, ops, rs) (cN (tokC (tB G) n p).1) (tokC (tB G) n p).2.1 (tokC (tB G) n p).2.2.1) (fol e o rel (cN (tokC (tB G) n p).1)) = s' at hRD'
              obtain ⟨e', o', rel', fw', ops', rs'⟩ := s'
              have hth : (fol e o rel (cN (tokC (tB G) n p).1)) = e' := by have := congrArg Prod.fst hs'; exact this
              have hb2 : decide ((fol e o rel (cN (tokC (tB G) n p).1)) ≠ 1 ∧ (fol e o rel (cN (tokC (tB G) n p).1)) ≠ 3) = decide (e' ≠ 1 ∧ e' ≠ 3) := by rw [hth]
              rw [hb2] at hRD'
              refine ih (400 - k) (by omega) (k + 1) (tokC (tB G) n p).2.2.2 e' o' rel' fw' ops' rs' _ _ (by omega) (by omega) (tokC_le hp).1 hF' hsc hRD' ?_ ?_
              · rw [← hs']; exact pInv_step hi htq h9 h7 hov
              · rw [← hR, if_neg h9, if_neg h7, if_neg (by rintro (h | h); omega; rw [hov] at h; cases h), ← hs']
                congr 1
                omega
            · have hov : overS (e, o, rel, fw, ops, rs) (cN (tokC (tB G) n p).1) = true := bI_n.mp c89
              refine r_aload0 (pc := 92) C dX3_compile_92 ?_
              refine r_aload0 (pc := 93) C dX3_compile_93 ?_
              refine gX3_31 (pc := 94) C dX3_compile_94 ?_
              refine gX3_48 (pc := 97) C dX3_compile_97 ?_
              refine r_eqi s2 ?_
              refine pX3_22 (pc := 100) C dX3_compile_100 ?_
              refine r_iconst (pc := 103) (v := nI 2) C dX3_compile_103 (by decide) ?_
              exact r_ireturn (pc := 104) C dX3_compile_104 (⟨by rw [← hR, if_neg h9, if_neg h7, if_pos (Or.inr hov)], by rw [sI_s, upd_s, ← hR, if_neg h9, if_neg h7, if_pos (Or.inr hov)], ((hF.trans hF17)).sI (Or.inl rfl), fun h => absurd h (by decide)⟩)
        · have h7 : (fol e o rel (cN (tokC (tB G) n p).1)) = 7 := by
            rw [n9, if_neg h9] at c53
            exact (nI_eq (by have := fol_le e o rel (cN (tokC (tB G) n p).1); omega) (by decide)).mp c53
          refine r_aload0 (pc := 56) C dX3_compile_56 ?_
          refine r_aload0 (pc := 57) C dX3_compile_57 ?_
          refine gX3_51 (pc := 58) C dX3_compile_58 ?_
          refine r_eqi hRD17.2.2.2.1 ?_
          refine pX3_22 (pc := 61) C dX3_compile_61 ?_
          refine r_aload0 (pc := 64) C dX3_compile_64 ?_
          refine gX3_51 (pc := 65) C dX3_compile_65 ?_
          refine r_eqi (y := fw) (by rw [sI_s, upd_o (by decide)]; exact hRD17.2.2.2.1) ?_
          refine r_iconst (pc := 68) (v := (-1)) C dX3_compile_68 (by decide) ?_
          refine r_icmp_ne (pc := 69) 76 C dX3_compile_69 (by decide) (fun c69 => ?_) (fun c69 => ?_)
          · refine r_iconst (pc := 76) (v := nI 5) C dX3_compile_76 (by decide) ?_
            exact r_ireturn (pc := 77) C dX3_compile_77 (by
        have he0 : e = 0 := by
          have hc := hi.1
          dsimp only at hc
          have := fol_7 (e := e) hc h7
          exact this
        subst he0
        rw [← hR, if_neg h9, if_pos h7, if_neg c69]
        refine ⟨rfl, by rw [sI_s, upd_s], ((hF.trans hF17)).sI (Or.inl rfl), fun _ => ⟨?_, k, hi⟩⟩
        exact hRD17.2.2.2.2.2.2.fr (S := fun q => q = 3) ((Fr.refl (S := fun q => q = 3)).sI rfl) (by omega) (by omega) (by omega) (by omega) (by omega) (by omega))
          · refine r_iconst (pc := 72) (v := nI 0) C dX3_compile_72 (by decide) ?_
            refine r_goto (pc := 73) 77 C dX3_compile_73 (by decide) ?_
            exact r_ireturn (pc := 77) C dX3_compile_77 (by
        have he0 : e = 0 := by
          have hc := hi.1
          dsimp only at hc
          have := fol_7 (e := e) hc h7
          exact this
        subst he0
        rw [← hR, if_neg h9, if_pos h7, if_pos c69]
        refine ⟨rfl, by rw [sI_s, upd_s], ((hF.trans hF17)).sI (Or.inl rfl), fun _ => ⟨?_, k, hi⟩⟩
        exact hRD17.2.2.2.2.2.2.fr (S := fun q => q = 3) ((Fr.refl (S := fun q => q = 3)).sI rfl) (by omega) (by omega) (by omega) (by omega) (by omega) (by omega))
      · have h9 : (fol e o rel (cN (tokC (tB G) n p).1)) = 9 := by
          rcases Nat.lt_or_ge (fol e o rel (cN (tokC (tB G) n p).1)) 9 with h | h
          · rw [n9, if_neg (show ¬ (fol e o rel (cN (tokC (tB G) n p).1)) = 9 by omega)] at c34
            exact absurd (show nI (fol e o rel (cN (tokC (tB G) n p).1)) < 0 from by rw [c34]; decide) (nI_pos (by omega))
          · by_cases e9 : (fol e o rel (cN (tokC (tB G) n p).1)) = 9
            · exact e9
            · rw [n9, if_neg e9] at c34
              exact absurd (show nI (fol e o rel (cN (tokC (tB G) n p).1)) < 0 from by rw [c34]; decide) (nI_pos (by have := fol_le e o rel (cN (tokC (tB G) n p).1); omega))
        refine r_aload0 (pc := 37) C dX3_compile_37 ?_
        refine r_aload0 (pc := 38) C dX3_compile_38 ?_
        refine gX3_31 (pc := 39) C dX3_compile_39 ?_
        refine gX3_48 (pc := 42) C dX3_compile_42 ?_
        refine r_eqi s2 ?_
        refine pX3_22 (pc := 45) C dX3_compile_45 ?_
        refine r_iconst (pc := 48) (v := nI 1) C dX3_compile_48 (by decide) ?_
        exact r_ireturn (pc := 49) C dX3_compile_49 (⟨by rw [← hR, if_pos h9], by rw [sI_s, upd_s, ← hR, if_pos h9], ((hF.trans hF17)).sI (Or.inl rfl), fun h => absurd h (by decide)⟩)
  refine r_aload0 (pc := 0) C dX3_compile_0 ?_
  refine r_callVv (pc := 1) C rfl dX3_compile_1 kX3_35 gF3 jC3 (tX3_begin Z.1 C.w hj hrj) rfl rfl (Nat.le_of_ble_eq_true rfl) (by decide) (fun G1 h1 => ?_)
  obtain ⟨hF1, b1, b2, b3, b4, b5, b6, b7, b8⟩ := h1
  refine r_iconst (pc := 4) (v := nI 0) C dX3_compile_4 (by decide) ?_
  refine r_istore1 (pc := 5) C dX3_compile_5 rfl ?_
  have hF1t : Fr (sT j) G G1 := hF1.mono (fun q h => by
    rcases h with h | h | h
    · exact Or.inl h
    · exact Or.inr (Or.inr (Or.inl h))
    · exact Or.inr (Or.inr (Or.inr (Or.inl h))))
  exact loop _ 0 0 0 0 false (-1) [] [] G1 none rfl (by omega) (by omega) hF1t b6 ⟨b2, b3, b4, b5, b1, fun k hk => absurd hk (Nat.not_lt_zero k), b7, b8, trivial⟩ ⟨by decide, by decide, rfl, by decide, by decide, fun h => absurd rfl h, fun _ _ => ⟨rfl, rfl⟩, fun r hr => absurd hr List.not_mem_nil, (fun r rs h => by cases h), fun h => absurd h (by decide)⟩ rfl
