/-! the reference: what is asked -/
/-- the reference has gone, from c on -/
def gnD (G : gS) (h : hQ) (c : rC) : Prop := G.1 100 53 = nI 1 ∧ G.1 100 66 = (ctR h c 300).2.2.2.1 ∧ (∀ b, b < 72 → G.1 65 b = (ctR h c 300).2.1 b) ∧ gnH G h c 300 ∧ EqQ (hMc h) (ctR h c 300).1 (mmF G)
def frG (G G' : gS) : Prop := Fr gnS G G' ∧ ∀ q, q ≠ 52 → q ≠ 53 → q ≠ 66 → G'.1 100 q = G.1 100 q
def goH (G : gS) (h : hQ) (fc wd : Nat) (c : rC) : Prop := relM G h fc wd ∧ hOk h fc ∧ (∀ k, k < 2 → ∀ v, hAn h k v = -1 ∨ hAn h k v = -2 ∨ 0 ≤ hAn h k v) ∧ kOk (hMc h) c.1 ∧ (∀ i, i < hMc h → ∀ k, k < 3 → mmF G i k = c.1 i k) ∧ (G.1 100 53 = 0 ∨ gnD G h c)
theorem frG.rel {G G' : gS} {h : hQ} {fc wd : Nat} (hf : frG G G') (hm : relM G h fc wd) : relM G' h fc wd := hm.fr hf.1 relS_gn (hf.2 36 (by decide) (by decide) (by decide)) (hf.2 41 (by decide) (by decide) (by decide)) (hf.2 44 (by decide) (by decide) (by decide))
theorem goQ {G G' : gS} {h : hQ} {fc wd : Nat} {c : rC} (hg : goH G h fc wd c) (hp : (¬ G.1 100 53 = 0 ∧ G' = G) ∨ (G.1 100 53 = 0 ∧ gnJ G G' h c 300 300 ∧ EqQ (hMc h) (ctR h c 300).1 (mmF G'))) : frG G G' ∧ gnD G' h c := by
  rcases hp with ⟨h1, rfl⟩ | ⟨h1, ⟨j1, j2, j3, j4, j5, j6⟩, hE⟩
  · exact ⟨⟨Fr.refl, fun _ _ _ _ => rfl⟩, hg.2.2.2.2.2.resolve_left h1⟩
  · exact ⟨⟨j1, j2⟩, j3, j4, j5, j6, hE⟩
/-- questions leave a run as it is -/
theorem gnD.fr {G G' : gS} {h : hQ} {c : rC} (hd : gnD G h c) (hF : Fr (fun q => q = 50 ∨ q = 51 ∨ q = 100) G G') (h1 : ∀ q, q ≠ 52 → G'.1 100 q = G.1 100 q) : gnD G' h c := by
  obtain ⟨d1, d2, d3, d4, d5⟩ := hd
  refine ⟨by rw [h1 53 (by decide)]; exact d1, by rw [h1 66 (by decide)]; exact d2, by rw [hF.1 65 (by decide)]; exact d3, fun u hu => ?_, by rw [mmF_fr hF (by decide +kernel)]; exact d5⟩
  rw [hF.1 64 (by decide)]
  refine ⟨(d4 u hu).1, fun i hi j hj => ?_⟩
  rw [hF.1 (54 + j) (by omega)]
  exact (d4 u hu).2 i hi j hj
theorem frG.tr {G G' G'' : gS} (hf : frG G G') (hF : Fr (fun q => q = 50 ∨ q = 51 ∨ q = 100) G' G'') (h1 : ∀ q, q ≠ 52 → G''.1 100 q = G'.1 100 q) : frG G G'' :=
  ⟨Fr.trans hf.1 (hF.mono (fun q h => by unfold gnS; rcases h with h | h | h <;> simp [h])), fun q a b d => (h1 q a).trans (hf.2 q a b d)⟩
def edN (D : Nat → Bool) : Nat → Nat
  | 0 => 0
  | x + 1 => if D x = true then edN D x else x + 1
noncomputable def dnM (h : hQ) (c : rC) (x : Nat) : Bool := !anyN (fun i => decide ((ctR h c (x + 1)).1 i 3 < nI 4)) (hMc h)
theorem dnM_eq {G : gS} {h : hQ} {c : rC} (hd : gnD G h c) {x : Nat} (hx : x < 300) : bI (!anyN (fun i => decide (G.1 54 (300 * i + x) < nI 4)) (hMc h)) = bI (dnM h c x) := by
  unfold dnM
  rw [anyN_cong (fun i hi => by rw [(hd.2.2.2.1 x hx).2 i hi 0 (by decide)])]
theorem i32_dn (a b : Int32) : (a - b) + (-1) = a - (b + nI 1) := by
  apply Int32.toBitVec_inj.mp
  simp only [Int32.toBitVec_add, Int32.toBitVec_sub]
  rw [show (-1 : Int32).toBitVec = (-1#32) from by decide, show (nI 1).toBitVec = 1#32 from by decide]
  bv_omega
theorem i32_z {a b : Int32} : a - b = 0 ↔ b = a := by
  constructor
  · intro h
    have := congrArg Int32.toBitVec h
    simp only [Int32.toBitVec_sub] at this
    rw [show (0 : Int32).toBitVec = 0#32 from by decide] at this
    apply Int32.toBitVec_inj.mp
    bv_omega
  · rintro rfl
    exact Int32.sub_self b
set_option maxHeartbeats 4000000 in
set_option maxRecDepth 100000 in
theorem tX9_sends (Y : gY) (hY : Y.2.2.2 = wM) {G : gS} {h : hQ} {fc wd : Nat} {c : rC} (hg : goH G h fc wd c) {t : Int32} : ∀ l : Launch, gM Y l yX9_sends cX9_sends 2 (some .int) (5, 124) [.ref (Y.2.1 (100)), .int (t)] G (qi (fun r G' => if belB t (nI 300) = true then (frG G G' ∧ gnD G' h c ∧ r = (sdR h c (cN t)).1) else (r = -1 ∧ G' = G))) := by
  intro l
  refine gM_of hY rfl (Nat.le_of_ble_eq_true rfl) [some (.ref (Y.2.1 (100))), some (.int (t))] rfl rfl ?_
  rintro Z rfl C
  have hr := hg.1
  have hM8 : hMc h ≤ 8 := hr.2.1
  refine r_iload1 (pc := 0) C dX9_sends_0 ?_
  refine r_callSi (pc := 1) C rfl dX9_sends_1 kX9_323 (tX9_isTick Z.1 C.w) rfl rfl (Nat.le_of_ble_eq_true rfl) (by decide) (fun x1 G1 h1 => ?_)
  obtain ⟨rfl, h1b⟩ := h1
  have h1b := h1b.symm
  subst h1b
  refine r_if_ne (pc := 4) 9 C dX9_sends_4 (by decide) (fun c4 => ?_) (fun c4 => ?_)
  · have d4 := bI_n.mp c4
    simp only [if_pos d4]
    obtain ⟨t, ht, rfl⟩ := belB_t d4 (by decide)
    refine r_aload0 (pc := 9) C dX9_sends_9 ?_
    refine r_callVv (pc := 10) C rfl dX9_sends_10 kX9_387 gF9 jM (tX9_goes Z.1 C.w hg.1 hg.2.1 hg.2.2.1 hg.2.2.2.1 hg.2.2.2.2.1) rfl rfl (Nat.le_of_ble_eq_true rfl) (by decide) (fun G10 h10 => ?_)
    obtain ⟨f10, d10⟩ := goQ hg h10
    refine r_aload0 (pc := 13) C dX9_sends_13 ?_
    refine gX9_152 (pc := 14) C dX9_sends_14 ?_
    refine r_iload1 (pc := 17) C dX9_sends_17 ?_
    refine r_iald (pc := 18) (_) C dX9_sends_18 aM64 (rfl) (by omega) ?_
    exact r_ireturn (pc := 19) C dX9_sends_19 (by rw [cN_nI (by omega)]; exact ⟨f10, d10, (d10.2.2.2.1 t ht).1⟩)
  · refine r_iconst (pc := 7) (v := (-1)) C dX9_sends_7 (by decide) ?_
    exact r_ireturn (pc := 8) C dX9_sends_8 (by rw [if_neg (fun h => by rw [bI_z.mp c4] at h; cases h)]; exact ⟨rfl, rfl⟩)
set_option maxHeartbeats 4000000 in
set_option maxRecDepth 100000 in
theorem tX9_state (Y : gY) (hY : Y.2.2.2 = wM) {G : gS} {h : hQ} {fc wd : Nat} {c : rC} (hg : goH G h fc wd c) {m t q : Int32} : ∀ l : Launch, gM Y l yX9_state cX9_state 5 (some .int) (5, 124) [.ref (Y.2.1 (100)), .int (m), .int (t), .int (q)] G (qi (fun r G' => if belB m (nI (hMc h)) = true ∧ belB t (nI 300) = true ∧ belB q (nI 10) = true then (frG G G' ∧ gnD G' h c ∧ r = (ctR h c (cN t + 1)).1 (cN m) (3 + cN q)) else (r = -1000000 ∧ G' = G))) := by
  intro l
  refine gM_of hY rfl (Nat.le_of_ble_eq_true rfl) [some (.ref (Y.2.1 (100))), some (.int (m)), some (.int (t)), some (.int (q)), none] rfl rfl ?_
  rintro Z rfl C
  have hr := hg.1
  have hM8 : hMc h ≤ 8 := hr.2.1
  refine r_aload0 (pc := 0) C dX9_state_0 ?_
  refine r_iload1 (pc := 1) C dX9_state_1 ?_
  refine r_callVi (pc := 2) C rfl dX9_state_2 kX9_329 gF9 jM (tX9_isMachine Z.1 C.w) rfl rfl (Nat.le_of_ble_eq_true rfl) (by decide) (fun x2 G2 h2 => ?_)
  obtain ⟨rfl, h2b⟩ := h2
  have h2b := h2b.symm
  subst h2b
  rw [hr.1]
  refine r_if_eq (pc := 5) 25 C dX9_state_5 (by decide) (fun c5 => ?_) (fun c5 => ?_)
  · refine r_ldcw (pc := 25) C dX9_state_25 ctX9_390 ?_
    exact r_ireturn (pc := 28) C dX9_state_28 (by rw [if_neg (fun z => by rw [bI_z.mp c5] at z; exact absurd z.1 (by decide))]; exact ⟨rfl, rfl⟩)
  · refine r_iload2 (pc := 8) C dX9_state_8 ?_
    refine r_callSi (pc := 9) C rfl dX9_state_9 kX9_323 (tX9_isTick Z.1 C.w) rfl rfl (Nat.le_of_ble_eq_true rfl) (by decide) (fun x9 G9 h9 => ?_)
    obtain ⟨rfl, h9b⟩ := h9
    have h9b := h9b.symm
    subst h9b
    refine r_if_eq (pc := 12) 25 C dX9_state_12 (by decide) (fun c12 => ?_) (fun c12 => ?_)
    · refine r_ldcw (pc := 25) C dX9_state_25 ctX9_390 ?_
      exact r_ireturn (pc := 28) C dX9_state_28 (by rw [if_neg (fun z => by rw [bI_z.mp c12] at z; exact absurd z.2.1 (by decide))]; exact ⟨rfl, rfl⟩)
    · refine r_iload3 (pc := 15) C dX9_state_15 ?_
      refine r_if_lt (pc := 16) 25 C dX9_state_16 (by decide) (fun c16 => ?_) (fun c16 => ?_)
      · refine r_ldcw (pc := 25) C dX9_state_25 ctX9_390 ?_
        exact r_ireturn (pc := 28) C dX9_state_28 (by rw [if_neg (fun z => ((belB_m (b := 9) (by decide)).mp z.2.2).1 c16)]; exact ⟨rfl, rfl⟩)
      · refine r_iload3 (pc := 19) C dX9_state_19 ?_
        refine r_bipush (pc := 20) (v := nI 9) C dX9_state_20 (by decide) ?_
        refine r_icmp_le (pc := 22) 29 C dX9_state_22 (by decide) (fun c22 => ?_) (fun c22 => ?_)
        · have dc : belB m (nI (hMc h)) = true ∧ belB t (nI 300) = true ∧ belB q (nI 10) = true := ⟨bI_n.mp c5, bI_n.mp c12, (belB_m (b := 9) (by decide)).mpr ⟨c16, Int32.not_lt.mpr c22⟩⟩
          simp only [if_pos dc]
          obtain ⟨m, hmm, rfl⟩ := belB_t dc.1 (by omega)
          obtain ⟨t, ht, rfl⟩ := belB_t dc.2.1 (by decide)
          obtain ⟨q, hq, rfl⟩ := belB_t dc.2.2 (by decide)
          rw [cN_nI (n := m) (by omega), cN_nI (n := t) (by omega), cN_nI (n := q) (by omega)]
          refine r_aload0 (pc := 29) C dX9_state_29 ?_
          refine r_callVv (pc := 30) C rfl dX9_state_30 kX9_387 gF9 jM (tX9_goes Z.1 C.w hg.1 hg.2.1 hg.2.2.1 hg.2.2.2.1 hg.2.2.2.2.1) rfl rfl (Nat.le_of_ble_eq_true rfl) (by decide) (fun G30 h30 => ?_)
          obtain ⟨f30, d30⟩ := goQ hg h30
          refine r_sipush (pc := 33) (v := nI 300) C dX9_state_33 (by decide) ?_
          refine r_iload1 (pc := 36) C dX9_state_36 ?_
          refine r_imul (pc := 37) C dX9_state_37 ?_
          refine r_eqi (pk_mul 300 m) ?_
          refine r_iload2 (pc := 38) C dX9_state_38 ?_
          refine r_iadd (pc := 39) C dX9_state_39 ?_
          refine r_eqi (nI_add _ _) ?_
          refine r_istore4 (pc := 40) C dX9_state_40 rfl ?_
          refine r_iload3 (pc := 42) C dX9_state_42 ?_
          by_cases s43_0 : nI q = nI 0
          · refine r_eqi s43_0 ?_
            refine r_tableIn (pc := 43) 92 C dX9_state_43 (by decide) (by decide) (off := 49) rfl (by decide) ?_
            refine r_aload0 (pc := 92) C dX9_state_92 ?_
            refine gX9_122 (pc := 93) C dX9_state_93 ?_
            refine r_iload4 (pc := 96) C dX9_state_96 ?_
            refine r_iald (pc := 98) (_) C dX9_state_98 aM54 (rfl) (by omega) ?_
            exact r_ireturn (pc := 99) C dX9_state_99 (by
  obtain rfl : q = 0 := (nI_eq (by omega) (by decide)).mp s43_0
  exact ⟨f30, d30, (d30.2.2.2.1 t ht).2 m hmm 0 (by decide)⟩)
          by_cases s43_1 : nI q = nI 1
          · refine r_eqi s43_1 ?_
            refine r_tableIn (pc := 43) 100 C dX9_state_43 (by decide) (by decide) (off := 57) rfl (by decide) ?_
            refine r_aload0 (pc := 100) C dX9_state_100 ?_
            refine gX9_125 (pc := 101) C dX9_state_101 ?_
            refine r_iload4 (pc := 104) C dX9_state_104 ?_
            refine r_iald (pc := 106) (_) C dX9_state_106 aM55 (rfl) (by omega) ?_
            exact r_ireturn (pc := 107) C dX9_state_107 (by
  obtain rfl : q = 1 := (nI_eq (by omega) (by decide)).mp s43_1
  exact ⟨f30, d30, (d30.2.2.2.1 t ht).2 m hmm 1 (by decide)⟩)
          by_cases s43_2 : nI q = nI 2
          · refine r_eqi s43_2 ?_
            refine r_tableIn (pc := 43) 108 C dX9_state_43 (by decide) (by decide) (off := 65) rfl (by decide) ?_
            refine r_aload0 (pc := 108) C dX9_state_108 ?_
            refine gX9_128 (pc := 109) C dX9_state_109 ?_
            refine r_iload4 (pc := 112) C dX9_state_112 ?_
            refine r_iald (pc := 114) (_) C dX9_state_114 aM56 (rfl) (by omega) ?_
            exact r_ireturn (pc := 115) C dX9_state_115 (by
  obtain rfl : q = 2 := (nI_eq (by omega) (by decide)).mp s43_2
  exact ⟨f30, d30, (d30.2.2.2.1 t ht).2 m hmm 2 (by decide)⟩)
          by_cases s43_3 : nI q = nI 3
          · refine r_eqi s43_3 ?_
            refine r_tableIn (pc := 43) 116 C dX9_state_43 (by decide) (by decide) (off := 73) rfl (by decide) ?_
            refine r_aload0 (pc := 116) C dX9_state_116 ?_
            refine gX9_131 (pc := 117) C dX9_state_117 ?_
            refine r_iload4 (pc := 120) C dX9_state_120 ?_
            refine r_iald (pc := 122) (_) C dX9_state_122 aM57 (rfl) (by omega) ?_
            exact r_ireturn (pc := 123) C dX9_state_123 (by
  obtain rfl : q = 3 := (nI_eq (by omega) (by decide)).mp s43_3
  exact ⟨f30, d30, (d30.2.2.2.1 t ht).2 m hmm 3 (by decide)⟩)
          by_cases s43_4 : nI q = nI 4
          · refine r_eqi s43_4 ?_
            refine r_tableIn (pc := 43) 124 C dX9_state_43 (by decide) (by decide) (off := 81) rfl (by decide) ?_
            refine r_aload0 (pc := 124) C dX9_state_124 ?_
            refine gX9_134 (pc := 125) C dX9_state_125 ?_
            refine r_iload4 (pc := 128) C dX9_state_128 ?_
            refine r_iald (pc := 130) (_) C dX9_state_130 aM58 (rfl) (by omega) ?_
            exact r_ireturn (pc := 131) C dX9_state_131 (by
  obtain rfl : q = 4 := (nI_eq (by omega) (by decide)).mp s43_4
  exact ⟨f30, d30, (d30.2.2.2.1 t ht).2 m hmm 4 (by decide)⟩)
          by_cases s43_5 : nI q = nI 5
          · refine r_eqi s43_5 ?_
            refine r_tableIn (pc := 43) 132 C dX9_state_43 (by decide) (by decide) (off := 89) rfl (by decide) ?_
            refine r_aload0 (pc := 132) C dX9_state_132 ?_
            refine gX9_137 (pc := 133) C dX9_state_133 ?_
            refine r_iload4 (pc := 136) C dX9_state_136 ?_
            refine r_iald (pc := 138) (_) C dX9_state_138 aM59 (rfl) (by omega) ?_
            exact r_ireturn (pc := 139) C dX9_state_139 (by
  obtain rfl : q = 5 := (nI_eq (by omega) (by decide)).mp s43_5
  exact ⟨f30, d30, (d30.2.2.2.1 t ht).2 m hmm 5 (by decide)⟩)
          by_cases s43_6 : nI q = nI 6
          · refine r_eqi s43_6 ?_
            refine r_tableIn (pc := 43) 140 C dX9_state_43 (by decide) (by decide) (off := 97) rfl (by decide) ?_
            refine r_aload0 (pc := 140) C dX9_state_140 ?_
            refine gX9_140 (pc := 141) C dX9_state_141 ?_
            refine r_iload4 (pc := 144) C dX9_state_144 ?_
            refine r_iald (pc := 146) (_) C dX9_state_146 aM60 (rfl) (by omega) ?_
            exact r_ireturn (pc := 147) C dX9_state_147 (by
  obtain rfl : q = 6 := (nI_eq (by omega) (by decide)).mp s43_6
  exact ⟨f30, d30, (d30.2.2.2.1 t ht).2 m hmm 6 (by decide)⟩)
          by_cases s43_7 : nI q = nI 7
          · refine r_eqi s43_7 ?_
            refine r_tableIn (pc := 43) 148 C dX9_state_43 (by decide) (by decide) (off := 105) rfl (by decide) ?_
            refine r_aload0 (pc := 148) C dX9_state_148 ?_
            refine gX9_143 (pc := 149) C dX9_state_149 ?_
            refine r_iload4 (pc := 152) C dX9_state_152 ?_
            refine r_iald (pc := 154) (_) C dX9_state_154 aM61 (rfl) (by omega) ?_
            exact r_ireturn (pc := 155) C dX9_state_155 (by
  obtain rfl : q = 7 := (nI_eq (by omega) (by decide)).mp s43_7
  exact ⟨f30, d30, (d30.2.2.2.1 t ht).2 m hmm 7 (by decide)⟩)
          by_cases s43_8 : nI q = nI 8
          · refine r_eqi s43_8 ?_
            refine r_tableIn (pc := 43) 156 C dX9_state_43 (by decide) (by decide) (off := 113) rfl (by decide) ?_
            refine r_aload0 (pc := 156) C dX9_state_156 ?_
            refine gX9_146 (pc := 157) C dX9_state_157 ?_
            refine r_iload4 (pc := 160) C dX9_state_160 ?_
            refine r_iald (pc := 162) (_) C dX9_state_162 aM62 (rfl) (by omega) ?_
            exact r_ireturn (pc := 163) C dX9_state_163 (by
  obtain rfl : q = 8 := (nI_eq (by omega) (by decide)).mp s43_8
  exact ⟨f30, d30, (d30.2.2.2.1 t ht).2 m hmm 8 (by decide)⟩)
          refine r_tableOut (pc := 43) 164 C dX9_state_43 (tsw_o 0 8 (fun v a b => by rcases (show v = 0 ∨ v = 1 ∨ v = 2 ∨ v = 3 ∨ v = 4 ∨ v = 5 ∨ v = 6 ∨ v = 7 ∨ v = 8 by omega) with rfl | rfl | rfl | rfl | rfl | rfl | rfl | rfl | rfl <;> assumption) (by decide)) (by decide) ?_
          refine r_aload0 (pc := 164) C dX9_state_164 ?_
          refine gX9_149 (pc := 165) C dX9_state_165 ?_
          refine r_iload4 (pc := 168) C dX9_state_168 ?_
          refine r_iald (pc := 170) (_) C dX9_state_170 aM63 (rfl) (by omega) ?_
          exact r_ireturn (pc := 171) C dX9_state_171 (by
  obtain rfl : q = 9 := by
    have : ∀ v, v < 9 → q ≠ v := by
      intro v hv e
      subst e
      rcases (show q = 0 ∨ q = 1 ∨ q = 2 ∨ q = 3 ∨ q = 4 ∨ q = 5 ∨ q = 6 ∨ q = 7 ∨ q = 8 by omega) with rfl | rfl | rfl | rfl | rfl | rfl | rfl | rfl | rfl <;> contradiction
    have := this q
    omega
  exact ⟨f30, d30, (d30.2.2.2.1 t ht).2 m hmm 9 (by decide)⟩)
        · refine r_ldcw (pc := 25) C dX9_state_25 ctX9_390 ?_
          exact r_ireturn (pc := 28) C dX9_state_28 (by rw [if_neg (fun z => ((belB_m (b := 9) (by decide)).mp z.2.2).2 (Int32.not_le.mp c22))]; exact ⟨rfl, rfl⟩)
set_option maxHeartbeats 4000000 in
set_option maxRecDepth 100000 in
theorem tX9_sent (Y : gY) (hY : Y.2.2.2 = wM) {G : gS} {h : hQ} {fc wd : Nat} {c : rC} (hg : goH G h fc wd c) {f b : Int32} : ∀ l : Launch, gM Y l yX9_sent cX9_sent 3 (some .int) (5, 124) [.ref (Y.2.1 (100)), .int (f), .int (b)] G (qi (fun r G' => if (¬ f < 0 ∧ ¬ G.1 100 41 ≤ f ∧ ¬ b < 0 ∧ ¬ G.1 42 f.toNatClampNeg ≤ b) then (frG G G' ∧ gnD G' h c ∧ r = (ctR h c 300).2.1 (12 * cN f + cN b)) else (r = -1 ∧ G' = G))) := by
  intro l
  refine gM_of hY rfl (Nat.le_of_ble_eq_true rfl) [some (.ref (Y.2.1 (100))), some (.int (f)), some (.int (b))] rfl rfl ?_
  rintro Z rfl C
  have hr := hg.1
  have hM8 : hMc h ≤ 8 := hr.2.1
  refine r_aload0 (pc := 0) C dX9_sent_0 ?_
  refine r_iload1 (pc := 1) C dX9_sent_1 ?_
  refine r_callVi (pc := 2) C rfl dX9_sent_2 kX9_336 gF9 jM (tX9_isFile Z.1 C.w) rfl rfl (Nat.le_of_ble_eq_true rfl) (by decide) (fun x2 G2 h2 => ?_)
  obtain ⟨rfl, h2b⟩ := h2
  have h2b := h2b.symm
  subst h2b
  refine r_if_eq (pc := 5) 22 C dX9_sent_5 (by decide) (fun c5 => ?_) (fun c5 => ?_)
  · refine r_iconst (pc := 22) (v := (-1)) C dX9_sent_22 (by decide) ?_
    exact r_ireturn (pc := 23) C dX9_sent_23 (by rw [if_neg (fun z => absurd (show belB f (G.1 100 41) = true from decide_eq_true ⟨z.1, z.2.1⟩) (by rw [bI_z.mp c5]; decide))]; exact ⟨rfl, rfl⟩)
  · have d5 := of_decide_eq_true (bI_n.mp c5)
    obtain ⟨f, hff, rfl⟩ := nI_of d5.1
    have hfc : f < fc := by
      rcases Nat.lt_or_ge f fc with z | z
      · exact z
      · exact absurd (by rw [hr.2.2.1, hr.2.2.2.1]; exact nI_le z hff) d5.2
    have hf6 : f < 6 := by have := hr.2.2.2.2.1; omega
    refine r_iload2 (pc := 8) C dX9_sent_8 ?_
    refine r_if_lt (pc := 9) 22 C dX9_sent_9 (by decide) (fun c9 => ?_) (fun c9 => ?_)
    · refine r_iconst (pc := 22) (v := (-1)) C dX9_sent_22 (by decide) ?_
      exact r_ireturn (pc := 23) C dX9_sent_23 (by rw [if_neg (fun z => z.2.2.1 c9)]; exact ⟨rfl, rfl⟩)
    · refine r_iload2 (pc := 12) C dX9_sent_12 ?_
      refine r_aload0 (pc := 13) C dX9_sent_13 ?_
      refine gX9_98 (pc := 14) C dX9_sent_14 ?_
      refine r_iload1 (pc := 17) C dX9_sent_17 ?_
      refine r_iald (pc := 18) (_) C dX9_sent_18 aM42 (rfl) (by omega) ?_
      refine r_icmp_lt (pc := 19) 24 C dX9_sent_19 (by decide) (fun c19 => ?_) (fun c19 => ?_)
      · have dc : (¬ nI f < 0 ∧ ¬ G.1 100 41 ≤ nI f ∧ ¬ b < 0 ∧ ¬ G.1 42 (nI f).toNatClampNeg ≤ b) := ⟨d5.1, d5.2, c9, by rw [nI_clamp hff]; exact Int32.not_le.mpr c19⟩
        simp only [if_pos dc]
        obtain ⟨b, hbb, rfl⟩ := nI_of c9
        have hb12 : b < 12 := by
          rw [(hr.2.2.2.2.2.2.2.2.2.1 f hfc).1, (hg.2.1.2.2.2.1 f hfc).1] at c19
          have := (nI_ltI (by omega) (by have := (hg.2.1.2.2.2.1 f hfc).2.2; omega)).mp c19
          have := (hg.2.1.2.2.2.1 f hfc).2.2
          omega
        rw [cN_nI (n := f) (by omega), cN_nI (n := b) (by omega)]
        refine r_aload0 (pc := 24) C dX9_sent_24 ?_
        refine r_callVv (pc := 25) C rfl dX9_sent_25 kX9_387 gF9 jM (tX9_goes Z.1 C.w hg.1 hg.2.1 hg.2.2.1 hg.2.2.2.1 hg.2.2.2.2.1) rfl rfl (Nat.le_of_ble_eq_true rfl) (by decide) (fun G25 h25 => ?_)
        obtain ⟨f25, d25⟩ := goQ hg h25
        refine r_aload0 (pc := 28) C dX9_sent_28 ?_
        refine gX9_155 (pc := 29) C dX9_sent_29 ?_
        refine r_bipush (pc := 32) (v := nI 12) C dX9_sent_32 (by decide) ?_
        refine r_iload1 (pc := 34) C dX9_sent_34 ?_
        refine r_imul (pc := 35) C dX9_sent_35 ?_
        refine r_eqi (pk_mul 12 f) ?_
        refine r_iload2 (pc := 36) C dX9_sent_36 ?_
        refine r_iadd (pc := 37) C dX9_sent_37 ?_
        refine r_eqi (nI_add _ _) ?_
        refine r_iald (pc := 38) (_) C dX9_sent_38 aM65 (rfl) (by omega) ?_
        exact r_ireturn (pc := 39) C dX9_sent_39 (⟨f25, d25, d25.2.2.1 _ (by omega)⟩)
      · refine r_iconst (pc := 22) (v := (-1)) C dX9_sent_22 (by decide) ?_
        exact r_ireturn (pc := 23) C dX9_sent_23 (by rw [if_neg (fun z => z.2.2.2 (by rw [nI_clamp hff]; exact Int32.not_lt.mp c19))]; exact ⟨rfl, rfl⟩)
set_option maxHeartbeats 4000000 in
set_option maxRecDepth 100000 in
theorem tX9_answer (Y : gY) (hY : Y.2.2.2 = wM) {G : gS} {h : hQ} {fc wd : Nat} {c : rC} (hg : goH G h fc wd c) {k m t : Int32} : ∀ l : Launch, gM Y l yX9_answer cX9_answer 5 (some .int) (5, 124) [.ref (Y.2.1 (100)), .int (k), .int (m), .int (t)] G (qi (fun r G' => if belB k (nI 2) = true ∧ belB m (nI (hMc h)) = true ∧ belB t (nI 300) = true then (frG G G' ∧ gnD G' h c ∧ r = hAn h (cN k) (vqF (nI (cN t)) ((ctR h c (cN t + 1)).1 (cN m)))) else (r = -1 ∧ G' = G))) := by
  intro l
  refine gM_of hY rfl (Nat.le_of_ble_eq_true rfl) [some (.ref (Y.2.1 (100))), some (.int (k)), some (.int (m)), some (.int (t)), none] rfl rfl ?_
  rintro Z rfl C
  have hr := hg.1
  have hM8 : hMc h ≤ 8 := hr.2.1
  refine r_iload1 (pc := 0) C dX9_answer_0 ?_
  refine r_if_lt (pc := 1) 24 C dX9_answer_1 (by decide) (fun c1 => ?_) (fun c1 => ?_)
  · refine r_iconst (pc := 24) (v := (-1)) C dX9_answer_24 (by decide) ?_
    exact r_ireturn (pc := 25) C dX9_answer_25 (by rw [if_neg (fun z => ((belB_m (b := 1) (by decide)).mp z.1).1 c1)]; exact ⟨rfl, rfl⟩)
  · refine r_iload1 (pc := 4) C dX9_answer_4 ?_
    refine r_iconst (pc := 5) (v := nI 1) C dX9_answer_5 (by decide) ?_
    refine r_icmp_gt (pc := 6) 24 C dX9_answer_6 (by decide) (fun c6 => ?_) (fun c6 => ?_)
    · refine r_iconst (pc := 24) (v := (-1)) C dX9_answer_24 (by decide) ?_
      exact r_ireturn (pc := 25) C dX9_answer_25 (by rw [if_neg (fun z => ((belB_m (b := 1) (by decide)).mp z.1).2 c6)]; exact ⟨rfl, rfl⟩)
    · refine r_aload0 (pc := 9) C dX9_answer_9 ?_
      refine r_iload2 (pc := 10) C dX9_answer_10 ?_
      refine r_callVi (pc := 11) C rfl dX9_answer_11 kX9_329 gF9 jM (tX9_isMachine Z.1 C.w) rfl rfl (Nat.le_of_ble_eq_true rfl) (by decide) (fun x11 G11 h11 => ?_)
      obtain ⟨rfl, h11b⟩ := h11
      have h11b := h11b.symm
      subst h11b
      rw [hr.1]
      refine r_if_eq (pc := 14) 24 C dX9_answer_14 (by decide) (fun c14 => ?_) (fun c14 => ?_)
      · refine r_iconst (pc := 24) (v := (-1)) C dX9_answer_24 (by decide) ?_
        exact r_ireturn (pc := 25) C dX9_answer_25 (by rw [if_neg (fun z => by rw [bI_z.mp c14] at z; exact absurd z.2.1 (by decide))]; exact ⟨rfl, rfl⟩)
      · refine r_iload3 (pc := 17) C dX9_answer_17 ?_
        refine r_callSi (pc := 18) C rfl dX9_answer_18 kX9_323 (tX9_isTick Z.1 C.w) rfl rfl (Nat.le_of_ble_eq_true rfl) (by decide) (fun x18 G18 h18 => ?_)
        obtain ⟨rfl, h18b⟩ := h18
        have h18b := h18b.symm
        subst h18b
        refine r_if_ne (pc := 21) 26 C dX9_answer_21 (by decide) (fun c21 => ?_) (fun c21 => ?_)
        · have dc : belB k (nI 2) = true ∧ belB m (nI (hMc h)) = true ∧ belB t (nI 300) = true := ⟨(belB_m (b := 1) (by decide)).mpr ⟨c1, c6⟩, bI_n.mp c14, bI_n.mp c21⟩
          simp only [if_pos dc]
          obtain ⟨k, hk2, rfl⟩ := belB_t dc.1 (by decide)
          obtain ⟨m, hmm, rfl⟩ := belB_t dc.2.1 (by omega)
          obtain ⟨t, ht, rfl⟩ := belB_t dc.2.2 (by decide)
          rw [cN_nI (n := m) (by omega), cN_nI (n := t) (by omega), cN_nI (n := k) (by omega)]
          have hm8 : m < 8 := by omega
          refine r_aload0 (pc := 26) C dX9_answer_26 ?_
          refine r_callVv (pc := 27) C rfl dX9_answer_27 kX9_387 gF9 jM (tX9_goes Z.1 C.w hg.1 hg.2.1 hg.2.2.1 hg.2.2.2.1 hg.2.2.2.2.1) rfl rfl (Nat.le_of_ble_eq_true rfl) (by decide) (fun G27 h27 => ?_)
          obtain ⟨f27, d27⟩ := goQ hg h27
          refine r_sipush (pc := 30) (v := nI 300) C dX9_answer_30 (by decide) ?_
          refine r_iload2 (pc := 33) C dX9_answer_33 ?_
          refine r_imul (pc := 34) C dX9_answer_34 ?_
          refine r_eqi (pk_mul 300 m) ?_
          refine r_iload3 (pc := 35) C dX9_answer_35 ?_
          refine r_iadd (pc := 36) C dX9_answer_36 ?_
          refine r_eqi (nI_add _ _) ?_
          refine r_istore4 (pc := 37) C dX9_answer_37 rfl ?_
          refine r_aload0 (pc := 39) C dX9_answer_39 ?_
          refine r_iload2 (pc := 40) C dX9_answer_40 ?_
          refine r_aload0 (pc := 41) C dX9_answer_41 ?_
          refine gX9_137 (pc := 42) C dX9_answer_42 ?_
          refine r_iload4 (pc := 45) C dX9_answer_45 ?_
          refine r_iald (pc := 47) (_) C dX9_answer_47 aM59 (rfl) (by omega) ?_
          refine r_eqi (y := (ctR h c (t + 1)).1 m 8) ((d27.2.2.2.1 t ht).2 m hmm 5 (by decide)) ?_
          refine r_aload0 (pc := 48) C dX9_answer_48 ?_
          refine gX9_140 (pc := 49) C dX9_answer_49 ?_
          refine r_iload4 (pc := 52) C dX9_answer_52 ?_
          refine r_iald (pc := 54) (_) C dX9_answer_54 aM60 (rfl) (by omega) ?_
          refine r_eqi (y := (ctR h c (t + 1)).1 m 9) ((d27.2.2.2.1 t ht).2 m hmm 6 (by decide)) ?_
          refine r_aload0 (pc := 55) C dX9_answer_55 ?_
          refine gX9_146 (pc := 56) C dX9_answer_56 ?_
          refine r_iload4 (pc := 59) C dX9_answer_59 ?_
          refine r_iald (pc := 61) (_) C dX9_answer_61 aM62 (rfl) (by omega) ?_
          refine r_eqi (y := (ctR h c (t + 1)).1 m 11) ((d27.2.2.2.1 t ht).2 m hmm 8 (by decide)) ?_
          refine r_iload3 (pc := 62) C dX9_answer_62 ?_
          refine r_callVv (pc := 63) C rfl dX9_answer_63 kX9_371 gF9 jM (tX9_asks Z.1 C.w hm8) rfl rfl (Nat.le_of_ble_eq_true rfl) (by decide) (fun G63 h63 => ?_)
          obtain ⟨f63, v63⟩ := h63
          have e63 : ∀ j, j < 7 → G63.1 50 j = vqF (nI t) ((ctR h c (t + 1)).1 m) j := by
            intro j hj
            rw [v63 j hj]
            have k1 := K3_run h (F := c.1) (c := c) (fun i => k3.refl) 300 m
            have k2 := K3_run h (F := c.1) (c := c) (fun i => k3.refl) (t + 1) m
            have q1 := d27.2.2.2.2 m hmm
            unfold vqF
            rw [q1.o 0, q1.o 1, q1.o 2]
            rw [show (ctR h c 300).1 m 0 = (ctR h c (t + 1)).1 m 0 from k1.1.trans k2.1.symm, show (ctR h c 300).1 m 1 = (ctR h c (t + 1)).1 m 1 from k1.2.1.trans k2.2.1.symm, show (ctR h c 300).1 m 2 = (ctR h c (t + 1)).1 m 2 from k1.2.2.trans k2.2.2.symm]
          have r63 := frG.rel (f27.tr (f63.mono (fun q z => Or.inl z)) (fun q _ => by rw [f63.1 100 (by decide)])) hr
          obtain ⟨hv7, lv, n, aft, num, rels, p18, plv, ppg, pan⟩ := r63.2.2.2.2.2.2.2.2.2.2.2.2.2.2 k hk2
          refine r_aload0 (pc := 66) C dX9_answer_66 ?_
          refine r_iload1 (pc := 67) C dX9_answer_67 ?_
          refine r_callVi (pc := 68) C rfl dX9_answer_68 kX9_375 gF9 jM (tX9_answers Z.1 C.w (fc := hFc h) hk2 p18 plv rfl r63.2.2.1 (by rw [r63.2.2.1, r63.2.2.2.1]; intro z; rw [Int32.le_iff_toInt_le, nI_toInt (by have := r63.2.2.2.2.1; omega), show (-1 : Int32).toInt = -1 from rfl] at z; omega) ppg) rfl rfl (Nat.le_of_ble_eq_true rfl) (by decide) (fun x68 G68 h68 => ?_)
          obtain ⟨e68, f68, g68⟩ := h68
          exact r_ireturn (pc := 71) C dX9_answer_71 (by
  have fA : Fr (fun q => q = 50 ∨ q = 51 ∨ q = 100) G27 G68 := Fr.trans (f63.mono (fun q z => Or.inl z)) (f68.mono (fun q z => Or.inr z))
  have fB : ∀ q, q ≠ 52 → G68.1 100 q = G27.1 100 q := fun q hq => by rw [g68, upd_o hq, f63.1 100 (by decide)]
  refine ⟨f27.tr fA fB, d27.fr fA fB, ?_⟩
  rw [e68, ← (pan (G63.1 50)).1]
  exact (hv7 _ _ e63).1)
        · refine r_iconst (pc := 24) (v := (-1)) C dX9_answer_24 (by decide) ?_
          exact r_ireturn (pc := 25) C dX9_answer_25 (by rw [if_neg (fun z => by rw [bI_z.mp c21] at z; exact absurd z.2.2 (by decide))]; exact ⟨rfl, rfl⟩)
set_option maxHeartbeats 4000000 in
set_option maxRecDepth 100000 in
theorem tX9_up (Y : gY) (hY : Y.2.2.2 = wM) {G : gS} {h : hQ} {fc wd : Nat} {c : rC} (hg : goH G h fc wd c) : ∀ l : Launch, gM Y l yX9_up cX9_up 3 (some .int) (5, 124) [.ref (Y.2.1 (100))] G (qi (fun r G' => frG G G' ∧ gnD G' h c ∧ r = upF (ctR h c 300).1 (hMc h))) := by
  intro l
  refine gM_of hY rfl (Nat.le_of_ble_eq_true rfl) [some (.ref (Y.2.1 (100))), none, none] rfl rfl ?_
  rintro Z rfl C
  have hr := hg.1
  have hM8 : hMc h ≤ 8 := hr.2.1
  refine r_aload0 (pc := 0) C dX9_up_0 ?_
  refine r_callVv (pc := 1) C rfl dX9_up_1 kX9_387 gF9 jM (tX9_goes Z.1 C.w hg.1 hg.2.1 hg.2.2.1 hg.2.2.2.1 hg.2.2.2.2.1) rfl rfl (Nat.le_of_ble_eq_true rfl) (by decide) (fun G1 h1 => ?_)
  obtain ⟨f1, d1⟩ := goQ hg h1
  have loop : ∀ (k0 : Nat) (k : Nat), k0 = hMc h - k → k ≤ hMc h → WW Z (qi (fun r G' => frG G G' ∧ gnD G' h c ∧ r = upF (ctR h c 300).1 (hMc h))) 8 [some (.ref (ad Z (100))), some (.int (upF (ctR h c 300).1 k)), some (.int (nI k))] [] G1 := by
    intro k0
    induction k0 using Nat.strongRecOn with
    | _ k0 ih =>
      intro k hk0 hkk
      refine r_iload2 (pc := 8) C dX9_up_8 ?_
      refine r_aload0 (pc := 9) C dX9_up_9 ?_
      refine gX9_317 (pc := 10) C dX9_up_10 ?_
      refine r_eqi (y := nI (hMc h)) (by rw [f1.2 36 (by decide) (by decide) (by decide)]; exact hr.1) ?_
      refine r_icmp_ge (pc := 13) 48 C dX9_up_13 (by decide) (fun c13 => ?_) (fun c13 => ?_)
      · obtain rfl : k = hMc h := by have := (nI_leI (by omega) (by omega)).mp c13; omega
        refine r_iload1 (pc := 48) C dX9_up_48 ?_
        exact r_ireturn (pc := 49) C dX9_up_49 (⟨f1, d1, rfl⟩)
      · have hkb : k < hMc h := by
          rcases Nat.lt_or_ge k (hMc h) with h | h
          · exact h
          · exact absurd (nI_le h (by omega)) c13
        refine r_aload0 (pc := 16) C dX9_up_16 ?_
        refine gX9_122 (pc := 17) C dX9_up_17 ?_
        refine r_sipush (pc := 20) (v := nI 300) C dX9_up_20 (by decide) ?_
        refine r_iload2 (pc := 23) C dX9_up_23 ?_
        refine r_imul (pc := 24) C dX9_up_24 ?_
        refine r_eqi (pk_mul 300 k) ?_
        refine r_sipush (pc := 25) (v := nI 300) C dX9_up_25 (by decide) ?_
        refine r_iadd (pc := 28) C dX9_up_28 ?_
        refine r_eqi (nI_add _ _) ?_
        refine r_iconst (pc := 29) (v := nI 1) C dX9_up_29 (by decide) ?_
        refine r_isub (pc := 30) C dX9_up_30 ?_
        refine r_eqi (y := nI (300 * k + 299)) (pk_sub (a := 300 * k + 300) (b := 1) (by omega)) ?_
        refine r_iald (pc := 31) (_) C dX9_up_31 aM54 (rfl) (by omega) ?_
        refine r_eqi (y := (ctR h c 300).1 k 3) ((d1.2.2.2.1 299 (by decide)).2 k hkb 0 (by decide)) ?_
        refine r_iconst (pc := 32) (v := nI 4) C dX9_up_32 (by decide) ?_
        refine r_icmp_ne (pc := 33) 42 C dX9_up_33 (by decide) (fun c33 => ?_) (fun c33 => ?_)
        · refine r_iinc2 (pc := 42) (nI 1) C dX9_up_42 (by decide) rfl ?_
          rw [nI_add k 1]
          refine r_goto (pc := 45) 8 C dX9_up_45 (by decide) ?_
          have e : upF (ctR h c 300).1 (k + 1) = upF (ctR h c 300).1 k := by rw [upF, if_neg c33]
          rw [← e]
          exact ih (hMc h - (k + 1)) (by omega) (k + 1) rfl (by omega)
        · refine r_iload1 (pc := 36) C dX9_up_36 ?_
          refine r_iconst (pc := 37) (v := nI 1) C dX9_up_37 (by decide) ?_
          refine r_iload2 (pc := 38) C dX9_up_38 ?_
          refine r_ishl (pc := 39) C dX9_up_39 ?_
          refine r_ior (pc := 40) C dX9_up_40 ?_
          refine r_istore1 (pc := 41) C dX9_up_41 rfl ?_
          refine r_iinc2 (pc := 42) (nI 1) C dX9_up_42 (by decide) rfl ?_
          rw [nI_add k 1]
          refine r_goto (pc := 45) 8 C dX9_up_45 (by decide) ?_
          have e : upF (ctR h c 300).1 (k + 1) = upF (ctR h c 300).1 k ||| (nI 1 <<< (nI k &&& 31)) := by rw [upF, if_pos c33]
          rw [← e]
          exact ih (hMc h - (k + 1)) (by omega) (k + 1) rfl (by omega)
  refine r_iconst (pc := 4) (v := nI 0) C dX9_up_4 (by decide) ?_
  refine r_istore1 (pc := 5) C dX9_up_5 rfl ?_
  refine r_iconst (pc := 6) (v := nI 0) C dX9_up_6 (by decide) ?_
  refine r_istore2 (pc := 7) C dX9_up_7 rfl ?_
  exact loop _ 0 rfl (Nat.zero_le _)
theorem nI_gz {n : Nat} (h : 0 < n) (h2 : n < 2 ^ 31) : ¬ nI n ≤ 0 := fun z => by
  have := (nI_leI (a := n) (b := 0) h2 (by decide)).mp z
  omega
theorem pk_m1p {n : Nat} (h : 0 < n) : nI n + (-1) = nI (n - 1) := by
  obtain ⟨m, rfl⟩ : ∃ m, n = m + 1 := ⟨n - 1, by omega⟩
  exact pk_m1 m
set_option maxHeartbeats 4000000 in
set_option maxRecDepth 100000 in
theorem tX9_ends (Y : gY) (hY : Y.2.2.2 = wM) {G : gS} {h : hQ} {fc wd : Nat} {c : rC} (hg : goH G h fc wd c) : ∀ l : Launch, gM Y l yX9_ends cX9_ends 2 (some .int) (5, 124) [.ref (Y.2.1 (100))] G (qi (fun r G' => frG G G' ∧ gnD G' h c ∧ r = (if hMc h = 0 ∨ dnM h c 299 = false then -1 else nI (edN (dnM h c) 299)))) := by
  intro l
  refine gM_of hY rfl (Nat.le_of_ble_eq_true rfl) [some (.ref (Y.2.1 (100))), none] rfl rfl ?_
  rintro Z rfl C
  have hr := hg.1
  have hM8 : hMc h ≤ 8 := hr.2.1
  refine r_aload0 (pc := 0) C dX9_ends_0 ?_
  refine r_callVv (pc := 1) C rfl dX9_ends_1 kX9_387 gF9 jM (tX9_goes Z.1 C.w hg.1 hg.2.1 hg.2.2.1 hg.2.2.2.1 hg.2.2.2.2.1) rfl rfl (Nat.le_of_ble_eq_true rfl) (by decide) (fun G1 h1 => ?_)
  obtain ⟨f1, d1⟩ := goQ hg h1
  refine r_aload0 (pc := 4) C dX9_ends_4 ?_
  refine gX9_317 (pc := 5) C dX9_ends_5 ?_
  refine r_eqi (y := nI (hMc h)) (by rw [f1.2 36 (by decide) (by decide) (by decide)]; exact hr.1) ?_
  refine r_if_eq (pc := 8) 21 C dX9_ends_8 (by decide) (fun c8 => ?_) (fun c8 => ?_)
  · refine r_iconst (pc := 21) (v := (-1)) C dX9_ends_21 (by decide) ?_
    exact r_ireturn (pc := 22) C dX9_ends_22 (⟨f1, d1, by rw [if_pos (Or.inl ((nI_eq (by omega) (by decide)).mp c8))]⟩)
  · refine r_aload0 (pc := 11) C dX9_ends_11 ?_
    refine r_sipush (pc := 12) (v := nI 299) C dX9_ends_12 (by decide) ?_
    refine r_callVi (pc := 15) C rfl dX9_ends_15 kX9_391 gF9 jM (tX9_isDone Z.1 C.w (by rw [f1.2 36 (by decide) (by decide) (by decide)]; exact hr.1) hM8 (by decide)) rfl rfl (Nat.le_of_ble_eq_true rfl) (by decide) (fun x15 G15 h15 => ?_)
    obtain ⟨rfl, h15b⟩ := h15
    have h15b := h15b.symm
    subst h15b
    refine r_eqi (dnM_eq d1 (by decide)) ?_
    refine r_if_ne (pc := 18) 23 C dX9_ends_18 (by decide) (fun c18 => ?_) (fun c18 => ?_)
    · have hne : ¬ (hMc h = 0 ∨ dnM h c 299 = false) := fun z => z.elim (fun z => c8 (by rw [z]; rfl)) (fun z => by rw [bI_n.mp c18] at z; cases z)
      have loop : ∀ (k0 : Nat) (x : Nat), k0 = x → x < 300 → edN (dnM h c) 299 = edN (dnM h c) x → WW Z (qi (fun r G' => frG G G' ∧ gnD G' h c ∧ r = (if hMc h = 0 ∨ dnM h c 299 = false then -1 else nI (edN (dnM h c) 299)))) 27 [some (.ref (ad Z (100))), some (.int (nI x))] [] G1 := by
        intro k0
        induction k0 using Nat.strongRecOn with
        | _ k0 ih =>
          intro x hk0 hx3 hx
          refine r_iload1 (pc := 27) C dX9_ends_27 ?_
          refine r_if_le (pc := 28) 47 C dX9_ends_28 (by decide) (fun c28 => ?_) (fun c28 => ?_)
          · obtain rfl : x = 0 := by
              rcases Nat.lt_or_ge 0 x with z | z
              · exact absurd c28 (nI_gz z (by omega))
              · omega
            refine r_iload1 (pc := 47) C dX9_ends_47 ?_
            exact r_ireturn (pc := 48) C dX9_ends_48 (⟨f1, d1, by rw [if_neg hne]; exact hx.symm ▸ rfl⟩)
          · have hx0 : 0 < x := by
              rcases Nat.lt_or_ge 0 x with z | z
              · exact z
              · exact absurd (by rw [show x = 0 by omega]; exact Int32.le_refl _) c28
            refine r_aload0 (pc := 31) C dX9_ends_31 ?_
            refine r_iload1 (pc := 32) C dX9_ends_32 ?_
            refine r_iconst (pc := 33) (v := nI 1) C dX9_ends_33 (by decide) ?_
            refine r_isub (pc := 34) C dX9_ends_34 ?_
            refine r_eqi (y := nI (x - 1)) (pk_sub (a := x) (b := 1) (by omega)) ?_
            refine r_callVi (pc := 35) C rfl dX9_ends_35 kX9_391 gF9 jM (tX9_isDone Z.1 C.w (by rw [f1.2 36 (by decide) (by decide) (by decide)]; exact hr.1) hM8 (by omega)) rfl rfl (Nat.le_of_ble_eq_true rfl) (by decide) (fun x35 G35 h35 => ?_)
            obtain ⟨rfl, h35b⟩ := h35
            have h35b := h35b.symm
            subst h35b
            refine r_eqi (dnM_eq d1 (by omega)) ?_
            refine r_if_eq (pc := 38) 47 C dX9_ends_38 (by decide) (fun c38 => ?_) (fun c38 => ?_)
            · refine r_iload1 (pc := 47) C dX9_ends_47 ?_
              exact r_ireturn (pc := 48) C dX9_ends_48 (⟨f1, d1, by rw [if_neg hne, hx, show x = (x - 1) + 1 by omega, edN, if_neg (by rw [bI_z.mp c38]; decide)]⟩)
            · refine r_iinc1 (pc := 41) ((-1)) C dX9_ends_41 (by decide) rfl ?_
              rw [show nI x + (-1) = nI (x - 1) from pk_m1p hx0]
              refine r_goto (pc := 44) 27 C dX9_ends_44 (by decide) ?_
              exact ih (x - 1) (by omega) (x - 1) rfl (by omega) (by rw [hx, show x = (x - 1) + 1 by omega, edN, if_pos (bI_n.mp c38)]; rfl)
      refine r_sipush (pc := 23) (v := nI 299) C dX9_ends_23 (by decide) ?_
      refine r_istore1 (pc := 26) C dX9_ends_26 rfl ?_
      exact loop _ 299 rfl (by decide) rfl
    · refine r_iconst (pc := 21) (v := (-1)) C dX9_ends_21 (by decide) ?_
      exact r_ireturn (pc := 22) C dX9_ends_22 (⟨f1, d1, by rw [if_pos (Or.inr (bI_z.mp c18))]⟩)
set_option maxHeartbeats 4000000 in
set_option maxRecDepth 100000 in
theorem tX9_log (Y : gY) (hY : Y.2.2.2 = wM) {G : gS} {h : hQ} {fc wd : Nat} {c : rC} (hg : goH G h fc wd c) {m ix : Int32} : ∀ l : Launch, gM Y l yX9_log cX9_log 7 (some .int) (5, 124) [.ref (Y.2.1 (100)), .int (m), .int (ix)] G (qi (fun r G' => if belB m (nI (hMc h)) = true ∧ 0 ≤ ix then (frG G G' ∧ gnD G' h c ∧ r = chgF (fun t => (ctR h c (t + 1)).1 (cN m) 3) ix 300 0 (nI 0) (nI 0)) else (r = -1 ∧ G' = G))) := by
  intro l
  refine gM_of hY rfl (Nat.le_of_ble_eq_true rfl) [some (.ref (Y.2.1 (100))), some (.int (m)), some (.int (ix)), none, none, none, none] rfl rfl ?_
  rintro Z rfl C
  have hr := hg.1
  have hM8 : hMc h ≤ 8 := hr.2.1
  refine r_aload0 (pc := 0) C dX9_log_0 ?_
  refine r_iload1 (pc := 1) C dX9_log_1 ?_
  refine r_callVi (pc := 2) C rfl dX9_log_2 kX9_329 gF9 jM (tX9_isMachine Z.1 C.w) rfl rfl (Nat.le_of_ble_eq_true rfl) (by decide) (fun x2 G2 h2 => ?_)
  obtain ⟨rfl, h2b⟩ := h2
  have h2b := h2b.symm
  subst h2b
  rw [hr.1]
  refine r_if_eq (pc := 5) 12 C dX9_log_5 (by decide) (fun c5 => ?_) (fun c5 => ?_)
  · refine r_iconst (pc := 12) (v := (-1)) C dX9_log_12 (by decide) ?_
    exact r_ireturn (pc := 13) C dX9_log_13 (by rw [if_neg (fun z => by rw [bI_z.mp c5] at z; exact absurd z.1 (by decide))]; exact ⟨rfl, rfl⟩)
  · refine r_iload2 (pc := 8) C dX9_log_8 ?_
    refine r_if_ge (pc := 9) 14 C dX9_log_9 (by decide) (fun c9 => ?_) (fun c9 => ?_)
    · have dc : belB m (nI (hMc h)) = true ∧ 0 ≤ ix := ⟨bI_n.mp c5, c9⟩
      simp only [if_pos dc]
      obtain ⟨m, hmm, rfl⟩ := belB_t dc.1 (by omega)
      rw [cN_nI (n := m) (by omega)]
      refine r_aload0 (pc := 14) C dX9_log_14 ?_
      refine r_callVv (pc := 15) C rfl dX9_log_15 kX9_387 gF9 jM (tX9_goes Z.1 C.w hg.1 hg.2.1 hg.2.2.1 hg.2.2.2.1 hg.2.2.2.2.1) rfl rfl (Nat.le_of_ble_eq_true rfl) (by decide) (fun G15 h15 => ?_)
      obtain ⟨f15, d15⟩ := goQ hg h15
      have loop : ∀ (k0 : Nat) (t : Nat) (ch be : Int32) (o6 : Option Value), k0 = 300 - t → t ≤ 300 → chgF (fun t => (ctR h c (t + 1)).1 m 3) ix 300 0 (nI 0) (nI 0) = chgF (fun t => (ctR h c (t + 1)).1 m 3) ix (300 - t) t be ch → WW Z (qi (fun r G' => frG G G' ∧ gnD G' h c ∧ r = chgF (fun t => (ctR h c (t + 1)).1 m 3) ix 300 0 (nI 0) (nI 0))) 26 [some (.ref (ad Z (100))), some (.int (nI m)), some (.int (ix)), some (.int (ix - ch)), some (.int (be)), some (.int (nI t)), o6] [] G15 := by
        intro k0
        induction k0 using Nat.strongRecOn with
        | _ k0 ih =>
          intro t ch be o6 hk0 ht0 hcg
          refine r_iload5 (pc := 26) C dX9_log_26 ?_
          refine r_sipush (pc := 28) (v := nI 300) C dX9_log_28 (by decide) ?_
          refine r_icmp_ge (pc := 31) 85 C dX9_log_31 (by decide) (fun c31 => ?_) (fun c31 => ?_)
          · obtain rfl : t = 300 := by have := (nI_leI (by omega) (by omega)).mp c31; omega
            refine r_iconst (pc := 85) (v := (-1)) C dX9_log_85 (by decide) ?_
            exact r_ireturn (pc := 86) C dX9_log_86 (⟨f15, d15, by rw [hcg]; rfl⟩)
          · have ht : t < 300 := by
              rcases Nat.lt_or_ge t 300 with h | h
              · exact h
              · exact absurd (nI_le h (by omega)) c31
            refine r_aload0 (pc := 34) C dX9_log_34 ?_
            refine gX9_122 (pc := 35) C dX9_log_35 ?_
            refine r_sipush (pc := 38) (v := nI 300) C dX9_log_38 (by decide) ?_
            refine r_iload1 (pc := 41) C dX9_log_41 ?_
            refine r_imul (pc := 42) C dX9_log_42 ?_
            refine r_eqi (pk_mul 300 m) ?_
            refine r_iload5 (pc := 43) C dX9_log_43 ?_
            refine r_iadd (pc := 45) C dX9_log_45 ?_
            refine r_eqi (nI_add _ _) ?_
            refine r_iald (pc := 46) (_) C dX9_log_46 aM54 (rfl) (by omega) ?_
            refine r_eqi (y := (ctR h c (t + 1)).1 m 3) ((d15.2.2.2.1 t ht).2 m hmm 0 (by decide)) ?_
            refine r_istore6 (pc := 47) C dX9_log_47 rfl ?_
            refine r_iload6 (pc := 49) C dX9_log_49 ?_
            refine r_iload4 (pc := 51) C dX9_log_51 ?_
            refine r_icmp_ne (pc := 53) 59 C dX9_log_53 (by decide) (fun c53 => ?_) (fun c53 => ?_)
            · refine r_iload6 (pc := 59) C dX9_log_59 ?_
              refine r_istore4 (pc := 61) C dX9_log_61 rfl ?_
              refine r_iload3 (pc := 63) C dX9_log_63 ?_
              refine r_if_ne (pc := 64) 76 C dX9_log_64 (by decide) (fun c64 => ?_) (fun c64 => ?_)
              · refine r_iinc3 (pc := 76) ((-1)) C dX9_log_76 (by decide) rfl ?_
                rw [i32_dn]
                refine r_iinc5 (pc := 79) (nI 1) C dX9_log_79 (by decide) rfl ?_
                rw [nI_add t 1]
                refine r_goto (pc := 82) 26 C dX9_log_82 (by decide) ?_
                exact ih (300 - (t + 1)) (by omega) (t + 1) (ch + nI 1) _ _ rfl (by omega) (hcg.trans (by rw [show 300 - t = (300 - (t + 1)) + 1 by omega, chgF, if_neg c53, if_neg (fun z => c64 (i32_z.mpr z))]))
              · refine r_bipush (pc := 67) (v := nI 10) C dX9_log_67 (by decide) ?_
                refine r_iload5 (pc := 69) C dX9_log_69 ?_
                refine r_imul (pc := 71) C dX9_log_71 ?_
                refine r_iload6 (pc := 72) C dX9_log_72 ?_
                refine r_iadd (pc := 74) C dX9_log_74 ?_
                exact r_ireturn (pc := 75) C dX9_log_75 (⟨f15, d15, by rw [hcg, show 300 - t = (300 - (t + 1)) + 1 by omega, chgF, if_neg c53, if_pos (i32_z.mp c64)]⟩)
            · refine r_goto (pc := 56) 79 C dX9_log_56 (by decide) ?_
              refine r_iinc5 (pc := 79) (nI 1) C dX9_log_79 (by decide) rfl ?_
              rw [nI_add t 1]
              refine r_goto (pc := 82) 26 C dX9_log_82 (by decide) ?_
              exact ih (300 - (t + 1)) (by omega) (t + 1) ch be _ rfl (by omega) (hcg.trans (by rw [show 300 - t = (300 - (t + 1)) + 1 by omega, chgF, if_pos c53]))
      refine r_iload2 (pc := 18) C dX9_log_18 ?_
      refine r_istore3 (pc := 19) C dX9_log_19 rfl ?_
      refine r_iconst (pc := 20) (v := nI 0) C dX9_log_20 (by decide) ?_
      refine r_istore4 (pc := 21) C dX9_log_21 rfl ?_
      refine r_iconst (pc := 23) (v := nI 0) C dX9_log_23 (by decide) ?_
      refine r_istore5 (pc := 24) C dX9_log_24 rfl ?_
      have e0 : ix = ix - nI 0 := (Int32.sub_zero ix).symm
      have := loop _ 0 (nI 0) (nI 0) none rfl (by omega) rfl
      rw [← e0] at this
      exact this
    · refine r_iconst (pc := 12) (v := (-1)) C dX9_log_12 (by decide) ?_
      exact r_ireturn (pc := 13) C dX9_log_13 (by rw [if_neg (fun z => c9 z.2)]; exact ⟨rfl, rfl⟩)
set_option maxHeartbeats 4000000 in
set_option maxRecDepth 100000 in
theorem tX9_count (Y : gY) (hY : Y.2.2.2 = wM) {G : gS} {h : hQ} {fc wd : Nat} {c : rC} (hg : goH G h fc wd c) {lv0 lv1 : Nat} (hl0 : G.1 18 0 = nI lv0) (hl00 : lv0 < 2) (hl1 : G.1 18 1 = nI lv1) (hl11 : lv1 < 2) {q : Int32} : ∀ l : Launch, gM Y l yX9_count cX9_count 2 (some .int) (5, 124) [.ref (Y.2.1 (100)), .int (q)] G (qi (fun r G' => if q = nI 0 then (r = G.1 100 36 ∧ G' = G) else if q = nI 1 then (r = G.1 100 41 ∧ G' = G) else if q = nI 2 then (r = G.1 20 lv0 ∧ G' = G) else if q = nI 3 then (r = G.1 20 (2 + lv1) ∧ G' = G) else if q = nI 4 then (r = G.1 100 45 ∧ G' = G) else if q = nI 5 then (r = G.1 100 44 ∧ G' = G) else if q = nI 6 then (frG G G' ∧ gnD G' h c ∧ r = (ctR h c 300).2.2.2.1) else if q = nI 7 then (r = G.1 100 2 ∧ G' = G) else (r = -1 ∧ G' = G))) := by
  intro l
  refine gM_of hY rfl (Nat.le_of_ble_eq_true rfl) [some (.ref (Y.2.1 (100))), some (.int (q))] rfl rfl ?_
  rintro Z rfl C
  have hr := hg.1
  have hM8 : hMc h ≤ 8 := hr.2.1
  refine r_iload1 (pc := 0) C dX9_count_0 ?_
  by_cases s1_0 : q = nI 0
  · refine r_eqi s1_0 ?_
    refine r_tableIn (pc := 1) 48 C dX9_count_1 (by decide) (by decide) (off := 47) rfl (by decide) ?_
    skip
    refine r_aload0 (pc := 48) C dX9_count_48 ?_
    refine gX9_317 (pc := 49) C dX9_count_49 ?_
    exact r_ireturn (pc := 52) C dX9_count_52 (by rw [if_pos s1_0]; exact ⟨rfl, rfl⟩)
  by_cases s1_1 : q = nI 1
  · refine r_eqi s1_1 ?_
    refine r_tableIn (pc := 1) 53 C dX9_count_1 (by decide) (by decide) (off := 52) rfl (by decide) ?_
    skip
    refine r_aload0 (pc := 53) C dX9_count_53 ?_
    refine gX9_320 (pc := 54) C dX9_count_54 ?_
    exact r_ireturn (pc := 57) C dX9_count_57 (by rw [if_neg s1_0, if_pos s1_1]; exact ⟨rfl, rfl⟩)
  by_cases s1_2 : q = nI 2
  · refine r_eqi s1_2 ?_
    refine r_tableIn (pc := 1) 58 C dX9_count_1 (by decide) (by decide) (off := 57) rfl (by decide) ?_
    skip
    refine r_aload0 (pc := 58) C dX9_count_58 ?_
    refine gX9_43 (pc := 59) C dX9_count_59 ?_
    refine r_aload0 (pc := 62) C dX9_count_62 ?_
    refine gX9_40 (pc := 63) C dX9_count_63 ?_
    refine r_iconst (pc := 66) (v := nI 0) C dX9_count_66 (by decide) ?_
    refine r_iald (pc := 67) (_) C dX9_count_67 aM18 (rfl) (by omega) ?_
    refine r_eqi hl0 ?_
    refine r_iald (pc := 68) (_) C dX9_count_68 aM20 (rfl) (by omega) ?_
    exact r_ireturn (pc := 69) C dX9_count_69 (by rw [if_neg s1_0, if_neg s1_1, if_pos s1_2]; exact ⟨rfl, rfl⟩)
  by_cases s1_3 : q = nI 3
  · refine r_eqi s1_3 ?_
    refine r_tableIn (pc := 1) 70 C dX9_count_1 (by decide) (by decide) (off := 69) rfl (by decide) ?_
    skip
    refine r_aload0 (pc := 70) C dX9_count_70 ?_
    refine gX9_43 (pc := 71) C dX9_count_71 ?_
    refine r_iconst (pc := 74) (v := nI 2) C dX9_count_74 (by decide) ?_
    refine r_aload0 (pc := 75) C dX9_count_75 ?_
    refine gX9_40 (pc := 76) C dX9_count_76 ?_
    refine r_iconst (pc := 79) (v := nI 1) C dX9_count_79 (by decide) ?_
    refine r_iald (pc := 80) (_) C dX9_count_80 aM18 (rfl) (by omega) ?_
    refine r_eqi hl1 ?_
    refine r_iadd (pc := 81) C dX9_count_81 ?_
    refine r_eqi (nI_add _ _) ?_
    refine r_iald (pc := 82) (_) C dX9_count_82 aM20 (rfl) (by omega) ?_
    exact r_ireturn (pc := 83) C dX9_count_83 (by rw [if_neg s1_0, if_neg s1_1, if_neg s1_2, if_pos s1_3]; exact ⟨rfl, rfl⟩)
  by_cases s1_4 : q = nI 4
  · refine r_eqi s1_4 ?_
    refine r_tableIn (pc := 1) 84 C dX9_count_1 (by decide) (by decide) (off := 83) rfl (by decide) ?_
    skip
    refine r_aload0 (pc := 84) C dX9_count_84 ?_
    refine gX9_326 (pc := 85) C dX9_count_85 ?_
    exact r_ireturn (pc := 88) C dX9_count_88 (by rw [if_neg s1_0, if_neg s1_1, if_neg s1_2, if_neg s1_3, if_pos s1_4]; exact ⟨rfl, rfl⟩)
  by_cases s1_5 : q = nI 5
  · refine r_eqi s1_5 ?_
    refine r_tableIn (pc := 1) 89 C dX9_count_1 (by decide) (by decide) (off := 88) rfl (by decide) ?_
    skip
    refine r_aload0 (pc := 89) C dX9_count_89 ?_
    refine gX9_210 (pc := 90) C dX9_count_90 ?_
    exact r_ireturn (pc := 93) C dX9_count_93 (by rw [if_neg s1_0, if_neg s1_1, if_neg s1_2, if_neg s1_3, if_neg s1_4, if_pos s1_5]; exact ⟨rfl, rfl⟩)
  by_cases s1_6 : q = nI 6
  · refine r_eqi s1_6 ?_
    refine r_tableIn (pc := 1) 94 C dX9_count_1 (by decide) (by decide) (off := 93) rfl (by decide) ?_
    skip
    refine r_aload0 (pc := 94) C dX9_count_94 ?_
    refine r_callVv (pc := 95) C rfl dX9_count_95 kX9_387 gF9 jM (tX9_goes Z.1 C.w hg.1 hg.2.1 hg.2.2.1 hg.2.2.2.1 hg.2.2.2.2.1) rfl rfl (Nat.le_of_ble_eq_true rfl) (by decide) (fun G95 h95 => ?_)
    obtain ⟨f95, d95⟩ := goQ hg h95
    refine r_aload0 (pc := 98) C dX9_count_98 ?_
    refine gX9_350 (pc := 99) C dX9_count_99 ?_
    exact r_ireturn (pc := 102) C dX9_count_102 (by rw [if_neg s1_0, if_neg s1_1, if_neg s1_2, if_neg s1_3, if_neg s1_4, if_neg s1_5, if_pos s1_6]; exact ⟨f95, d95, d95.2.1⟩)
  by_cases s1_7 : q = nI 7
  · refine r_eqi s1_7 ?_
    refine r_tableIn (pc := 1) 103 C dX9_count_1 (by decide) (by decide) (off := 102) rfl (by decide) ?_
    skip
    refine r_aload0 (pc := 103) C dX9_count_103 ?_
    refine gX9_213 (pc := 104) C dX9_count_104 ?_
    exact r_ireturn (pc := 107) C dX9_count_107 (by rw [if_neg s1_0, if_neg s1_1, if_neg s1_2, if_neg s1_3, if_neg s1_4, if_neg s1_5, if_neg s1_6, if_pos s1_7]; exact ⟨rfl, rfl⟩)
  refine r_tableOut (pc := 1) 108 C dX9_count_1 (tsw_o 0 7 (fun v a b => by rcases (show v = 0 ∨ v = 1 ∨ v = 2 ∨ v = 3 ∨ v = 4 ∨ v = 5 ∨ v = 6 ∨ v = 7 by omega) with rfl | rfl | rfl | rfl | rfl | rfl | rfl | rfl <;> assumption) (by decide)) (by decide) ?_
  refine r_iconst (pc := 108) (v := (-1)) C dX9_count_108 (by decide) ?_
  exact r_ireturn (pc := 109) C dX9_count_109 (by rw [if_neg s1_0, if_neg s1_1, if_neg s1_2, if_neg s1_3, if_neg s1_4, if_neg s1_5, if_neg s1_6, if_neg s1_7]; exact ⟨rfl, rfl⟩)
