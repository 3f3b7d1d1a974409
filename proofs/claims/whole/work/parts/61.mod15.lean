/-! the reference: a text is read -/
theorem nar_255 (y : Int32) : vp_nar .byte y &&& nI 255 = y &&& nI 255 := by
  rw [vp_nar_byte, pk_and _ (m := nI 255) 8 (by decide), pk_and _ (m := nI 255) 8 (by decide)]
  have e1 : y.toInt8.toInt32.toInt = y.toInt.bmod 256 := by rw [Int8.toInt_toInt32, Int32.toInt_toInt8]
  have e3 := tn_eq y.toInt8.toInt32
  have e4 := tn_eq y
  congr 1
  simp only [Int.bmod] at e1
  simp only [Nat.reducePow] at e1 ⊢
  omega
def rdS (q : Nat) : Prop := q = 3 ∨ (5 ≤ q ∧ q ≤ 8) ∨ q = 18 ∨ tlS q
def pgF (G G1 : gS) (s : Nat) : Prop := (∀ j, j ≠ s → G1.1 20 j = G.1 20 j ∧ G1.1 25 j = G.1 25 j) ∧ (∀ p, 21 ≤ p → p ≤ 24 → ∀ j, (j < 20 * s ∨ 20 * s + 20 ≤ j) → G1.1 p j = G.1 p j) ∧ (∀ p, 26 ≤ p → p ≤ 30 → ∀ j, (j < 200 * s ∨ 200 * s + 200 ≤ j) → G1.1 p j = G.1 p j) ∧ ∀ j, (j < 500 * s ∨ 500 * s + 500 ≤ j) → G1.1 32 j = G.1 32 j ∧ G1.1 33 j = G.1 33 j
theorem pgF.o {G G1 G2 : gS} {s : Nat} (h : pgF G G1 s) (h2 : ∀ q, 20 ≤ q → q ≤ 33 → G2.1 q = G1.1 q) : pgF G G2 s := by
  obtain ⟨a1, a2, a3, a4⟩ := h
  exact ⟨fun j hj => by rw [h2 20 (by decide) (by decide), h2 25 (by decide) (by decide)]; exact a1 j hj, fun p x y j hj => by rw [h2 p (by omega) (by omega)]; exact a2 p x y j hj, fun p x y j hj => by rw [h2 p (by omega) (by omega)]; exact a3 p x y j hj, fun j hj => by rw [h2 32 (by decide) (by decide), h2 33 (by decide) (by decide)]; exact a4 j hj⟩
theorem pgF.tr {G G1 G2 : gS} {s : Nat} (h : pgF G G1 s) (h2 : pgF G1 G2 s) : pgF G G2 s := by
  obtain ⟨a1, a2, a3, a4⟩ := h
  obtain ⟨b1, b2, b3, b4⟩ := h2
  exact ⟨fun j hj => ⟨(b1 j hj).1.trans (a1 j hj).1, (b1 j hj).2.trans (a1 j hj).2⟩, fun p x y j hj => (b2 p x y j hj).trans (a2 p x y j hj), fun p x y j hj => (b3 p x y j hj).trans (a3 p x y j hj), fun j hj => ⟨(b4 j hj).1.trans (a4 j hj).1, (b4 j hj).2.trans (a4 j hj).2⟩⟩
def slR (q : Nat) : Prop := q = 2 ∨ q = 4 ∨ (10 ≤ q ∧ q ≤ 17) ∨ q = 19 ∨ q = 31 ∨ q = 35 ∨ q = 53
def rdF (G G1 : gS) (s : Nat) : Prop := Fr rdS G G1 ∧ (∀ q, ¬ slR q → G1.1 100 q = G.1 100 q) ∧ pgF G G1 s
theorem rdF.refl {G : gS} {s : Nat} : rdF G G s := ⟨Fr.refl, fun _ _ => rfl, fun _ _ => ⟨rfl, rfl⟩, fun _ _ _ _ _ => rfl, fun _ _ _ _ _ => rfl, fun _ _ => ⟨rfl, rfl⟩⟩
theorem rdF.sl {G G1 : gS} {s q : Nat} {v : Int32} (h : rdF G G1 s) (hq : slR q) : rdF G (sI G1 100 q v) s := ⟨h.1.sI (Or.inr (Or.inr (Or.inr (Or.inr (Or.inr (Or.inr (Or.inr rfl))))))), fun p hp => by rw [sI_s, upd_o (fun e => hp (by rw [e]; exact hq))]; exact h.2.1 p hp, h.2.2.o (fun p a b => by rw [sI_o (by omega)])⟩
theorem rdF.wo {G G1 : gS} {s r i : Nat} {v : Int32} (h : rdF G G1 s) (hr : r = 3 ∨ r = 18) : rdF G (sI G1 r i v) s := ⟨h.1.sI (by unfold rdS; omega), fun p hp => by rw [sI_o (by omega)]; exact h.2.1 p hp, h.2.2.o (fun p a b => by rw [sI_o (by omega)])⟩
theorem rdF.w2 {G G1 : gS} {s q : Nat} {v : Int32} (h : rdF G G1 s) (hq : q = 20 ∨ q = 25) : rdF G (sI G1 q s v) s := by
  have := (tlF.refl (G := G1) (s := s)).w2 (v := v) hq
  exact ⟨Fr.trans h.1 (this.1.mono (fun q z => Or.inr (Or.inr (Or.inr z)))), fun p hp => by rw [sI_o (by omega)]; exact h.2.1 p hp, h.2.2.tr this.2.2⟩
theorem rdF.tl {G G1 G2 : gS} {s : Nat} (h : rdF G G1 s) (h2 : tlF G1 G2 s) : rdF G G2 s := ⟨Fr.trans h.1 (h2.1.mono (fun q z => Or.inr (Or.inr (Or.inr z)))), fun p hp => by unfold slR at hp; rw [h2.2.1 p (by omega) (by omega) (by omega) (by omega) (by omega) (by omega) (by omega) (by omega)]; exact h.2.1 p (by unfold slR; omega), h.2.2.tr h2.2.2⟩
theorem rdF.cut {G G1 G2 : gS} {B : Nat → Nat} {n s : Nat} (h : rdF G G1 s) (h2 : cutP G1 G2 B n) : rdF G G2 s := ⟨Fr.trans h.1 (h2.1.mono (fun q z => by unfold cS at z; unfold rdS tlS xS; omega)), fun p hp => by rw [h2.2.1 p (by unfold slR at hp; omega)]; exact h.2.1 p hp, h.2.2.o (fun p a b => by rw [h2.1.1 p (by unfold cS; omega)])⟩
def rdP (G G' : gS) (B : Nat → Nat) (n k lv : Nat) (r : Int32) : Prop := r = (pRun B n 401 0 0 pS0).1 ∧ G'.1 100 17 = (pRun B n 401 0 0 pS0).2.1 ∧ G'.1 100 2 = nI 0 ∧ rdF G G' (2 * k + 1 - lv) ∧ ((¬ r = 0 ∧ G'.1 18 = G.1 18 ∧ G'.1 100 53 = G.1 100 53) ∨ (r = 0 ∧ G'.1 18 = upd (G.1 18) k (nI (1 - lv)) ∧ G'.1 100 53 = nI 0 ∧ ∃ (qs : List qR) (cd : Nat), rsQ (pRun B n 401 0 0 pS0).2.2.2.2.2.2.2 qs ∧ pgL G' (2 * k + 1 - lv) cd qs ∧ cd ≤ 500 * (2 * k + 1 - lv) + 400 ∧ 3 * rlT qs ≤ 400 ∧ G'.1 20 (2 * k + 1 - lv) = nI qs.length ∧ lenC (pRun B n 401 0 0 pS0).2.2.2.2.2.2.2 ≤ 400 ∧ qs.length ≤ 20))
theorem pInv_0 : pInv 0 pS0 := ⟨by decide, by decide, rfl, by decide, by decide, fun z => absurd rfl z, fun _ _ => ⟨rfl, rfl⟩, fun r hr => by simp [pS0] at hr, fun r rs h => by simp [pS0] at h, fun z => absurd z (by decide)⟩
set_option maxHeartbeats 4000000 in
set_option maxRecDepth 100000 in
theorem tX9_read (Y : gY) (hY : Y.2.2.2 = wM) {G : gS} {B : Nat → Nat} {n lv : Nat} {x : Int32} (h2 : G.1 100 2 = nI n) (hn2 : n ≤ 2000) (hby : ∀ j, j < n → G.1 1 j &&& nI 255 = nI (B j)) (hB : ∀ j, B j < 256) (hky : ∀ k, k < 12 → G.2.1 9 k = lN (kyN.getD k 0)) (hlv : belB x (nI 2) = true → G.1 18 (cN x) = nI lv) (hlv2 : lv < 2) : ∀ l : Launch, gM Y l yX9_read cX9_read 3 (some .int) (5, 117) [.ref (Y.2.1 (100)), .int (x)] G (qi (fun r G' => if belB x (nI 2) = true then rdP G G' B n (cN x) lv r else (r = -1 ∧ G' = G))) := by
  intro l
  refine gM_of hY rfl (Nat.le_of_ble_eq_true rfl) [some (.ref (Y.2.1 (100))), some (.int (x)), none] rfl rfl ?_
  rintro Z rfl C
  refine r_iload1 (pc := 0) C dX9_read_0 ?_
  refine r_if_lt (pc := 1) 9 C dX9_read_1 (by decide) (fun c1 => ?_) (fun c1 => ?_)
  · refine r_iconst (pc := 9) (v := (-1)) C dX9_read_9 (by decide) ?_
    exact r_ireturn (pc := 10) C dX9_read_10 (by rw [if_neg (fun z => ((belB_m (b := 1) (by decide)).mp z).1 c1)]; exact ⟨rfl, rfl⟩)
  · refine r_iload1 (pc := 4) C dX9_read_4 ?_
    refine r_iconst (pc := 5) (v := nI 1) C dX9_read_5 (by decide) ?_
    refine r_icmp_le (pc := 6) 11 C dX9_read_6 (by decide) (fun c6 => ?_) (fun c6 => ?_)
    · have dc : belB x (nI 2) = true := (belB_m (b := 1) (by decide)).mpr ⟨c1, Int32.not_lt.mpr c6⟩
      simp only [if_pos dc]
      have hlv := hlv dc
      obtain ⟨k, hk2, rfl⟩ := belB_t dc (by decide)
      rw [cN_nI (n := k) (by omega)] at hlv ⊢
      have hs4 : (2 * k + 1 - lv) < 4 := by omega
      have finA : ∀ (o2 : Option Value) (G1 : gS), rdF G G1 (2 * k + 1 - lv) → G1.1 100 2 = nI 0 → G1.1 18 = G.1 18 → G1.1 100 53 = G.1 100 53 → Ft G1 (pRun B n 401 0 0 pS0) → WW Z (qi (fun r G' => rdP G G' B n k lv r)) 124 [some (.ref (ad Z (100))), some (.int (nI k)), o2] [] G1 := by
        intro o2 G1 hf h2z h18 h53 hft
        refine r_aload0 (pc := 124) C dX9_read_124 ?_
        refine gX9_251 (pc := 125) C dX9_read_125 ?_
        refine r_if_ne (pc := 128) 146 C dX9_read_128 (by decide) (fun c128 => ?_) (fun c128 => ?_)
        rotate_left
        · exact absurd c128 (hft.pos.2)
        refine r_aload0 (pc := 146) C dX9_read_146 ?_
        refine r_aload0 (pc := 147) C dX9_read_147 ?_
        refine gX9_251 (pc := 148) C dX9_read_148 ?_
        refine r_if_le (pc := 151) 161 C dX9_read_151 (by decide) (fun c151 => ?_) (fun c151 => ?_)
        · exact absurd c151 (Int32.not_le.mpr hft.pos.1)
        refine r_aload0 (pc := 154) C dX9_read_154 ?_
        refine gX9_257 (pc := 155) C dX9_read_155 ?_
        refine r_goto (pc := 158) 176 C dX9_read_158 (by decide) ?_
        refine pX9_37 (pc := 176) C dX9_read_176 ?_
        refine r_aload0 (pc := 179) C dX9_read_179 ?_
        refine gX9_251 (pc := 180) C dX9_read_180 ?_
        refine r_eqi (y := G1.1 100 13) (by rw [sI_s, upd_o (by decide)]) ?_
        refine r_if_le (pc := 183) 191 C dX9_read_183 (by decide) (fun c183 => ?_) (fun c183 => ?_)
        · exact absurd c183 (Int32.not_le.mpr hft.pos.1)
        refine r_aload0 (pc := 186) C dX9_read_186 ?_
        refine gX9_251 (pc := 187) C dX9_read_187 ?_
        refine r_eqi (y := G1.1 100 13) (by rw [sI_s, upd_o (by decide)]) ?_
        exact r_ireturn (pc := 190) C dX9_read_190 (by
          obtain ⟨f, f1, f2, f3, f4, f5⟩ := hft
          refine ⟨f3.trans f4.symm, by rw [sI_s, upd_s]; exact f5, by rw [sI_s, upd_o (by decide)]; exact h2z, hf.sl (by unfold slR; decide), Or.inl ⟨?_, by rw [sI_o (by decide)]; exact h18, by rw [sI_s, upd_o (by decide)]; exact h53⟩⟩
          rw [f3]
          exact nI_dj (b := 0) (by omega) (by omega) (by decide))
      have loopi : ∀ (k0 : Nat) (i : Nat) (G1 : gS), k0 = n - i → i ≤ n → Fr (fun q => q = 3 ∨ q = 100) G G1 → G1.1 100 = upd (G.1 100) 4 (nI n) → (∀ j, j < i → G1.1 3 j &&& nI 255 = nI (B j)) → WW Z (qi (fun r G' => rdP G G' B n k lv r)) 21 [some (.ref (ad Z (100))), some (.int (nI k)), some (.int (nI i))] [] G1 := by
        intro k0
        induction k0 using Nat.strongRecOn with
        | _ k0 ih =>
          intro i G1 hk0 hi0 hfr h100 h3
          refine r_iload2 (pc := 21) C dX9_read_21 ?_
          refine r_aload0 (pc := 22) C dX9_read_22 ?_
          refine gX9_220 (pc := 23) C dX9_read_23 ?_
          refine r_eqi (y := nI n) (by rw [h100, upd_s]) ?_
          refine r_icmp_ge (pc := 26) 47 C dX9_read_26 (by decide) (fun c26 => ?_) (fun c26 => ?_)
          · obtain rfl : n = i := by have := (nI_leI (by omega) (by omega)).mp c26; omega
            refine r_aload0 (pc := 47) C dX9_read_47 ?_
            refine r_iconst (pc := 48) (v := nI 0) C dX9_read_48 (by decide) ?_
            refine pX9_213 (pc := 49) C dX9_read_49 ?_
            refine r_aload0 (pc := 52) C dX9_read_52 ?_
            have htx : txtM (sI G1 100 2 (nI 0)) n B := ⟨by rw [sI_s, upd_o (by decide), h100, upd_s], hn2, fun j hj => by rw [sI_o (by decide)]; exact h3 j hj, hB⟩
            have hf0 : rdF G (sI G1 100 2 (nI 0)) (2 * k + 1 - lv) := by
              refine ⟨(hfr.mono (fun q z => by unfold rdS tlS xS; omega)).sI (by unfold rdS tlS xS; decide), fun q hq => ?_, ?_⟩
              · unfold slR at hq
                rw [sI_s, upd_o (by omega), h100, upd_o (by omega)]
              · exact (rdF.refl (G := G) (s := (2 * k + 1 - lv))).2.2.o (fun q a b => by rw [sI_o (by omega)]; exact hfr.1 q (by omega))
            refine r_callVv (pc := 53) C rfl dX9_read_53 kX9_275 gF9 jM (tX9_cut Z.1 C.w htx (fun k hk => by show G1.2.1 9 k = _; rw [hfr.2.1 9 (by decide)]; exact hky k hk)) rfl rfl (Nat.le_of_ble_eq_true rfl) (by decide) (fun G53 h53c => ?_)
            refine r_aload0 (pc := 56) C dX9_read_56 ?_
            refine r_iconst (pc := 57) (v := nI 0) C dX9_read_57 (by decide) ?_
            refine pX9_254 (pc := 58) C dX9_read_58 ?_
            refine r_aload0 (pc := 61) C dX9_read_61 ?_
            refine r_iconst (pc := 62) (v := nI 0) C dX9_read_62 (by decide) ?_
            refine pX9_278 (pc := 63) C dX9_read_63 ?_
            refine r_aload0 (pc := 66) C dX9_read_66 ?_
            refine r_iconst (pc := 67) (v := nI 0) C dX9_read_67 (by decide) ?_
            refine pX9_251 (pc := 68) C dX9_read_68 ?_
            refine r_aload0 (pc := 71) C dX9_read_71 ?_
            refine r_iconst (pc := 72) (v := nI 0) C dX9_read_72 (by decide) ?_
            refine pX9_260 (pc := 73) C dX9_read_73 ?_
            refine r_aload0 (pc := 76) C dX9_read_76 ?_
            refine r_iconst (pc := 77) (v := nI 2) C dX9_read_77 (by decide) ?_
            refine r_iload1 (pc := 78) C dX9_read_78 ?_
            refine r_imul (pc := 79) C dX9_read_79 ?_
            refine r_eqi (pk_mul 2 k) ?_
            refine r_iconst (pc := 80) (v := nI 1) C dX9_read_80 (by decide) ?_
            refine r_iadd (pc := 81) C dX9_read_81 ?_
            refine r_eqi (nI_add _ _) ?_
            refine r_aload0 (pc := 82) C dX9_read_82 ?_
            refine gX9_40 (pc := 83) C dX9_read_83 ?_
            refine r_iload1 (pc := 86) C dX9_read_86 ?_
            refine r_iald (pc := 87) (_) C dX9_read_87 aM18 (rfl) (by omega) ?_
            refine r_eqi (y := nI lv) (by rw [sI_o (by decide), sI_o (by decide), sI_o (by decide), sI_o (by decide), h53c.1.1 18 (by unfold cS; decide), sI_o (by decide), hfr.1 18 (by decide)]; exact hlv) ?_
            refine r_isub (pc := 88) C dX9_read_88 ?_
            refine r_eqi (y := nI (2 * k + 1 - lv)) (pk_sub (by omega)) ?_
            refine pX9_281 (pc := 89) C dX9_read_89 ?_
            refine r_aload0 (pc := 92) C dX9_read_92 ?_
            refine gX9_43 (pc := 93) C dX9_read_93 ?_
            refine r_aload0 (pc := 96) C dX9_read_96 ?_
            refine gX9_281 (pc := 97) C dX9_read_97 ?_
            refine r_eqi (y := nI (2 * k + 1 - lv)) (by rw [sI_s, upd_s]) ?_
            refine r_iconst (pc := 100) (v := nI 0) C dX9_read_100 (by decide) ?_
            refine r_iast (pc := 101) (_) C dX9_read_101 aM20 (rfl) (by omega) ?_
            refine r_aload0 (pc := 102) C dX9_read_102 ?_
            refine gX9_58 (pc := 103) C dX9_read_103 ?_
            refine r_aload0 (pc := 106) C dX9_read_106 ?_
            refine gX9_281 (pc := 107) C dX9_read_107 ?_
            refine r_eqi (y := nI (2 * k + 1 - lv)) (by rw [sI_o (by decide), sI_s, upd_s]) ?_
            refine r_iconst (pc := 110) (v := nI 0) C dX9_read_110 (by decide) ?_
            refine r_iast (pc := 111) (_) C dX9_read_111 aM25 (rfl) (by omega) ?_
            refine r_aload0 (pc := 112) C dX9_read_112 ?_
            refine r_sipush (pc := 113) (v := nI 500) C dX9_read_113 (by decide) ?_
            refine r_aload0 (pc := 116) C dX9_read_116 ?_
            refine gX9_281 (pc := 117) C dX9_read_117 ?_
            refine r_eqi (y := nI (2 * k + 1 - lv)) (by rw [sI_o (by decide), sI_o (by decide), sI_s, upd_s]) ?_
            refine r_imul (pc := 120) C dX9_read_120 ?_
            refine r_eqi (pk_mul 500 (2 * k + 1 - lv)) ?_
            refine pX9_284 (pc := 121) C dX9_read_121 ?_
            have hcut := h53c
            generalize hG4 : sI (sI (sI (sI (sI (sI (sI (sI G53 100 11 (nI 0)) 100 12 (nI 0)) 100 13 (nI 0)) 100 15 (nI 0)) 100 19 (nI (2 * k + 1 - lv))) 20 (2 * k + 1 - lv) (nI 0)) 25 (2 * k + 1 - lv) (nI 0)) 100 31 (nI (500 * (2 * k + 1 - lv))) = G4
            have q5 : G4.1 5 = G53.1 5 := by rw [← hG4, sI_o (by decide), sI_o (by decide), sI_o (by decide), sI_o (by decide), sI_o (by decide), sI_o (by decide), sI_o (by decide), sI_o (by decide)]
            have q6 : G4.1 6 = G53.1 6 := by rw [← hG4, sI_o (by decide), sI_o (by decide), sI_o (by decide), sI_o (by decide), sI_o (by decide), sI_o (by decide), sI_o (by decide), sI_o (by decide)]
            have q7 : G4.1 7 = G53.1 7 := by rw [← hG4, sI_o (by decide), sI_o (by decide), sI_o (by decide), sI_o (by decide), sI_o (by decide), sI_o (by decide), sI_o (by decide), sI_o (by decide)]
            have hTK : TK G4 B n := by
              unfold TK
              rw [q5, q6, q7]
              exact hcut.2.2
            have hf4 : rdF G G4 (2 * k + 1 - lv) := by
              rw [← hG4]
              exact ((((((((hf0.cut hcut).sl (by unfold slR; decide)).sl (by unfold slR; decide)).sl (by unfold slR; decide)).sl (by unfold slR; decide)).sl (by unfold slR; decide)).w2 (Or.inl rfl)).w2 (Or.inr rfl)).sl (by unfold slR; decide)
            have z2 : G4.1 100 2 = nI 0 := by
              rw [← hG4, sI_s, upd_o (by decide), sI_o (by decide), sI_o (by decide), sI_s, upd_o (by decide), sI_s, upd_o (by decide), sI_s, upd_o (by decide), sI_s, upd_o (by decide), sI_s, upd_o (by decide), hcut.2.1 2 (by decide), sI_s, upd_s]
            have z18 : G4.1 18 = G.1 18 := by
              rw [← hG4, sI_o (by decide), sI_o (by decide), sI_o (by decide), sI_o (by decide), sI_o (by decide), sI_o (by decide), sI_o (by decide), sI_o (by decide), hcut.1.1 18 (by unfold cS; decide), sI_o (by decide), hfr.1 18 (by decide)]
            have z53 : G4.1 100 53 = G.1 100 53 := by
              rw [← hG4, sI_s, upd_o (by decide), sI_o (by decide), sI_o (by decide), sI_s, upd_o (by decide), sI_s, upd_o (by decide), sI_s, upd_o (by decide), sI_s, upd_o (by decide), sI_s, upd_o (by decide), hcut.2.1 53 (by decide), sI_s, upd_o (by decide), h100, upd_o (by decide)]
            have hI0 : tlI G4 B n (pRun B n 401 0 0 pS0) (2 * k + 1 - lv) 0 [] [] (500 * (2 * k + 1 - lv)) (-1) false := by
              refine ⟨⟨by decide, fun i hi => absurd hi (Nat.not_lt_zero i), pInv_0, rfl⟩, trivial, trivial, ?_, ?_, by decide, Nat.le_refl _, Nat.le_refl _, ?_, ?_, ?_, ?_, Or.inl ⟨rfl, ?_⟩, ?_⟩
              · rw [← hG4, sI_o (by decide), sI_o (by decide), sI_s, upd_s]; rfl
              · rw [← hG4, sI_o (by decide), sI_s, upd_s]; rfl
              · rw [← hG4, sI_s, upd_o (by decide), sI_o (by decide), sI_o (by decide), sI_s, upd_o (by decide), sI_s, upd_o (by decide), sI_s, upd_o (by decide), sI_s, upd_o (by decide), sI_s, upd_s]
              · rw [← hG4, sI_s, upd_o (by decide), sI_o (by decide), sI_o (by decide), sI_s, upd_o (by decide), sI_s, upd_o (by decide), sI_s, upd_o (by decide), sI_s, upd_s]
              · rw [← hG4, sI_s, upd_o (by decide), sI_o (by decide), sI_o (by decide), sI_s, upd_o (by decide), sI_s, upd_o (by decide), sI_s, upd_s]; rfl
              · rw [← hG4, sI_s, upd_s]
              · rw [← hG4, sI_s, upd_o (by decide), sI_o (by decide), sI_o (by decide), sI_s, upd_o (by decide), sI_s, upd_s]; rfl
              · rw [← hG4, sI_s, upd_o (by decide), sI_o (by decide), sI_o (by decide), sI_s, upd_s]
            have loop : ∀ (k0 : Nat) (kk : Nat) (rs : List pR) (qs : List qR) (cd : Nat) (fw : Int32) (rel : Bool) (G1 : gS), k0 = 401 - kk → rdF G G1 (2 * k + 1 - lv) → tlF G4 G1 (2 * k + 1 - lv) → tlI G1 B n (pRun B n 401 0 0 pS0) (2 * k + 1 - lv) kk rs qs cd fw rel → G1.1 100 2 = nI 0 → G1.1 18 = G.1 18 → G1.1 100 53 = G.1 100 53 → WW Z (qi (fun r G' => rdP G G' B n k lv r)) 124 [some (.ref (ad Z (100))), some (.int (nI k)), some (.int (nI n))] [] G1 := by
              intro k0
              induction k0 using Nat.strongRecOn with
              | _ k0 ih =>
                intro kk rs qs cd fw rel G1 hk0 hf hf1 hI h2z h18 h53
                have hIc := hI
                obtain ⟨i1, i2, i3, i4, i5, i6, i7, i8, t0, i10, f0, i12, i13, i14⟩ := hIc
                have hk4 := i1.1
                obtain ⟨hk1, hk2p⟩ := hTK kk hk4 i1.2.1
                have e5 : G1.1 5 kk = G4.1 5 kk := by rw [hf1.1.1 5 (by unfold tlS xS; decide)]
                obtain ⟨b, hb40, hkd, hbs, -, -, -, -, -, -, -, hb0, -, -⟩ := tkk hk1
                by_cases h0 : b = 0
                · subst h0
                  have hR := lv0_end i1 (hb0.mp rfl)
                  rcases i13 with ⟨w1, w2⟩ | ⟨j, w1, w3, w2, w4⟩
                  · refine r_aload0 (pc := 124) C dX9_read_124 ?_
                    refine gX9_251 (pc := 125) C dX9_read_125 ?_
                    refine r_eqi f0 ?_
                    refine r_if_ne (pc := 128) 146 C dX9_read_128 (by decide) (fun c128 => ?_) (fun c128 => ?_)
                    · exact absurd c128 (fun h => h rfl)
                    refine r_aload0 (pc := 131) C dX9_read_131 ?_
                    refine r_iconst (pc := 132) (v := nI 0) C dX9_read_132 (by decide) ?_
                    refine r_callVi (pc := 133) C rfl dX9_read_133 kX9_269 gF9 jM (tX9_is Z.1 C.w t0 (by omega)) rfl rfl (Nat.le_of_ble_eq_true rfl) (by decide) (fun x133 G133 h133 => ?_)
                    obtain ⟨rfl, h133b⟩ := h133
                    have h133b := h133b.symm
                    subst h133b
                    rw [isB_t f0 (by rw [e5, hkd])]
                    refine r_if_ne (pc := 136) 146 C dX9_read_136 (by decide) (fun c136 => ?_) (fun c136 => ?_)
                    rotate_left
                    · exact absurd c136 (by decide)
                    refine r_aload0 (pc := 146) C dX9_read_146 ?_
                    refine r_aload0 (pc := 147) C dX9_read_147 ?_
                    refine gX9_251 (pc := 148) C dX9_read_148 ?_
                    refine r_eqi f0 ?_
                    refine r_if_le (pc := 151) 161 C dX9_read_151 (by decide) (fun c151 => ?_) (fun c151 => ?_)
                    rotate_left
                    · exact absurd c151 (fun h => h (by decide))
                    refine r_aload0 (pc := 161) C dX9_read_161 ?_
                    refine gX9_260 (pc := 162) C dX9_read_162 ?_
                    refine r_eqi w2 ?_
                    refine r_if_le (pc := 165) 175 C dX9_read_165 (by decide) (fun c165 => ?_) (fun c165 => ?_)
                    rotate_left
                    · exact absurd c165 (fun h => h (by decide))
                    refine r_iconst (pc := 175) (v := (-1)) C dX9_read_175 (by decide) ?_
                    refine pX9_37 (pc := 176) C dX9_read_176 ?_
                    refine r_aload0 (pc := 179) C dX9_read_179 ?_
                    refine gX9_251 (pc := 180) C dX9_read_180 ?_
                    refine r_eqi (y := 0) (by rw [sI_s, upd_o (by decide)]; exact f0) ?_
                    refine r_if_le (pc := 183) 191 C dX9_read_183 (by decide) (fun c183 => ?_) (fun c183 => ?_)
                    rotate_left
                    · exact absurd c183 (fun h => h (by decide))
                    refine r_aload0 (pc := 191) C dX9_read_191 ?_
                    refine gX9_260 (pc := 192) C dX9_read_192 ?_
                    refine r_eqi (y := 0) (by rw [sI_s, upd_o (by decide)]; exact w2) ?_
                    refine r_if_le (pc := 195) 203 C dX9_read_195 (by decide) (fun c195 => ?_) (fun c195 => ?_)
                    rotate_left
                    · exact absurd c195 (fun h => h (by decide))
                    refine r_aload0 (pc := 203) C dX9_read_203 ?_
                    refine gX9_40 (pc := 204) C dX9_read_204 ?_
                    refine r_iload1 (pc := 207) C dX9_read_207 ?_
                    refine r_iconst (pc := 208) (v := nI 1) C dX9_read_208 (by decide) ?_
                    refine r_aload0 (pc := 209) C dX9_read_209 ?_
                    refine gX9_40 (pc := 210) C dX9_read_210 ?_
                    refine r_iload1 (pc := 213) C dX9_read_213 ?_
                    refine r_iald (pc := 214) (_) C dX9_read_214 aM18 (rfl) (by omega) ?_
                    refine r_eqi (y := nI lv) (by rw [sI_o (by decide), h18]; exact hlv) ?_
                    refine r_isub (pc := 215) C dX9_read_215 ?_
                    refine r_eqi (y := nI (1 - lv)) (pk_sub (by omega)) ?_
                    refine r_iast (pc := 216) (_) C dX9_read_216 aM18 (rfl) (by omega) ?_
                    refine r_aload0 (pc := 217) C dX9_read_217 ?_
                    refine r_iconst (pc := 218) (v := nI 0) C dX9_read_218 (by decide) ?_
                    refine pX9_290 (pc := 219) C dX9_read_219 rfl rfl ?_
                    refine r_iconst (pc := 222) (v := nI 0) C dX9_read_222 (by decide) ?_
                    exact r_ireturn (pc := 223) C dX9_read_223 (by
                      rw [if_pos w1] at hR
                      unfold rdP
                      rw [hR]
                      refine ⟨rfl, ?_, ?_, ((hf.sl (by unfold slR; decide)).wo (by decide)).sl (by unfold slR; decide), Or.inr ⟨rfl, ?_, ?_, qs, cd, i2, ?_, by omega, by omega, ?_, ?_, ?_⟩⟩
                      · rw [sI_s, upd_o (by decide), sI_o (by decide), sI_s, upd_s]; exact w1.symm
                      · rw [sI_s, upd_o (by decide), sI_o (by decide), sI_s, upd_o (by decide)]; exact h2z
                      · rw [sI_o (by decide), sI_s, sI_o (by decide), h18]
                      · rw [sI_s, upd_s]
                      · refine pgL.ext (Nat.le_refl _) (by omega) (fun j _ _ => ?_) i3 (fun q qa qb j _ _ => ?_) (fun q qa qb j _ _ => ?_)
                        · rw [sI_o (by decide), sI_o (by decide), sI_o (by decide), sI_o (by decide), sI_o (by decide), sI_o (by decide)]; exact ⟨rfl, rfl⟩
                        · rw [sI_o (by omega), sI_o (by omega), sI_o (by omega)]
                        · rw [sI_o (by omega), sI_o (by omega), sI_o (by omega)]
                      · rw [sI_o (by decide), sI_o (by decide), sI_o (by decide), i4, i2.len]
                      · have := i1.2.2.1.2.2.2.2.1
                        have : lenC rs + 0 ≤ kk := this
                        show lenC rs ≤ 400
                        omega
                      · have h1 : rs.length ≤ 20 := i1.2.2.1.2.2.2.1
                        rw [i2.len] at h1
                        exact h1)
                  · refine r_aload0 (pc := 124) C dX9_read_124 ?_
                    refine gX9_251 (pc := 125) C dX9_read_125 ?_
                    refine r_eqi f0 ?_
                    refine r_if_ne (pc := 128) 146 C dX9_read_128 (by decide) (fun c128 => ?_) (fun c128 => ?_)
                    · exact absurd c128 (fun h => h rfl)
                    refine r_aload0 (pc := 131) C dX9_read_131 ?_
                    refine r_iconst (pc := 132) (v := nI 0) C dX9_read_132 (by decide) ?_
                    refine r_callVi (pc := 133) C rfl dX9_read_133 kX9_269 gF9 jM (tX9_is Z.1 C.w t0 (by omega)) rfl rfl (Nat.le_of_ble_eq_true rfl) (by decide) (fun x133 G133 h133 => ?_)
                    obtain ⟨rfl, h133b⟩ := h133
                    have h133b := h133b.symm
                    subst h133b
                    rw [isB_t f0 (by rw [e5, hkd])]
                    refine r_if_ne (pc := 136) 146 C dX9_read_136 (by decide) (fun c136 => ?_) (fun c136 => ?_)
                    rotate_left
                    · exact absurd c136 (by decide)
                    refine r_aload0 (pc := 146) C dX9_read_146 ?_
                    refine r_aload0 (pc := 147) C dX9_read_147 ?_
                    refine gX9_251 (pc := 148) C dX9_read_148 ?_
                    refine r_eqi f0 ?_
                    refine r_if_le (pc := 151) 161 C dX9_read_151 (by decide) (fun c151 => ?_) (fun c151 => ?_)
                    rotate_left
                    · exact absurd c151 (fun h => h (by decide))
                    refine r_aload0 (pc := 161) C dX9_read_161 ?_
                    refine gX9_260 (pc := 162) C dX9_read_162 ?_
                    refine r_eqi w2 ?_
                    refine r_if_le (pc := 165) 175 C dX9_read_165 (by decide) (fun c165 => ?_) (fun c165 => ?_)
                    · exact absurd c165 (by decide)
                    refine r_aload0 (pc := 168) C dX9_read_168 ?_
                    refine gX9_263 (pc := 169) C dX9_read_169 ?_
                    refine r_goto (pc := 172) 176 C dX9_read_172 (by decide) ?_
                    refine pX9_37 (pc := 176) C dX9_read_176 ?_
                    refine r_aload0 (pc := 179) C dX9_read_179 ?_
                    refine gX9_251 (pc := 180) C dX9_read_180 ?_
                    refine r_eqi (y := 0) (by rw [sI_s, upd_o (by decide)]; exact f0) ?_
                    refine r_if_le (pc := 183) 191 C dX9_read_183 (by decide) (fun c183 => ?_) (fun c183 => ?_)
                    rotate_left
                    · exact absurd c183 (fun h => h (by decide))
                    refine r_aload0 (pc := 191) C dX9_read_191 ?_
                    refine gX9_260 (pc := 192) C dX9_read_192 ?_
                    refine r_eqi (y := nI 5) (by rw [sI_s, upd_o (by decide)]; exact w2) ?_
                    refine r_if_le (pc := 195) 203 C dX9_read_195 (by decide) (fun c195 => ?_) (fun c195 => ?_)
                    · exact absurd c195 (by decide)
                    refine r_aload0 (pc := 198) C dX9_read_198 ?_
                    refine gX9_260 (pc := 199) C dX9_read_199 ?_
                    refine r_eqi (y := nI 5) (by rw [sI_s, upd_o (by decide)]; exact w2) ?_
                    exact r_ireturn (pc := 202) C dX9_read_202 (by
                      have hfw : ¬ fw = -1 := by rw [w3]; exact nI_m1 (by have := tokC_s (B := B) (pP_le B n j); show (tkT B n j).2.2.1 < _; unfold tkT; omega)
                      rw [if_neg hfw] at hR
                      unfold rdP
                      rw [hR]
                      exact ⟨rfl, by rw [sI_s, upd_s]; exact w4, by rw [sI_s, upd_o (by decide)]; exact h2z, hf.sl (by unfold slR; decide), Or.inl ⟨by decide, by rw [sI_o (by decide)]; exact h18, by rw [sI_s, upd_o (by decide)]; exact h53⟩⟩)
                · have hb0n := h0
                  have hnz : (tkT B n kk).1 ≠ nI 0 := fun z => h0 (hb0.mpr (by rw [z]; decide))
                  refine r_aload0 (pc := 124) C dX9_read_124 ?_
                  refine gX9_251 (pc := 125) C dX9_read_125 ?_
                  refine r_eqi f0 ?_
                  refine r_if_ne (pc := 128) 146 C dX9_read_128 (by decide) (fun c128 => ?_) (fun c128 => ?_)
                  · exact absurd c128 (fun h => h rfl)
                  refine r_aload0 (pc := 131) C dX9_read_131 ?_
                  refine r_iconst (pc := 132) (v := nI 0) C dX9_read_132 (by decide) ?_
                  refine r_callVi (pc := 133) C rfl dX9_read_133 kX9_269 gF9 jM (tX9_is Z.1 C.w t0 (by omega)) rfl rfl (Nat.le_of_ble_eq_true rfl) (by decide) (fun x133 G133 h133 => ?_)
                  obtain ⟨rfl, h133b⟩ := h133
                  have h133b := h133b.symm
                  subst h133b
                  rw [isB_f (by rw [e5, hkd]; exact nI_dj (b := 0) hb0n (by omega) (by decide))]
                  refine r_if_ne (pc := 136) 146 C dX9_read_136 (by decide) (fun c136 => ?_) (fun c136 => ?_)
                  · exact absurd c136 (fun h => h rfl)
                  refine r_aload0 (pc := 139) C dX9_read_139 ?_
                  refine r_callVv (pc := 140) C rfl dX9_read_140 kX9_287 gF9 jM (tX9_tellRule Z.1 C.w (s := (2 * k + 1 - lv)) (hTK.ex (hf1.1.1 5 (by unfold tlS xS; decide)) (hf1.1.1 6 (by unfold tlS xS; decide)) (hf1.1.1 7 (by unfold tlS xS; decide))) hn2 hs4 hI hnz) rfl rfl (Nat.le_of_ble_eq_true rfl) (by decide) (fun G140 h140 => ?_)
                  refine r_goto (pc := 143) 124 C dX9_read_143 (by decide) ?_
                  obtain ⟨p1, q1⟩ := h140
                  have hf2 : rdF G G140 (2 * k + 1 - lv) := hf.tl p1
                  have h2z2 : G140.1 100 2 = nI 0 := by rw [p1.2.1 2 (by decide) (by decide) (by decide) (by decide) (by decide) (by decide) (by decide) (by decide)]; exact h2z
                  have h182 : G140.1 18 = G.1 18 := by rw [p1.1.1 18 (by unfold tlS xS; decide)]; exact h18
                  have h532 : G140.1 100 53 = G.1 100 53 := by rw [p1.2.1 53 (by decide) (by decide) (by decide) (by decide) (by decide) (by decide) (by decide) (by decide)]; exact h53
                  rcases q1 with ⟨t, ht, ht4, hft⟩ | ⟨k2, rs2, qs2, cd2, fw2, rel2, hkk, hI2⟩
                  · exact finA _ _ hf2 h2z2 h182 h532 hft
                  · refine ih (401 - k2) (by have := hI2.1.1; omega) k2 rs2 qs2 cd2 fw2 rel2 _ rfl hf2 ⟨Fr.trans hf1.1 p1.1, fun q a1 a2 a3 a4 a5 a6 a7 a8 => (p1.2.1 q a1 a2 a3 a4 a5 a6 a7 a8).trans (hf1.2.1 q a1 a2 a3 a4 a5 a6 a7 a8), pgF.tr hf1.2.2 p1.2.2⟩ hI2 h2z2 h182 h532
            exact loop _ 0 [] [] _ _ false G4 rfl hf4 tlF.refl hI0 z2 z18 z53
          · have hib : i < n := by
              rcases Nat.lt_or_ge i n with h | h
              · exact h
              · exact absurd (nI_le h (by omega)) c26
            refine r_aload0 (pc := 29) C dX9_read_29 ?_
            refine gX9_17 (pc := 30) C dX9_read_30 ?_
            refine r_iload2 (pc := 33) C dX9_read_33 ?_
            refine r_aload0 (pc := 34) C dX9_read_34 ?_
            refine gX9_13 (pc := 35) C dX9_read_35 ?_
            refine r_iload2 (pc := 38) C dX9_read_38 ?_
            refine r_bald (pc := 39) (_) C dX9_read_39 aM1 (rfl) (by omega) ?_
            refine r_bast (pc := 40) (_) C dX9_read_40 aM3 (rfl) (by omega) (rfl) ?_
            refine r_iinc2 (pc := 41) (nI 1) C dX9_read_41 (by decide) rfl ?_
            rw [nI_add i 1]
            refine r_goto (pc := 44) 21 C dX9_read_44 (by decide) ?_
            exact ih (n - (i + 1)) (by omega) (i + 1) _ rfl (by omega) (hfr.sI (Or.inl rfl)) (by rw [sI_o (by decide)]; exact h100) (fun j hj => by
              rw [sI_s]
              by_cases e : j = i
              · subst e; rw [upd_s, nar_255, hfr.1 1 (by decide)]; exact hby j (by omega)
              · rw [upd_o e]; exact h3 j (by omega))
      refine r_aload0 (pc := 11) C dX9_read_11 ?_
      refine r_aload0 (pc := 12) C dX9_read_12 ?_
      refine gX9_213 (pc := 13) C dX9_read_13 ?_
      refine r_eqi h2 ?_
      refine pX9_220 (pc := 16) C dX9_read_16 ?_
      refine r_iconst (pc := 19) (v := nI 0) C dX9_read_19 (by decide) ?_
      refine r_istore2 (pc := 20) C dX9_read_20 rfl ?_
      exact loopi _ 0 _ rfl (Nat.zero_le _) (Fr.refl.sI (Or.inr rfl)) (by rw [sI_s]) (fun j hj => absurd hj (Nat.not_lt_zero j))
    · refine r_iconst (pc := 9) (v := (-1)) C dX9_read_9 (by decide) ?_
      exact r_ireturn (pc := 10) C dX9_read_10 (by rw [if_neg (fun z => ((belB_m (b := 1) (by decide)).mp z).2 (Int32.not_le.mp c6))]; exact ⟨rfl, rfl⟩)
