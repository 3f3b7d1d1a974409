set_option maxHeartbeats 4000000 in
set_option maxRecDepth 100000 in
theorem tX5_setVars (Y : gY) (hY : Y.2.2.2 = wC) {G : gS} {i : Nat} (hi : i < 8) {a b c d : Int32} : ∀ l : Launch, gM Y l yX5_setVars cX5_setVars 6 none (0, 0) [.ref (Y.2.1 (15)), .ref (Y.2.1 (32 + i)), .int (a), .int (b), .int (c), .int (d)] G (qv (fun G' => Fr (fun q => q = 21) G G' ∧ ∀ k, k < 7 → G'.1 21 k = vq (G.1 (32 + i) 0) (G.1 (32 + i) 1) (G.1 (32 + i) 2) a b c d k)) := by
  intro l
  refine gM_of hY rfl (Nat.le_of_ble_eq_true rfl) [some (.ref (Y.2.1 (15))), some (.ref (Y.2.1 (32 + i))), some (.int (a)), some (.int (b)), some (.int (c)), some (.int (d))] rfl rfl ?_
  rintro Z rfl C
  refine r_aload0 (pc := 0) C dX5_setVars_0 ?_
  refine gX5_28 (pc := 1) C dX5_setVars_1 ?_
  refine r_iconst (pc := 4) (v := nI 0) C dX5_setVars_4 (by decide) ?_
  refine r_aload1 (pc := 5) C dX5_setVars_5 ?_
  refine gX5_108 (pc := 6) C (by omega) dX5_setVars_6 ?_
  refine r_iast (pc := 9) (_) C dX5_setVars_9 aC21 (rfl) (by omega) ?_
  refine r_aload0 (pc := 10) C dX5_setVars_10 ?_
  refine gX5_28 (pc := 11) C dX5_setVars_11 ?_
  refine r_iconst (pc := 14) (v := nI 1) C dX5_setVars_14 (by decide) ?_
  refine r_aload1 (pc := 15) C dX5_setVars_15 ?_
  refine gX5_168 (pc := 16) C (by omega) dX5_setVars_16 ?_
  refine r_eqi (y := G.1 (32 + i) 1) (by simp only [sI_o (show 32 + i ≠ 21 by omega)]) ?_
  refine r_iast (pc := 19) (_) C dX5_setVars_19 aC21 (rfl) (by omega) ?_
  refine r_aload0 (pc := 20) C dX5_setVars_20 ?_
  refine gX5_28 (pc := 21) C dX5_setVars_21 ?_
  refine r_iconst (pc := 24) (v := nI 2) C dX5_setVars_24 (by decide) ?_
  refine r_aload1 (pc := 25) C dX5_setVars_25 ?_
  refine gX5_171 (pc := 26) C (by omega) dX5_setVars_26 ?_
  refine r_eqi (y := G.1 (32 + i) 2) (by simp only [sI_o (show 32 + i ≠ 21 by omega)]) ?_
  refine r_iast (pc := 29) (_) C dX5_setVars_29 aC21 (rfl) (by omega) ?_
  refine r_aload0 (pc := 30) C dX5_setVars_30 ?_
  refine gX5_28 (pc := 31) C dX5_setVars_31 ?_
  refine r_iconst (pc := 34) (v := nI 3) C dX5_setVars_34 (by decide) ?_
  refine r_iload2 (pc := 35) C dX5_setVars_35 ?_
  refine r_iast (pc := 36) (_) C dX5_setVars_36 aC21 (rfl) (by omega) ?_
  refine r_aload0 (pc := 37) C dX5_setVars_37 ?_
  refine gX5_28 (pc := 38) C dX5_setVars_38 ?_
  refine r_iconst (pc := 41) (v := nI 4) C dX5_setVars_41 (by decide) ?_
  refine r_iload3 (pc := 42) C dX5_setVars_42 ?_
  refine r_iast (pc := 43) (_) C dX5_setVars_43 aC21 (rfl) (by omega) ?_
  refine r_aload0 (pc := 44) C dX5_setVars_44 ?_
  refine gX5_28 (pc := 45) C dX5_setVars_45 ?_
  refine r_iconst (pc := 48) (v := nI 5) C dX5_setVars_48 (by decide) ?_
  refine r_iload4 (pc := 49) C dX5_setVars_49 ?_
  refine r_iast (pc := 51) (_) C dX5_setVars_51 aC21 (rfl) (by omega) ?_
  refine r_aload0 (pc := 52) C dX5_setVars_52 ?_
  refine gX5_28 (pc := 53) C dX5_setVars_53 ?_
  refine r_bipush (pc := 56) (v := nI 6) C dX5_setVars_56 (by decide) ?_
  refine r_iload5 (pc := 58) C dX5_setVars_58 ?_
  refine r_iast (pc := 60) (_) C dX5_setVars_60 aC21 (rfl) (by omega) ?_
  exact r_return (pc := 61) C dX5_setVars_61 (⟨(((((((Fr.refl (S := fun q => q = 21)).sI rfl).sI rfl).sI rfl).sI rfl).sI rfl).sI rfl).sI rfl, fun k hk => by rcases (show k = 0 ∨ k = 1 ∨ k = 2 ∨ k = 3 ∨ k = 4 ∨ k = 5 ∨ k = 6 by omega) with rfl | rfl | rfl | rfl | rfl | rfl | rfl <;> rfl⟩)
def hrdR (down : Nat → Bool) (an ah : Nat → (Nat → Int32) → Int32) (v : Nat → Int32) : Nat → Nat → Int32 × Int32 → Int32 × Int32
  | 0, _, p => p
  | n + 1, k, p => hrdR down an ah v n (k + 1) (hrd1 down an ah v k p)
theorem hrdR_no {down : Nat → Bool} {an ah : Nat → (Nat → Int32) → Int32} {v : Nat → Int32} : ∀ (n k : Nat) {p : Int32 × Int32}, ¬ p.1 = -1 → hrdR down an ah v n k p = p
  | 0, _, _, _ => rfl
  | n + 1, k, p, h => by rw [hrdR, hrd1, if_neg (fun e => h e.1), hrdR_no n (k + 1) h]
def sQ (q : Nat) : Prop := q = 21 ∨ (100 ≤ q ∧ q < 103)
set_option maxHeartbeats 4000000 in
set_option maxRecDepth 100000 in
theorem tX5_question (Y : gY) (hY : Y.2.2.2 = wC) {G : gS} {mc i t : Nat} {jk nk : Nat → Nat} (hmc : G.1 6 1 = nI mc) (hm8 : mc ≤ 8) (hi : i < mc) (ht : t < 300) (hK : kOk mc (mF G)) (hjk : ∀ k, k < 2 → G.2.2 14 k = 40 + jk k ∧ jk k < 3 ∧ RW G (jk k) (nk k)) : ∀ l : Launch, gM Y l yX5_question cX5_question 7 none (3, 72) [.ref (Y.2.1 (15)), .int (nI i), .ref (Y.2.1 (32 + i)), .int (nI t)] G (qv (fun G' => Fr (fun q => q = 32 + i ∨ sQ q) G G' ∧ G'.1 (32 + i) = qsF (nI t) (hrd (bt (G.1 12 t) i) (fun k => bt (G.1 12 t) (16 + k)) (fun k v => chC G (jk k) (nk k) v (G.1 6 4)) (fun k v => ahC G (jk k) (nk k) v) (vqF (nI t) (G.1 (32 + i)))) (waitsF mc (mF G) i (hrd (bt (G.1 12 t) i) (fun k => bt (G.1 12 t) (16 + k)) (fun k v => chC G (jk k) (nk k) v (G.1 6 4)) (fun k v => ahC G (jk k) (nk k) v) (vqF (nI t) (G.1 (32 + i)))).2) (G.1 (32 + i)))) := by
  intro l
  refine gM_of hY rfl (Nat.le_of_ble_eq_true rfl) [some (.ref (Y.2.1 (15))), some (.int (nI i)), some (.ref (Y.2.1 (32 + i))), some (.int (nI t)), none, none, none] rfl rfl ?_
  rintro Z rfl C
  have tail : ∀ (H : Int32 × Int32) (p : Int32 × Int32) (Gx : gS) (o6 : Option Value), p = H → Fr sQ G Gx → WW Z (qv (fun G' => Fr (fun q => q = 32 + i ∨ sQ q) G G' ∧ G'.1 (32 + i) = qsF (nI t) H (waitsF mc (mF G) i H.2) (G.1 (32 + i)))) 130 [some (.ref (ad Z (15))), some (.int (nI i)), some (.ref (ad Z (32 + i))), some (.int (nI t)), some (.int (p.1)), some (.int (p.2)), o6] [] Gx := by
    intro H p Gx o6 hp hF
    subst hp
    have hrow : Gx.1 (32 + i) = G.1 (32 + i) := hF.1 _ (by rintro (h | h) <;> omega)
    have hMF : mF Gx = mF G := mF_fr hF (by intro r h1 h2; rintro (h | h) <;> omega)
    refine r_iload4 (pc := 130) C dX5_question_130 ?_
    refine r_if_ge (pc := 132) 155 C dX5_question_132 (by decide) (fun c132 => ?_) (fun c132 => ?_)
    · refine r_aload0 (pc := 155) C dX5_question_155 ?_
      refine gX5_31 (pc := 156) C dX5_question_156 ?_
      refine r_iload1 (pc := 159) C dX5_question_159 ?_
      refine r_iload5 (pc := 160) C dX5_question_160 ?_
      refine r_callVi (pc := 162) C rfl dX5_question_162 kX5_161 gF1 jC6 (tX1_mustWait Z.1 C.w (mc := mc) (m := i) (by rw [hF.1 _ (by rintro (h | h) <;> omega)]; exact hmc) hm8 (by omega) (by rw [hMF]; exact hK)) rfl rfl (Nat.le_of_ble_eq_true rfl) (by decide) (fun x162 G162 h162 => ?_)
      obtain ⟨rfl, h162b⟩ := h162
      have h162b := h162b.symm
      subst h162b
      refine r_eqi (y := bI (waitsF mc (mF G) i p.2)) (by rw [hMF]) ?_
      refine r_if_eq (pc := 165) 178 C dX5_question_165 (by decide) (fun c165 => ?_) (fun c165 => ?_)
      · refine r_aload2 (pc := 178) C dX5_question_178 ?_
        refine r_iload4 (pc := 179) C dX5_question_179 ?_
        refine r_iconst (pc := 181) (v := nI 1) C dX5_question_181 (by decide) ?_
        refine r_iload3 (pc := 182) C dX5_question_182 ?_
        refine r_iconst (pc := 183) (v := nI 1) C dX5_question_183 (by decide) ?_
        refine r_iadd (pc := 184) C dX5_question_184 ?_
        refine r_callVv (pc := 185) C rfl dX5_question_185 kX5_164 gF2 (jCm (by omega)) (tX2_fetch Z.1 C.w (by omega)) rfl rfl (Nat.le_of_ble_eq_true rfl) (by decide) (fun G185 h185 => ?_)
        subst h185
        exact r_return (pc := 188) C dX5_question_188 (⟨(hF.mono (fun _ h => Or.inr h)).sW (Or.inl rfl), by rw [sW_s, hrow, qsF, if_pos c132, if_neg (by rw [bI_z.mp c165]; decide)]⟩)
      · refine r_aload2 (pc := 168) C dX5_question_168 ?_
        refine r_iload3 (pc := 169) C dX5_question_169 ?_
        refine r_iconst (pc := 170) (v := nI 1) C dX5_question_170 (by decide) ?_
        refine r_iadd (pc := 171) C dX5_question_171 ?_
        refine pX5_114 (pc := 172) C (by omega) dX5_question_172 ?_
        refine r_goto (pc := 175) 188 C dX5_question_175 (by decide) ?_
        exact r_return (pc := 188) C dX5_question_188 (⟨(hF.mono (fun _ h => Or.inr h)).sI (Or.inl rfl), by rw [sI_s, hrow, qsF, if_pos c132, if_pos (bI_n.mp c165)]⟩)
    · refine r_aload2 (pc := 135) C dX5_question_135 ?_
      refine r_iload4 (pc := 136) C dX5_question_136 ?_
      refine r_bipush (pc := 138) (v := (-2)) C dX5_question_138 (by decide) ?_
      refine r_icmp_ne (pc := 140) 147 C dX5_question_140 (by decide) (fun c140 => ?_) (fun c140 => ?_)
      · refine r_iconst (pc := 147) (v := nI 1) C dX5_question_147 (by decide) ?_
        refine r_iload3 (pc := 148) C dX5_question_148 ?_
        refine r_callVv (pc := 149) C rfl dX5_question_149 kX5_157 gF2 (jCm (by omega)) (tX2_failToAsk Z.1 C.w (by omega)) rfl rfl (Nat.le_of_ble_eq_true rfl) (by decide) (fun G149 h149 => ?_)
        subst h149
        refine r_goto (pc := 152) 188 C dX5_question_152 (by decide) ?_
        exact r_return (pc := 188) C dX5_question_188 (⟨(hF.mono (fun _ h => Or.inr h)).sW (Or.inl rfl), by rw [sW_s, hrow, qsF, if_neg c132, if_neg c140]⟩)
      · refine r_iconst (pc := 143) (v := nI 2) C dX5_question_143 (by decide) ?_
        refine r_goto (pc := 144) 148 C dX5_question_144 (by decide) ?_
        refine r_iload3 (pc := 148) C dX5_question_148 ?_
        refine r_callVv (pc := 149) C rfl dX5_question_149 kX5_157 gF2 (jCm (by omega)) (tX2_failToAsk Z.1 C.w (by omega)) rfl rfl (Nat.le_of_ble_eq_true rfl) (by decide) (fun G149 h149 => ?_)
        subst h149
        refine r_goto (pc := 152) 188 C dX5_question_152 (by decide) ?_
        exact r_return (pc := 188) C dX5_question_188 (⟨(hF.mono (fun _ h => Or.inr h)).sW (Or.inl rfl), by rw [sW_s, hrow, qsF, if_neg c132, if_pos c140]⟩)
  have loopQ : ∀ H : Int32 × Int32, ∀ (k0 : Nat) (k : Nat) (p : Int32 × Int32) (Gx : gS), k0 = 2 - k → k ≤ 2 → Fr sQ G Gx → (∀ k, k < 7 → Gx.1 21 k = vqF (nI t) (G.1 (32 + i)) k) → hrdR (fun k => bt (G.1 12 t) (16 + k)) (fun k v => chC G (jk k) (nk k) v (G.1 6 4)) (fun k v => ahC G (jk k) (nk k) v) (vqF (nI t) (G.1 (32 + i))) (2 - k) k p = H → WW Z (qv (fun G' => Fr (fun q => q = 32 + i ∨ sQ q) G G' ∧ G'.1 (32 + i) = qsF (nI t) H (waitsF mc (mF G) i H.2) (G.1 (32 + i)))) 42 [some (.ref (ad Z (15))), some (.int (nI i)), some (.ref (ad Z (32 + i))), some (.int (nI t)), some (.int (p.1)), some (.int (p.2)), some (.int (nI k))] [] Gx := by
    intro H k0
    induction k0 using Nat.strongRecOn with
    | _ k0 ih =>
      intro k p Gx hk0 hk hF hV hR
      refine r_iload6 (pc := 42) C dX5_question_42 ?_
      refine r_iconst (pc := 44) (v := nI 2) C dX5_question_44 (by decide) ?_
      refine r_icmp_ge (pc := 45) 130 C dX5_question_45 (by decide) (fun c45 => ?_) (fun c45 => ?_)
      · obtain rfl : k = 2 := by have := (nI_leI (by omega) (by omega)).mp c45; omega
        exact tail _ p Gx _ (by rw [← hR]; rfl) hF
      · have hk2 : k < 2 := by
          rcases Nat.lt_or_ge k 2 with h | h
          · exact h
          · exact absurd (nI_le h (by omega)) c45
        obtain ⟨hjk1, hjk2, hjk3⟩ := hjk k hk2
        refine r_iload4 (pc := 48) C dX5_question_48 ?_
        refine r_iconst (pc := 50) (v := (-1)) C dX5_question_50 (by decide) ?_
        refine r_icmp_ne (pc := 51) 130 C dX5_question_51 (by decide) (fun c51 => ?_) (fun c51 => ?_)
        · exact tail _ p Gx _ (by rw [← hR, hrdR_no _ _ c51]) hF
        · refine r_aload0 (pc := 54) C dX5_question_54 ?_
          refine gX5_31 (pc := 55) C dX5_question_55 ?_
          refine gX5_59 (pc := 58) C dX5_question_58 ?_
          refine r_iload6 (pc := 61) C dX5_question_61 ?_
          refine r_iload3 (pc := 63) C dX5_question_63 ?_
          refine r_callVi (pc := 64) C rfl dX5_question_64 kX5_137 gF0 jC11 (tX0_isDown Z.1 C.w (m := k) (t := t) (by omega) ht) rfl rfl (Nat.le_of_ble_eq_true rfl) (by decide) (fun x64 G64 h64 => ?_)
          obtain ⟨rfl, h64b⟩ := h64
          have h64b := h64b.symm
          subst h64b
          refine r_eqi (y := bI (bt (G.1 12 t) (16 + k))) (by rw [hF.1 _ (by rintro (h | h) <;> omega)]) ?_
          refine r_if_ne (pc := 67) 124 C dX5_question_67 (by decide) (fun c67 => ?_) (fun c67 => ?_)
          · refine r_iinc6 (pc := 124) (nI 1) C dX5_question_124 (by decide) rfl ?_
            rw [nI_add]
            refine r_goto (pc := 127) 42 C dX5_question_127 (by decide) ?_
            refine ih (2 - (k + 1)) (by omega) (k + 1) p Gx rfl (by omega) hF hV ?_
            rw [← hR, show 2 - k = (2 - (k + 1)) + 1 by omega, hrdR, hrd1, if_neg (fun h => by rw [bI_n.mp c67] at h; cases h.2)]
          · refine r_aload0 (pc := 70) C dX5_question_70 ?_
            refine gX5_31 (pc := 71) C dX5_question_71 ?_
            refine gX5_140 (pc := 74) C dX5_question_74 ?_
            refine r_iload6 (pc := 77) C dX5_question_77 ?_
            refine r_aald (pc := 79) (k) C dX5_question_79 aC14 (fun _ => rfl) (rfl) (by omega) ((show Gx.2.2 14 k = 40 + jk k from by rw [hF.2.2]; exact hjk1)) ?_
            refine r_aload0 (pc := 80) C dX5_question_80 ?_
            refine gX5_28 (pc := 81) C dX5_question_81 ?_
            refine r_aload0 (pc := 84) C dX5_question_84 ?_
            refine gX5_31 (pc := 85) C dX5_question_85 ?_
            refine gX5_144 (pc := 88) C dX5_question_88 ?_
            refine r_eqi (y := G.1 6 4) (by rw [hF.1 _ (by rintro (h | h) <;> omega)]) ?_
            refine r_callVi (pc := 91) C rfl dX5_question_91 kX5_147 gF4 (jCr (by omega)) (tX4_choose Z.1 C.w (j := jk k) (n := nk k) hjk2 (hjk3.fr hF (by rintro (h | h) <;> omega) (by rintro (h | h) <;> omega) (by rintro (h | h) <;> omega) (by rintro (h | h) <;> omega))) rfl rfl (Nat.le_of_ble_eq_true rfl) (by decide) (fun x91 G91 h91 => ?_)
            obtain ⟨rfl, hF91a⟩ := h91
            have hF91 : Fr sQ G G91 := hF.trans (hF91a.mono (by intro r h; exact Or.inr (by omega)))
            have hV91 : ∀ k, k < 7 → G91.1 21 k = vqF (nI t) (G.1 (32 + i)) k := fun k hk => by rw [hF91a.1 _ (by omega)]; exact hV k hk
            refine r_eqi (y := chC G (jk k) (nk k) (vqF (nI t) (G.1 (32 + i))) (G.1 6 4)) (by rw [chC_fr hF (by rintro (h | h) <;> omega) (by rintro (h | h) <;> omega) (by rintro (h | h) <;> omega) (by rintro (h | h) <;> omega) (by rintro (h | h) <;> omega), chC_v hV]) ?_
            refine r_istore4 (pc := 94) C dX5_question_94 rfl ?_
            refine r_iload4 (pc := 96) C dX5_question_96 ?_
            refine r_if_ge (pc := 98) 105 C dX5_question_98 (by decide) (fun c98 => ?_) (fun c98 => ?_)
            · refine r_aload0 (pc := 105) C dX5_question_105 ?_
              refine gX5_31 (pc := 106) C dX5_question_106 ?_
              refine gX5_140 (pc := 109) C dX5_question_109 ?_
              refine r_iload6 (pc := 112) C dX5_question_112 ?_
              refine r_aald (pc := 114) (k) C dX5_question_114 aC14 (fun _ => rfl) (rfl) (by omega) ((show G91.2.2 14 k = 40 + jk k from by rw [hF91.2.2]; exact hjk1)) ?_
              refine r_aload0 (pc := 115) C dX5_question_115 ?_
              refine gX5_28 (pc := 116) C dX5_question_116 ?_
              refine r_callVi (pc := 119) C rfl dX5_question_119 kX5_153 gF4 (jCr (by omega)) (tX4_kindsAhead Z.1 C.w (j := jk k) (n := nk k) hjk2 (hjk3.fr hF91 (by rintro (h | h) <;> omega) (by rintro (h | h) <;> omega) (by rintro (h | h) <;> omega) (by rintro (h | h) <;> omega))) rfl rfl (Nat.le_of_ble_eq_true rfl) (by decide) (fun x119 G119 h119 => ?_)
              obtain ⟨rfl, hF119a⟩ := h119
              have hF119 : Fr sQ G G119 := hF91.trans (hF119a.mono (by intro r h; exact Or.inr (by omega)))
              have hV119 : ∀ k, k < 7 → G119.1 21 k = vqF (nI t) (G.1 (32 + i)) k := fun k hk => by rw [hF119a.1 _ (by omega)]; exact hV91 k hk
              refine r_eqi (y := ahC G (jk k) (nk k) (vqF (nI t) (G.1 (32 + i)))) (by rw [ahC_fr hF91 (by rintro (h | h) <;> omega) (by rintro (h | h) <;> omega) (by rintro (h | h) <;> omega) (by rintro (h | h) <;> omega) (by rintro (h | h) <;> omega), ahC_v hV91]) ?_
              refine r_istore5 (pc := 122) C dX5_question_122 rfl ?_
              refine r_iinc6 (pc := 124) (nI 1) C dX5_question_124 (by decide) rfl ?_
              rw [nI_add]
              refine r_goto (pc := 127) 42 C dX5_question_127 (by decide) ?_
              refine ih (2 - (k + 1)) (by omega) (k + 1) (_, _) _ rfl (by omega) hF119 hV119 ?_
              rw [← hR, show 2 - k = (2 - (k + 1)) + 1 by omega, hrdR, hrd1, if_pos ⟨c51, bI_z.mp c67⟩, if_pos c98]
              rfl
            · refine r_iconst (pc := 101) (v := nI 0) C dX5_question_101 (by decide) ?_
              refine r_goto (pc := 102) 122 C dX5_question_102 (by decide) ?_
              refine r_istore5 (pc := 122) C dX5_question_122 rfl ?_
              refine r_iinc6 (pc := 124) (nI 1) C dX5_question_124 (by decide) rfl ?_
              rw [nI_add]
              refine r_goto (pc := 127) 42 C dX5_question_127 (by decide) ?_
              refine ih (2 - (k + 1)) (by omega) (k + 1) (_, _) _ rfl (by omega) hF91 hV91 ?_
              rw [← hR, show 2 - k = (2 - (k + 1)) + 1 by omega, hrdR, hrd1, if_pos ⟨c51, bI_z.mp c67⟩, if_neg c98]
              rfl
  refine r_iconst (pc := 0) (v := (-1)) C dX5_question_0 (by decide) ?_
  refine r_istore4 (pc := 1) C dX5_question_1 rfl ?_
  refine r_iconst (pc := 3) (v := nI 0) C dX5_question_3 (by decide) ?_
  refine r_istore5 (pc := 4) C dX5_question_4 rfl ?_
  refine r_aload0 (pc := 6) C dX5_question_6 ?_
  refine gX5_31 (pc := 7) C dX5_question_7 ?_
  refine gX5_59 (pc := 10) C dX5_question_10 ?_
  refine r_iload1 (pc := 13) C dX5_question_13 ?_
  refine r_iload3 (pc := 14) C dX5_question_14 ?_
  refine r_callVi (pc := 15) C rfl dX5_question_15 kX5_121 gF0 jC11 (tX0_isLost Z.1 C.w (m := i) (t := t) (by omega) ht) rfl rfl (Nat.le_of_ble_eq_true rfl) (by decide) (fun x15 G15 h15 => ?_)
  obtain ⟨rfl, h15b⟩ := h15
  have h15b := h15b.symm
  subst h15b
  refine r_if_ne (pc := 18) 130 C dX5_question_18 (by decide) (fun c18 => ?_) (fun c18 => ?_)
  · exact tail _ (-1, nI 0) G none (by rw [hrd, if_pos (bI_n.mp c18)]) Fr.refl
  · refine r_aload0 (pc := 21) C dX5_question_21 ?_
    refine r_aload2 (pc := 22) C dX5_question_22 ?_
    refine r_aload2 (pc := 23) C dX5_question_23 ?_
    refine gX5_124 (pc := 24) C (by omega) dX5_question_24 ?_
    refine r_aload2 (pc := 27) C dX5_question_27 ?_
    refine gX5_127 (pc := 28) C (by omega) dX5_question_28 ?_
    refine r_aload2 (pc := 31) C dX5_question_31 ?_
    refine gX5_130 (pc := 32) C (by omega) dX5_question_32 ?_
    refine r_iload3 (pc := 35) C dX5_question_35 ?_
    refine r_callVv (pc := 36) C rfl dX5_question_36 kX5_133 gF5 jC15 (tX5_setVars Z.1 C.w (i := i) (by omega)) rfl rfl (Nat.le_of_ble_eq_true rfl) (by decide) (fun G36 h36 => ?_)
    obtain ⟨hF36, hV36⟩ := h36
    refine r_iconst (pc := 39) (v := nI 0) C dX5_question_39 (by decide) ?_
    refine r_istore6 (pc := 40) C dX5_question_40 rfl ?_
    exact loopQ _ _ 0 (-1, nI 0) G36 rfl (by omega) (hF36.mono (fun _ h => Or.inl h)) hV36 (by rw [hrd, if_neg (by rw [bI_z.mp c18]; decide)]; rfl)
