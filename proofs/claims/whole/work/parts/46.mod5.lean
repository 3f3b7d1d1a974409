/-! the reference: a question -/
theorem mmF_fr {S : Nat → Prop} {G G' : gS} (hF : Fr S G G') (hS : ∀ q, q ∈ mrL → ¬ S q) : mmF G' = mmF G := by
  have hm : ∀ k, k < 16 → mr k ∈ mrL := by decide +kernel
  funext j q
  unfold mmF
  by_cases hj : j < 8
  · rw [if_pos hj, if_pos hj]
    show (if q < 16 then _ else _) = (if q < 16 then _ else _)
    by_cases hq : q < 16
    · rw [if_pos hq, if_pos hq, hF.1 _ (hS _ (hm q hq))]
    · rw [if_neg hq, if_neg hq]
  · rw [if_neg hj, if_neg hj]
theorem mFt_eq (f : Nat → Int32) (a t c : Int32) : upd (upd (upd (upd (upd (upd f 3 (nI 2)) 4 a) 5 (nI 0)) 14 t) 12 c) 7 (nI 0) = mFetch a c t f := by
  refine row_ext (fun k hk => ?_) (fun k hk => ?_)
  · rcases (show k = 0 ∨ k = 1 ∨ k = 2 ∨ k = 3 ∨ k = 4 ∨ k = 5 ∨ k = 6 ∨ k = 7 ∨ k = 8 ∨ k = 9 ∨ k = 10 ∨ k = 11 ∨ k = 12 ∨ k = 13 ∨ k = 14 ∨ k = 15 by omega) with rfl | rfl | rfl | rfl | rfl | rfl | rfl | rfl | rfl | rfl | rfl | rfl | rfl | rfl | rfl | rfl <;> rfl
  · unfold mFetch mEnter
    rw [upd_o (by omega), upd_o (by omega), upd_o (by omega), upd_o (by omega), upd_o (by omega), upd_o (by omega), upd_o (by omega), upd_o (by omega), upd_o (by omega), upd_o (by omega), upd_o (by omega), upd_o (by omega), upd_o (by omega), upd_o (by omega), upd_o (by omega)]
theorem hrd_it (lo : Bool) (d : Nat → Bool) (an ah : Nat → (Nat → Int32) → Int32) (v : Nat → Int32) : hrd lo d an ah v = itN (fun k p => if lo = true then p else hrd1 d an ah v k p) 2 (-1, nI 0) := by cases lo <;> rfl
/-- an answer is a FILE, none, or two -/
theorem hrd_3 {h : hQ} (hx : ∀ k, k < 2 → ∀ v, hAn h k v = -1 ∨ hAn h k v = -2 ∨ 0 ≤ hAn h k v) (lo : Bool) (d : Nat → Bool) (v : Nat → Int32) : (hrd lo d (hAn h) (hAh h) v).1 = -1 ∨ (hrd lo d (hAn h) (hAh h) v).1 = -2 ∨ 0 ≤ (hrd lo d (hAn h) (hAh h) v).1 := by
  have key : ∀ k, k < 2 → ∀ (p : Int32 × Int32), (p.1 = -1 ∨ p.1 = -2 ∨ 0 ≤ p.1) → ((hrd1 d (hAn h) (hAh h) v k p).1 = -1 ∨ (hrd1 d (hAn h) (hAh h) v k p).1 = -2 ∨ 0 ≤ (hrd1 d (hAn h) (hAh h) v k p).1) := by
    intro k hk p hp
    unfold hrd1
    split
    · exact hx k hk v
    · exact hp
  unfold hrd
  split
  · exact Or.inl rfl
  · exact key 1 (by decide) _ (key 0 (by decide) _ (Or.inl rfl))
def qS (q : Nat) : Prop := sMM q ∨ q = 50 ∨ q = 51 ∨ q = 100
theorem relS_qS : ∀ r, relS r → ¬ qS r := by
  intro r h1 h2
  unfold qS sMM mrL at h2
  unfold relS at h1
  simp only [List.mem_cons, List.not_mem_nil, or_false] at h2
  omega
set_option maxHeartbeats 4000000 in
set_option maxRecDepth 100000 in
theorem tX9_question (Y : gY) (hY : Y.2.2.2 = wM) {G : gS} {h : hQ} {i t fc wd : Nat} (hm : relM G h fc wd) (hx3 : ∀ k, k < 2 → ∀ v, hAn h k v = -1 ∨ hAn h k v = -2 ∨ 0 ≤ hAn h k v) (hi : i < hMc h) (ht : t < 300) (hk : kOk (hMc h) (mmF G)) (h1 : mmF G i 3 = nI 1) (hrn : rN (mmF G i)) : ∀ l : Launch, gM Y l yX9_question cX9_question 5 none (3, 78) [.ref (Y.2.1 (100)), .int (nI i), .int (nI t)] G (qv (fun G' => Fr qS G G' ∧ (∀ q, q ≠ 52 → G'.1 100 q = G.1 100 q) ∧ mmF G' = va_up (mmF G) i (qsF (nI t) (hrd (hLost h t i) (hDown h t) (hAn h) (hAh h) (vqF (nI t) (mmF G i))) (waitsF (hMc h) (mmF G) i (hrd (hLost h t i) (hDown h t) (hAn h) (hAh h) (vqF (nI t) (mmF G i))).2) (mmF G i)))) := by
  intro l
  refine gM_of hY rfl (Nat.le_of_ble_eq_true rfl) [some (.ref (Y.2.1 (100))), some (.int (nI i)), some (.int (nI t)), none, none] rfl rfl ?_
  rintro Z rfl C
  obtain ⟨a1, a2, a3, a4, a5, a6, a7, a8, a9, b1, b2, b3, b4, b5, b6⟩ := hm
  have hi8 : i < 8 := by omega
  obtain ⟨q7, q8, -, -⟩ := hrn.1 (by rw [h1]; decide)
  refine r_aload0 (pc := 0) C dX9_question_0 ?_
  refine r_iload1 (pc := 1) C dX9_question_1 ?_
  refine r_aload0 (pc := 2) C dX9_question_2 ?_
  refine gX9_182 (pc := 3) C dX9_question_3 ?_
  refine r_iload1 (pc := 6) C dX9_question_6 ?_
  refine r_iald (pc := 7) (_) C dX9_question_7 aM75 (rfl) (by omega) ?_
  refine r_eqi (mg75 hi8) ?_
  refine r_aload0 (pc := 8) C dX9_question_8 ?_
  refine gX9_185 (pc := 9) C dX9_question_9 ?_
  refine r_iload1 (pc := 12) C dX9_question_12 ?_
  refine r_iald (pc := 13) (_) C dX9_question_13 aM76 (rfl) (by omega) ?_
  refine r_eqi (mg76 hi8) ?_
  refine r_aload0 (pc := 14) C dX9_question_14 ?_
  refine gX9_191 (pc := 15) C dX9_question_15 ?_
  refine r_iload1 (pc := 18) C dX9_question_18 ?_
  refine r_iald (pc := 19) (_) C dX9_question_19 aM78 (rfl) (by omega) ?_
  refine r_eqi (mg78 hi8) ?_
  refine r_iload2 (pc := 20) C dX9_question_20 ?_
  refine r_callVv (pc := 21) C rfl dX9_question_21 kX9_371 gF9 jM (tX9_asks Z.1 C.w hi8) rfl rfl (Nat.le_of_ble_eq_true rfl) (by decide) (fun G21 h21 => ?_)
  obtain ⟨f21, v21⟩ := h21
  have fin : ∀ (y : Int32) (o4 : Option Value) (G1 : gS), Fr (fun q => q = 51 ∨ q = 100) G21 G1 → (∀ q, q ≠ 52 → G1.1 100 q = G21.1 100 q) → y = (hrd (hLost h t i) (hDown h t) (hAn h) (hAh h) (vqF (nI t) (mmF G i))).1 → (0 ≤ y → G1.1 100 52 = (hrd (hLost h t i) (hDown h t) (hAn h) (hAh h) (vqF (nI t) (mmF G i))).2) → WW Z (qv (fun G' => Fr qS G G' ∧ (∀ q, q ≠ 52 → G'.1 100 q = G.1 100 q) ∧ mmF G' = va_up (mmF G) i (qsF (nI t) (hrd (hLost h t i) (hDown h t) (hAn h) (hAh h) (vqF (nI t) (mmF G i))) (waitsF (hMc h) (mmF G) i (hrd (hLost h t i) (hDown h t) (hAn h) (hAh h) (vqF (nI t) (mmF G i))).2) (mmF G i)))) 84 [some (.ref (ad Z (100))), some (.int (nI i)), some (.int (nI t)), some (.int (y)), o4] [] G1 := by
    intro y o4 G1 hfr h100 hy hy52
    have hM1 : mmF G1 = mmF G := (mmF_fr hfr (by decide +kernel)).trans (mmF_fr f21 (by decide +kernel))
    have hy3 : ¬ y = -1 → y < 0 → y = -2 := by
      intro z1 z2
      rw [hy] at z1 z2 ⊢
      rcases hrd_3 hx3 (hLost h t i) (hDown h t) (vqF (nI t) (mmF G i)) with z | z | z
      · exact absurd z z1
      · exact z
      · exact absurd z2 (Int32.not_lt.mpr z)
    refine r_iload3 (pc := 84) C dX9_question_84 ?_
    refine r_if_lt (pc := 85) 191 C dX9_question_85 (by decide) (fun c85 => ?_) (fun c85 => ?_)
    · refine r_aload0 (pc := 191) C dX9_question_191 ?_
      refine gX9_182 (pc := 192) C dX9_question_192 ?_
      refine r_iload1 (pc := 195) C dX9_question_195 ?_
      refine r_dup2 (pc := 196) C dX9_question_196 rfl rfl ?_
      refine r_iald (pc := 197) (_) C dX9_question_197 aM75 (rfl) (by omega) ?_
      refine r_eqi (y := mmF G i 8) (by rw [mg75 hi8, hM1]) ?_
      refine r_iconst (pc := 198) (v := nI 1) C dX9_question_198 (by decide) ?_
      refine r_iadd (pc := 199) C dX9_question_199 ?_
      refine r_iast (pc := 200) (_) C dX9_question_200 aM75 (rfl) (by omega) ?_
      refine r_aload0 (pc := 201) C dX9_question_201 ?_
      refine gX9_182 (pc := 202) C dX9_question_202 ?_
      refine r_iload1 (pc := 205) C dX9_question_205 ?_
      refine r_iald (pc := 206) (_) C dX9_question_206 aM75 (rfl) (by omega) ?_
      refine r_eqi (y := mmF G i 8 + nI 1) (by rw [sI_s, upd_s]) ?_
      refine r_iconst (pc := 207) (v := nI 5) C dX9_question_207 (by decide) ?_
      refine r_icmp_ne (pc := 208) 229 C dX9_question_208 (by decide) (fun c208 => ?_) (fun c208 => ?_)
      · refine r_aload0 (pc := 229) C dX9_question_229 ?_
        refine gX9_164 (pc := 230) C dX9_question_230 ?_
        refine r_iload1 (pc := 233) C dX9_question_233 ?_
        refine r_iload2 (pc := 234) C dX9_question_234 ?_
        refine r_iconst (pc := 235) (v := nI 1) C dX9_question_235 (by decide) ?_
        refine r_aload0 (pc := 236) C dX9_question_236 ?_
        refine gX9_182 (pc := 237) C dX9_question_237 ?_
        refine r_iload1 (pc := 240) C dX9_question_240 ?_
        refine r_iald (pc := 241) (_) C dX9_question_241 aM75 (rfl) (by omega) ?_
        refine r_eqi (y := mmF G i 8 + nI 1) (by rw [sI_s, upd_s]) ?_
        refine r_ishl (pc := 242) C dX9_question_242 ?_
        refine r_iadd (pc := 243) C dX9_question_243 ?_
        refine r_iast (pc := 244) (_) C dX9_question_244 aM69 (rfl) (by omega) ?_
        exact r_return (pc := 245) C dX9_question_245 (by
      refine ⟨((Fr.trans (f21.mono (fun q h => Or.inr (Or.inl h))) (hfr.mono (fun q h => Or.inr (Or.inr h)))).sI (Or.inl sM75)).sI (Or.inl sM69), fun q hq => by rw [sI_o (by decide), sI_o (by decide), h100 q hq, f21.1 100 (by decide)], ?_⟩
      rw [mm69 hi8, mm75 hi8]
      simp only [va_up_self, bx_uu, hM1]
      unfold qsF
      rw [if_neg (by rw [← hy]; exact Int32.not_le.mpr c85), mFail, if_pos (cnt_ne q8.1 q8.2 (by decide) c208)])
      · refine r_aload0 (pc := 211) C dX9_question_211 ?_
        refine r_iload1 (pc := 212) C dX9_question_212 ?_
        refine r_iload3 (pc := 213) C dX9_question_213 ?_
        refine r_iconst (pc := 214) (v := (-1)) C dX9_question_214 (by decide) ?_
        refine r_icmp_ne (pc := 215) 222 C dX9_question_215 (by decide) (fun c215 => ?_) (fun c215 => ?_)
        · refine r_iconst (pc := 222) (v := nI 2) C dX9_question_222 (by decide) ?_
          refine r_callVv (pc := 223) C rfl dX9_question_223 kX9_378 gF9 jM (tX9_rescue Z.1 C.w hi8) rfl rfl (Nat.le_of_ble_eq_true rfl) (by decide) (fun G223 h223 => ?_)
          obtain ⟨f223, m223⟩ := h223
          refine r_goto (pc := 226) 245 C dX9_question_226 (by decide) ?_
          exact r_return (pc := 245) C dX9_question_245 (by
      refine ⟨Fr.trans ((Fr.trans (f21.mono (fun q h => Or.inr (Or.inl h))) (hfr.mono (fun q h => Or.inr (Or.inr h)))).sI (Or.inl sM75)) (f223.mono (fun q h => Or.inl h)), fun q hq => by rw [f223.1 100 (by unfold sMM; decide), sI_o (by decide), h100 q hq, f21.1 100 (by decide)], ?_⟩
      rw [m223, mm75 hi8]
      simp only [va_up_self, bx_uu, hM1]
      unfold qsF
      rw [if_neg (by rw [← hy]; exact Int32.not_le.mpr c85), mFail, if_neg (cnt_eq c208)]
      rw [if_pos (by rw [← hy]; exact hy3 c215 c85)])
        · refine r_iconst (pc := 218) (v := nI 1) C dX9_question_218 (by decide) ?_
          refine r_goto (pc := 219) 223 C dX9_question_219 (by decide) ?_
          refine r_callVv (pc := 223) C rfl dX9_question_223 kX9_378 gF9 jM (tX9_rescue Z.1 C.w hi8) rfl rfl (Nat.le_of_ble_eq_true rfl) (by decide) (fun G223 h223 => ?_)
          obtain ⟨f223, m223⟩ := h223
          refine r_goto (pc := 226) 245 C dX9_question_226 (by decide) ?_
          exact r_return (pc := 245) C dX9_question_245 (by
      refine ⟨Fr.trans ((Fr.trans (f21.mono (fun q h => Or.inr (Or.inl h))) (hfr.mono (fun q h => Or.inr (Or.inr h)))).sI (Or.inl sM75)) (f223.mono (fun q h => Or.inl h)), fun q hq => by rw [f223.1 100 (by unfold sMM; decide), sI_o (by decide), h100 q hq, f21.1 100 (by decide)], ?_⟩
      rw [m223, mm75 hi8]
      simp only [va_up_self, bx_uu, hM1]
      unfold qsF
      rw [if_neg (by rw [← hy]; exact Int32.not_le.mpr c85), mFail, if_neg (cnt_eq c208)]
      rw [if_neg (by rw [← hy, c215]; decide)])
    · have loop2 : ∀ (k0 : Nat) (o : Nat), k0 = hMc h - o → o ≤ hMc h → anyN (fun j => decide (j ≠ i) && bt (hrd (hLost h t i) (hDown h t) (hAn h) (hAh h) (vqF (nI t) (mmF G i))).2 (kN (mmF G j)) && !(mmF G j 3 == nI 4)) o = false → WW Z (qv (fun G' => Fr qS G G' ∧ (∀ q, q ≠ 52 → G'.1 100 q = G.1 100 q) ∧ mmF G' = va_up (mmF G) i (qsF (nI t) (hrd (hLost h t i) (hDown h t) (hAn h) (hAh h) (vqF (nI t) (mmF G i))) (waitsF (hMc h) (mmF G) i (hrd (hLost h t i) (hDown h t) (hAn h) (hAh h) (vqF (nI t) (mmF G i))).2) (mmF G i)))) 91 [some (.ref (ad Z (100))), some (.int (nI i)), some (.int (nI t)), some (.int (y)), some (.int (nI o))] [] G1 := by
        intro k0
        induction k0 using Nat.strongRecOn with
        | _ k0 ih =>
          intro o hk0 ho hb
          refine r_iload4 (pc := 91) C dX9_question_91 ?_
          refine r_aload0 (pc := 93) C dX9_question_93 ?_
          refine gX9_317 (pc := 94) C dX9_question_94 ?_
          refine r_eqi (y := nI (hMc h)) (by rw [h100 36 (by decide), f21.1 100 (by decide)]; exact a1) ?_
          refine r_icmp_ge (pc := 97) 153 C dX9_question_97 (by decide) (fun c97 => ?_) (fun c97 => ?_)
          · obtain rfl : o = hMc h := by have := (nI_leI (by omega) (by omega)).mp c97; omega
            refine r_aload0 (pc := 153) C dX9_question_153 ?_
            refine gX9_158 (pc := 154) C dX9_question_154 ?_
            refine r_iload1 (pc := 157) C dX9_question_157 ?_
            refine r_iconst (pc := 158) (v := nI 2) C dX9_question_158 (by decide) ?_
            refine r_iast (pc := 159) (_) C dX9_question_159 aM67 (rfl) (by omega) ?_
            refine r_aload0 (pc := 160) C dX9_question_160 ?_
            refine gX9_167 (pc := 161) C dX9_question_161 ?_
            refine r_iload1 (pc := 164) C dX9_question_164 ?_
            refine r_iload3 (pc := 165) C dX9_question_165 ?_
            refine r_iast (pc := 166) (_) C dX9_question_166 aM70 (rfl) (by omega) ?_
            refine r_aload0 (pc := 167) C dX9_question_167 ?_
            refine gX9_170 (pc := 168) C dX9_question_168 ?_
            refine r_iload1 (pc := 171) C dX9_question_171 ?_
            refine r_iconst (pc := 172) (v := nI 0) C dX9_question_172 (by decide) ?_
            refine r_iast (pc := 173) (_) C dX9_question_173 aM71 (rfl) (by omega) ?_
            refine r_aload0 (pc := 174) C dX9_question_174 ?_
            refine gX9_173 (pc := 175) C dX9_question_175 ?_
            refine r_iload1 (pc := 178) C dX9_question_178 ?_
            refine r_iload2 (pc := 179) C dX9_question_179 ?_
            refine r_iconst (pc := 180) (v := nI 1) C dX9_question_180 (by decide) ?_
            refine r_iadd (pc := 181) C dX9_question_181 ?_
            refine r_iast (pc := 182) (_) C dX9_question_182 aM72 (rfl) (by omega) ?_
            refine r_aload0 (pc := 183) C dX9_question_183 ?_
            refine gX9_194 (pc := 184) C dX9_question_184 ?_
            refine r_iload1 (pc := 187) C dX9_question_187 ?_
            refine r_iconst (pc := 188) (v := nI 1) C dX9_question_188 (by decide) ?_
            refine r_iast (pc := 189) (_) C dX9_question_189 aM79 (rfl) (by omega) ?_
            exact r_return (pc := 190) C dX9_question_190 (by
            refine ⟨(((((Fr.trans (f21.mono (fun q h => Or.inr (Or.inl h))) (hfr.mono (fun q h => Or.inr (Or.inr h)))).sI (Or.inl sM67)).sI (Or.inl sM70)).sI (Or.inl sM71)).sI (Or.inl sM72)).sI (Or.inl sM79), fun q hq => by rw [sI_o (by decide), sI_o (by decide), sI_o (by decide), sI_o (by decide), sI_o (by decide), h100 q hq, f21.1 100 (by decide)], ?_⟩
            rw [mm79 hi8, mm72 hi8, mm71 hi8, mm70 hi8, mm67 hi8]
            simp only [va_up_self, bx_uu, hM1]
            have hw : waitsF (hMc h) (mmF G) i (hrd (hLost h t i) (hDown h t) (hAn h) (hAh h) (vqF (nI t) (mmF G i))).2 = false := hb
            unfold qsF
            rw [if_pos (by rw [← hy]; exact Int32.not_lt.mp c85), hw, if_neg (by decide), ← mFt_eq, ← hy]
            congr 1
            exact (upd_id (by show mmF G i 7 = nI 0; exact q7)).symm)
          · have hob : o < hMc h := by
              rcases Nat.lt_or_ge o (hMc h) with h | h
              · exact h
              · exact absurd (nI_le h (by omega)) c97
            have ho8 : o < 8 := by omega
            refine r_iload4 (pc := 100) C dX9_question_100 ?_
            refine r_iload1 (pc := 102) C dX9_question_102 ?_
            refine r_icmp_eq (pc := 103) 147 C dX9_question_103 (by decide) (fun c103 => ?_) (fun c103 => ?_)
            · refine r_iinc4 (pc := 147) (nI 1) C dX9_question_147 (by decide) rfl ?_
              rw [nI_add]
              refine r_goto (pc := 150) 91 C dX9_question_150 (by decide) ?_
              exact ih (hMc h - (o + 1)) (by omega) (o + 1) rfl (by omega) (anyN_f hb (by show (decide (o ≠ i) && bt (hrd (hLost h t i) (hDown h t) (hAn h) (hAh h) (vqF (nI t) (mmF G i))).2 (kN (mmF G o)) && !(mmF G o 3 == nI 4)) = false; rw [decide_eq_false (fun h => h ((nI_eq (by omega) (by omega)).mp c103)), Bool.false_and, Bool.false_and]))
            · refine r_aload0 (pc := 106) C dX9_question_106 ?_
              refine gX9_343 (pc := 107) C dX9_question_107 ?_
              refine r_eqi (y := (hrd (hLost h t i) (hDown h t) (hAn h) (hAh h) (vqF (nI t) (mmF G i))).2) (hy52 (Int32.not_lt.mp c85)) ?_
              refine r_aload0 (pc := 110) C dX9_question_110 ?_
              refine gX9_86 (pc := 111) C dX9_question_111 ?_
              refine r_iload4 (pc := 114) C dX9_question_114 ?_
              refine r_iald (pc := 116) (_) C dX9_question_116 aM37 (rfl) (by omega) ?_
              refine r_eqi (y := nI (kN (mmF G o))) (by rw [mg37 ho8, hM1]; exact (hk o hob).1) ?_
              refine r_ishr (pc := 117) C dX9_question_117 ?_
              refine r_iconst (pc := 118) (v := nI 1) C dX9_question_118 (by decide) ?_
              refine r_iand (pc := 119) C dX9_question_119 ?_
              refine r_eqi (y := bI (bt (hrd (hLost h t i) (hDown h t) (hAn h) (hAh h) (vqF (nI t) (mmF G i))).2 (kN (mmF G o)))) (bt_sar _ (by have := (hk o hob).2; omega)) ?_
              refine r_if_eq (pc := 120) 147 C dX9_question_120 (by decide) (fun c120 => ?_) (fun c120 => ?_)
              · refine r_iinc4 (pc := 147) (nI 1) C dX9_question_147 (by decide) rfl ?_
                rw [nI_add]
                refine r_goto (pc := 150) 91 C dX9_question_150 (by decide) ?_
                exact ih (hMc h - (o + 1)) (by omega) (o + 1) rfl (by omega) (anyN_f hb (by show (decide (o ≠ i) && bt (hrd (hLost h t i) (hDown h t) (hAn h) (hAh h) (vqF (nI t) (mmF G i))).2 (kN (mmF G o)) && !(mmF G o 3 == nI 4)) = false; rw [bI_z.mp c120, Bool.and_false, Bool.false_and]))
              · refine r_aload0 (pc := 123) C dX9_question_123 ?_
                refine gX9_158 (pc := 124) C dX9_question_124 ?_
                refine r_iload4 (pc := 127) C dX9_question_127 ?_
                refine r_iald (pc := 129) (_) C dX9_question_129 aM67 (rfl) (by omega) ?_
                refine r_eqi (y := mmF G o 3) (by rw [mg67 ho8, hM1]) ?_
                refine r_iconst (pc := 130) (v := nI 4) C dX9_question_130 (by decide) ?_
                refine r_icmp_ne (pc := 131) 137 C dX9_question_131 (by decide) (fun c131 => ?_) (fun c131 => ?_)
                · refine r_aload0 (pc := 137) C dX9_question_137 ?_
                  refine gX9_164 (pc := 138) C dX9_question_138 ?_
                  refine r_iload1 (pc := 141) C dX9_question_141 ?_
                  refine r_iload2 (pc := 142) C dX9_question_142 ?_
                  refine r_iconst (pc := 143) (v := nI 1) C dX9_question_143 (by decide) ?_
                  refine r_iadd (pc := 144) C dX9_question_144 ?_
                  refine r_iast (pc := 145) (_) C dX9_question_145 aM69 (rfl) (by omega) ?_
                  exact r_return (pc := 146) C dX9_question_146 (by
            refine ⟨(Fr.trans (f21.mono (fun q h => Or.inr (Or.inl h))) (hfr.mono (fun q h => Or.inr (Or.inr h)))).sI (Or.inl sM69), fun q hq => by rw [sI_o (by decide), h100 q hq, f21.1 100 (by decide)], ?_⟩
            rw [mm69 hi8, hM1]
            have hw : waitsF (hMc h) (mmF G) i (hrd (hLost h t i) (hDown h t) (hAn h) (hAh h) (vqF (nI t) (mmF G i))).2 = true := anyN_t (p := (fun j => decide (j ≠ i) && bt (hrd (hLost h t i) (hDown h t) (hAn h) (hAh h) (vqF (nI t) (mmF G i))).2 (kN (mmF G j)) && !(mmF G j 3 == nI 4))) (x := o) (by
              show (decide (o ≠ i) && bt (hrd (hLost h t i) (hDown h t) (hAn h) (hAh h) (vqF (nI t) (mmF G i))).2 (kN (mmF G o)) && !(mmF G o 3 == nI 4)) = true
              rw [decide_eq_true (show o ≠ i from fun e => c103 (by rw [e])), bI_n.mp c120, show (mmF G o 3 == nI 4) = false from beq_false_of_ne c131]; rfl) hob
            unfold qsF
            rw [if_pos (by rw [← hy]; exact Int32.not_lt.mp c85), hw, if_pos rfl])
                · refine r_goto (pc := 134) 147 C dX9_question_134 (by decide) ?_
                  refine r_iinc4 (pc := 147) (nI 1) C dX9_question_147 (by decide) rfl ?_
                  rw [nI_add]
                  refine r_goto (pc := 150) 91 C dX9_question_150 (by decide) ?_
                  exact ih (hMc h - (o + 1)) (by omega) (o + 1) rfl (by omega) (anyN_f hb (by show (decide (o ≠ i) && bt (hrd (hLost h t i) (hDown h t) (hAn h) (hAh h) (vqF (nI t) (mmF G i))).2 (kN (mmF G o)) && !(mmF G o 3 == nI 4)) = false; rw [show (mmF G o 3 == nI 4) = true from by rw [c131]; rfl, Bool.not_true, Bool.and_false]))
      refine r_iconst (pc := 88) (v := nI 0) C dX9_question_88 (by decide) ?_
      refine r_istore4 (pc := 89) C dX9_question_89 rfl ?_
      exact loop2 _ 0 rfl (Nat.zero_le _) rfl
  have loop : ∀ (k0 : Nat) (k : Nat) (y : Int32) (G1 : gS), k0 = 2 - k → k ≤ 2 → Fr (fun q => q = 51 ∨ q = 100) G21 G1 → (∀ q, q ≠ 52 → G1.1 100 q = G21.1 100 q) → y = (itN (fun k p => if hLost h t i = true then p else hrd1 (hDown h t) (hAn h) (hAh h) (vqF (nI t) (mmF G i)) k p) (k) (-1, nI 0)).1 → (0 ≤ y → G1.1 100 52 = (itN (fun k p => if hLost h t i = true then p else hrd1 (hDown h t) (hAn h) (hAh h) (vqF (nI t) (mmF G i)) k p) (k) (-1, nI 0)).2) → WW Z (qv (fun G' => Fr qS G G' ∧ (∀ q, q ≠ 52 → G'.1 100 q = G.1 100 q) ∧ mmF G' = va_up (mmF G) i (qsF (nI t) (hrd (hLost h t i) (hDown h t) (hAn h) (hAh h) (vqF (nI t) (mmF G i))) (waitsF (hMc h) (mmF G) i (hrd (hLost h t i) (hDown h t) (hAn h) (hAh h) (vqF (nI t) (mmF G i))).2) (mmF G i)))) 29 [some (.ref (ad Z (100))), some (.int (nI i)), some (.int (nI t)), some (.int (y)), some (.int (nI k))] [] G1 := by
    intro k0
    induction k0 using Nat.strongRecOn with
    | _ k0 ih =>
      intro k y G1 hk0 hkk hfr h100 hy hy52
      refine r_iload4 (pc := 29) C dX9_question_29 ?_
      refine r_iconst (pc := 31) (v := nI 2) C dX9_question_31 (by decide) ?_
      refine r_icmp_ge (pc := 32) 84 C dX9_question_32 (by decide) (fun c32 => ?_) (fun c32 => ?_)
      · obtain rfl : k = 2 := by have := (nI_leI (by omega) (by omega)).mp c32; omega
        exact fin y _ G1 hfr h100 (by rw [hrd_it]; exact hy) (by rw [hrd_it]; exact hy52)
      · have hk2 : k < 2 := by
          rcases Nat.lt_or_ge k 2 with h | h
          · exact h
          · exact absurd (nI_le h (by omega)) c32
        refine r_iload3 (pc := 35) C dX9_question_35 ?_
        refine r_iconst (pc := 36) (v := (-1)) C dX9_question_36 (by decide) ?_
        refine r_icmp_ne (pc := 37) 84 C dX9_question_37 (by decide) (fun c37 => ?_) (fun c37 => ?_)
        · have hpk : (itN (fun k p => if hLost h t i = true then p else hrd1 (hDown h t) (hAn h) (hAh h) (vqF (nI t) (mmF G i)) k p) (2) (-1, nI 0)) = (itN (fun k p => if hLost h t i = true then p else hrd1 (hDown h t) (hAn h) (hAh h) (vqF (nI t) (mmF G i)) k p) (k) (-1, nI 0)) := by
            rcases (show k = 0 ∨ k = 1 by omega) with rfl | rfl
            · exact absurd hy c37
            · rw [itN_s]
              by_cases hl : hLost h t i = true
              · rw [if_pos hl]
              · rw [if_neg hl, hrd1, if_neg (fun h => c37 (hy.trans h.1))]
          exact fin y _ G1 hfr h100 (by rw [hrd_it, hpk]; exact hy) (by rw [hrd_it, hpk]; exact hy52)
        · refine r_aload0 (pc := 40) C dX9_question_40 ?_
          refine gX9_104 (pc := 41) C dX9_question_41 ?_
          refine r_sipush (pc := 44) (v := nI 300) C dX9_question_44 (by decide) ?_
          refine r_iload1 (pc := 47) C dX9_question_47 ?_
          refine r_imul (pc := 48) C dX9_question_48 ?_
          refine r_eqi (pk_mul 300 i) ?_
          refine r_iload2 (pc := 49) C dX9_question_49 ?_
          refine r_iadd (pc := 50) C dX9_question_50 ?_
          refine r_eqi (nI_add _ _) ?_
          refine r_zald (pc := 51) (_) C dX9_question_51 aM46 (rfl) (by omega) ?_
          refine r_eqi (y := bI (hLost h t i)) (by rw [hfr.1 46 (by decide), f21.1 46 (by decide)]; exact (b3 i hi t ht).2) ?_
          refine r_if_ne (pc := 52) 78 C dX9_question_52 (by decide) (fun c52 => ?_) (fun c52 => ?_)
          · refine r_iinc4 (pc := 78) (nI 1) C dX9_question_78 (by decide) rfl ?_
            rw [nI_add]
            refine r_goto (pc := 81) 29 C dX9_question_81 (by decide) ?_
            have hpk : (itN (fun k p => if hLost h t i = true then p else hrd1 (hDown h t) (hAn h) (hAh h) (vqF (nI t) (mmF G i)) k p) (k + 1) (-1, nI 0)) = (itN (fun k p => if hLost h t i = true then p else hrd1 (hDown h t) (hAn h) (hAh h) (vqF (nI t) (mmF G i)) k p) (k) (-1, nI 0)) := by rw [itN_s, if_pos (bI_n.mp c52)]
            exact ih (2 - (k + 1)) (by omega) (k + 1) y G1 rfl (by omega) hfr h100 (by rw [hpk]; exact hy) (by rw [hpk]; exact hy52)
          · refine r_aload0 (pc := 55) C dX9_question_55 ?_
            refine gX9_110 (pc := 56) C dX9_question_56 ?_
            refine r_sipush (pc := 59) (v := nI 300) C dX9_question_59 (by decide) ?_
            refine r_iload4 (pc := 62) C dX9_question_62 ?_
            refine r_imul (pc := 64) C dX9_question_64 ?_
            refine r_eqi (pk_mul 300 k) ?_
            refine r_iload2 (pc := 65) C dX9_question_65 ?_
            refine r_iadd (pc := 66) C dX9_question_66 ?_
            refine r_eqi (nI_add _ _) ?_
            refine r_zald (pc := 67) (_) C dX9_question_67 aM48 (rfl) (by omega) ?_
            refine r_eqi (y := bI (hDown h t k)) (by rw [hfr.1 48 (by decide), f21.1 48 (by decide)]; exact b4 k hk2 t ht) ?_
            refine r_if_ne (pc := 68) 78 C dX9_question_68 (by decide) (fun c68 => ?_) (fun c68 => ?_)
            · refine r_iinc4 (pc := 78) (nI 1) C dX9_question_78 (by decide) rfl ?_
              rw [nI_add]
              refine r_goto (pc := 81) 29 C dX9_question_81 (by decide) ?_
              have hpk : (itN (fun k p => if hLost h t i = true then p else hrd1 (hDown h t) (hAn h) (hAh h) (vqF (nI t) (mmF G i)) k p) (k + 1) (-1, nI 0)) = (itN (fun k p => if hLost h t i = true then p else hrd1 (hDown h t) (hAn h) (hAh h) (vqF (nI t) (mmF G i)) k p) (k) (-1, nI 0)) := by rw [itN_s, if_neg (by rw [bI_z.mp c52]; decide), hrd1, if_neg (by rw [bI_n.mp c68]; exact fun h => absurd h.2 (by decide))]
              exact ih (2 - (k + 1)) (by omega) (k + 1) y G1 rfl (by omega) hfr h100 (by rw [hpk]; exact hy) (by rw [hpk]; exact hy52)
            · refine r_aload0 (pc := 71) C dX9_question_71 ?_
              refine r_iload4 (pc := 72) C dX9_question_72 ?_
              obtain ⟨hv7, lv, n, aft, num, rels, p18, plv, ppg, pan⟩ := (b6 k hk2).fr (Fr.trans (f21.mono (fun q h => Or.inr (Or.inl h))) (hfr.mono (fun q h => Or.inr (Or.inr h)))) relS_qS
              have v50 : ∀ j, j < 7 → G1.1 50 j = vqF (nI t) (mmF G i) j := fun j hj => by rw [hfr.1 50 (by decide)]; exact v21 j hj
              refine r_callVi (pc := 74) C rfl dX9_question_74 kX9_375 gF9 jM (tX9_answers Z.1 C.w (fc := hFc h) hk2 p18 plv rfl (by rw [h100 41 (by decide), f21.1 100 (by decide)]; exact a3) (by rw [h100 41 (by decide), f21.1 100 (by decide), a3, a4]; intro z; rw [Int32.le_iff_toInt_le, nI_toInt (by omega), show (-1 : Int32).toInt = -1 from rfl] at z; omega) ppg) rfl rfl (Nat.le_of_ble_eq_true rfl) (by decide) (fun x74 G74 h74 => ?_)
              obtain ⟨e74, f74, g74⟩ := h74
              have e74 : x74 = hAn h k (vqF (nI t) (mmF G i)) := by rw [e74, ← (pan (G1.1 50)).1]; exact (hv7 _ _ v50).1
              refine r_istore3 (pc := 77) C dX9_question_77 rfl ?_
              refine r_iinc4 (pc := 78) (nI 1) C dX9_question_78 (by decide) rfl ?_
              rw [nI_add]
              refine r_goto (pc := 81) 29 C dX9_question_81 (by decide) ?_
              have hpk : (itN (fun k p => if hLost h t i = true then p else hrd1 (hDown h t) (hAn h) (hAh h) (vqF (nI t) (mmF G i)) k p) (k + 1) (-1, nI 0)) = (hAn h k (vqF (nI t) (mmF G i)), if 0 ≤ hAn h k (vqF (nI t) (mmF G i)) then hAh h k (vqF (nI t) (mmF G i)) else nI 0) := by
                rw [itN_s, if_neg (by rw [bI_z.mp c52]; decide), hrd1, if_pos ⟨by rw [← hy]; exact c37, bI_z.mp c68⟩]
              exact ih (2 - (k + 1)) (by omega) (k + 1) x74 G74 rfl (by omega) (Fr.trans hfr f74) (fun q hq => by rw [g74, upd_o hq]; exact h100 q hq) (by rw [hpk]; exact e74) (fun hp => by rw [hpk, g74, upd_s]; dsimp only; rw [← e74, if_pos hp, ← (hv7 (G1.1 50) _ v50).2]; exact ((pan (G1.1 50)).2 (by rw [(hv7 (G1.1 50) _ v50).1, ← e74]; exact hp)).symm)
  refine r_iconst (pc := 24) (v := (-1)) C dX9_question_24 (by decide) ?_
  refine r_istore3 (pc := 25) C dX9_question_25 rfl ?_
  refine r_iconst (pc := 26) (v := nI 0) C dX9_question_26 (by decide) ?_
  refine r_istore4 (pc := 27) C dX9_question_27 rfl ?_
  exact loop _ 0 (-1) G21 rfl (by omega) Fr.refl (fun _ _ => rfl) rfl (fun h => absurd h (by decide))
