/-! the reference: the giver -/
def vS (q : Nat) : Prop := sMM q ∨ q = 64 ∨ q = 65 ∨ q = 80 ∨ q = 81 ∨ q = 100
theorem relS_vS : ∀ r, relS r → ¬ vS r := by
  intro r h1 h2
  unfold vS sMM mrL at h2
  unfold relS at h1
  simp only [List.mem_cons, List.not_mem_nil, or_false] at h2
  omega
theorem sd_app {w t : Int32} {F : Nat → Nat → Int32} {A : List Nat} {j : Nat} {s : Int32 × (Nat → Int32) × (Nat → Int32)} : sdL w t F (A ++ [j]) s = sdS w t (blkN (F j)) (sdL w t F A s) := by
  unfold sdL
  rw [List.foldl_append]
  rfl
theorem head_min {F : Nat → Nat → Int32} {B : List Nat} {j : Nat} (hp : B.Pairwise (befF F)) (hj : j ∈ B) (hm : ∀ i, i ∈ B → i = j ∨ befF F j i) : ∃ B', B = j :: B' := by
  cases B with
  | nil => exact absurd hj List.not_mem_nil
  | cons b B' =>
    rcases hm b List.mem_cons_self with e | e
    · exact ⟨B', by rw [e]⟩
    · rcases List.mem_cons.mp hj with e2 | e2
      · exact ⟨B', by rw [e2]⟩
      · exact absurd ((List.pairwise_cons.mp hp).1 j e2) (befF_asym e)
theorem nI_m1 {n : Nat} (h : n < 2 ^ 31) : ¬ nI n = -1 := by
  intro k
  have := congrArg Int32.toInt k
  rw [nI_toInt h, show (-1 : Int32).toInt = -1 from rfl] at this
  omega
set_option maxHeartbeats 4000000 in
set_option maxRecDepth 100000 in
theorem tX9_gives (Y : gY) (hY : Y.2.2.2 = wM) {G : gS} {h : hQ} {t fc wd : Nat} {F : Nat → Nat → Int32} {ls ts : Nat → Int32} (hm : relM G h fc wd) (ht : t < 300) (hv : iV h fc F) (hE : EqQ (hMc h) F (mmF G)) (hls : lsOk t ls) (hts : ∀ b, b < 72 → G.1 65 b = ts b) : ∀ l : Launch, gM Y l yX9_gives cX9_gives 6 none (2, 46) [.ref (Y.2.1 (100)), .int (nI t)] G (qv (fun G' => Fr vS G G' ∧ (∀ q, q ≠ 66 → G'.1 100 q = G.1 100 q) ∧ G'.1 100 66 = G.1 100 66 + (fSd h t F ls ts).1 ∧ (∀ q, q ≠ t → G'.1 64 q = G.1 64 q) ∧ G'.1 64 t = (fSd h t F ls ts).1 ∧ (∀ b, b < 72 → G'.1 65 b = (fSd h t F ls ts).2.2 b) ∧ EqQ (hMc h) (fRv h t F (fSd h t F ls ts).2.1) (mmF G'))) := by
  intro l
  refine gM_of hY rfl (Nat.le_of_ble_eq_true rfl) [some (.ref (Y.2.1 (100))), some (.int (nI t)), none, none, none, none] rfl rfl ?_
  rintro Z rfl C
  obtain ⟨a1, a2, a3, a4, a5, a6, a7, a8, a9, b1, b2, b3, b4, b5, b6⟩ := hm
  have hL := line_ex (nI t) (hMc h) F
  have fin : ∀ (a : Nat) (o3 o4 o5 : Option Value) (G1 : gS), Fr (fun q => q = 65 ∨ q = 80 ∨ q = 81) G G1 → (fSd h t F ls ts).1 = nI a → (∀ b, b < 72 → G1.1 80 b = bI (decide ((fSd h t F ls ts).2.1 b = nI t))) → (∀ b, b < 72 → G1.1 65 b = (fSd h t F ls ts).2.2 b) → WW Z (qv (fun G' => Fr vS G G' ∧ (∀ q, q ≠ 66 → G'.1 100 q = G.1 100 q) ∧ G'.1 100 66 = G.1 100 66 + (fSd h t F ls ts).1 ∧ (∀ q, q ≠ t → G'.1 64 q = G.1 64 q) ∧ G'.1 64 t = (fSd h t F ls ts).1 ∧ (∀ b, b < 72 → G'.1 65 b = (fSd h t F ls ts).2.2 b) ∧ EqQ (hMc h) (fRv h t F (fSd h t F ls ts).2.1) (mmF G'))) 210 [some (.ref (ad Z (100))), some (.int (nI t)), some (.int (nI a)), o3, o4, o5] [] G1 := by
    intro a o3 o4 o5 G1 hfr hS1 hS2 hS3
    refine r_aload0 (pc := 210) C dX9_gives_210 ?_
    refine gX9_152 (pc := 211) C dX9_gives_211 ?_
    refine r_iload1 (pc := 214) C dX9_gives_214 ?_
    refine r_iload2 (pc := 215) C dX9_gives_215 ?_
    refine r_iast (pc := 216) (_) C dX9_gives_216 aM64 (rfl) (by omega) ?_
    refine r_aload0 (pc := 217) C dX9_gives_217 ?_
    refine r_dup (pc := 218) C dX9_gives_218 rfl ?_
    refine gX9_350 (pc := 219) C dX9_gives_219 ?_
    refine r_iload2 (pc := 222) C dX9_gives_222 ?_
    refine r_iadd (pc := 223) C dX9_gives_223 ?_
    refine pX9_350 (pc := 224) C dX9_gives_224 ?_
    refine r_iconst (pc := 227) (v := nI 0) C dX9_gives_227 (by decide) ?_
    refine r_istore3 (pc := 228) C dX9_gives_228 rfl ?_
    generalize hG2 : sI (sI G1 64 t (nI a)) 100 66 _ = G2
    have hG2f : Fr vS G G2 := by
      rw [← hG2]
      exact ((hfr.mono (fun q h => by unfold vS; rcases h with h | h | h <;> simp [h])).sI (by unfold vS; simp)).sI (by unfold vS; simp)
    have hG2a : ∀ q, q ≠ 66 → G2.1 100 q = G.1 100 q := fun q hq => by rw [← hG2, sI_s, upd_o hq, sI_o (by decide), hfr.1 100 (by decide)]
    have hG2b : G2.1 100 66 = G.1 100 66 + (fSd h t F ls ts).1 := by rw [← hG2, sI_s, upd_s, sI_o (by decide), hfr.1 100 (by decide), hS1]
    have hG2c : ∀ q, q ≠ t → G2.1 64 q = G.1 64 q := fun q hq => by rw [← hG2, sI_o (by decide), sI_s, upd_o hq, hfr.1 64 (by decide)]
    have hG2d : G2.1 64 t = (fSd h t F ls ts).1 := by rw [← hG2, sI_o (by decide), sI_s, upd_s, hS1]
    have hG2e : ∀ b, b < 72 → G2.1 65 b = (fSd h t F ls ts).2.2 b := fun b hb => by rw [← hG2, sI_o (by decide), sI_o (by decide)]; exact hS3 b hb
    have hG2s : ∀ b, b < 72 → G2.1 80 b = bI (decide ((fSd h t F ls ts).2.1 b = nI t)) := fun b hb => by rw [← hG2, sI_o (by decide), sI_o (by decide)]; exact hS2 b hb
    have hG2m : mmF G2 = mmF G := by rw [← hG2, mmF_o (by decide), mmF_o (by decide)]; exact mmF_fr hfr (by decide +kernel)
    have loop5 : ∀ (k0 : Nat) (m : Nat) (G3 : gS), k0 = hMc h - m → m ≤ hMc h → Fr sMM G2 G3 → (∀ i, i < hMc h → rQ (if i < m then fRv h t F (fSd h t F ls ts).2.1 i else F i) (mmF G3 i)) → WW Z (qv (fun G' => Fr vS G G' ∧ (∀ q, q ≠ 66 → G'.1 100 q = G.1 100 q) ∧ G'.1 100 66 = G.1 100 66 + (fSd h t F ls ts).1 ∧ (∀ q, q ≠ t → G'.1 64 q = G.1 64 q) ∧ G'.1 64 t = (fSd h t F ls ts).1 ∧ (∀ b, b < 72 → G'.1 65 b = (fSd h t F ls ts).2.2 b) ∧ EqQ (hMc h) (fRv h t F (fSd h t F ls ts).2.1) (mmF G'))) 229 [some (.ref (ad Z (100))), some (.int (nI t)), some (.int (nI a)), some (.int (nI m)), o4, o5] [] G3 := by
      intro k0
      induction k0 using Nat.strongRecOn with
      | _ k0 ih =>
        intro m G3 hk0 hm0 hf3 hq
        refine r_iload3 (pc := 229) C dX9_gives_229 ?_
        refine r_aload0 (pc := 230) C dX9_gives_230 ?_
        refine gX9_317 (pc := 231) C dX9_gives_231 ?_
        refine r_eqi (y := nI (hMc h)) (by rw [hf3.1 100 (by unfold sMM; decide), hG2a 36 (by decide)]; exact a1) ?_
        refine r_icmp_ge (pc := 234) 258 C dX9_gives_234 (by decide) (fun c234 => ?_) (fun c234 => ?_)
        · obtain rfl : m = hMc h := by have := (nI_leI (by omega) (by omega)).mp c234; omega
          exact r_return (pc := 258) C dX9_gives_258 (by
          refine ⟨Fr.trans hG2f (hf3.mono (fun q h => Or.inl h)), fun q hq => by rw [hf3.1 100 (by unfold sMM; decide)]; exact hG2a q hq, by rw [hf3.1 100 (by unfold sMM; decide)]; exact hG2b, fun q hq => by rw [hf3.1 64 (by unfold sMM; decide)]; exact hG2c q hq, by rw [hf3.1 64 (by unfold sMM; decide)]; exact hG2d, fun b hb => by rw [hf3.1 65 (by unfold sMM; decide)]; exact hG2e b hb, fun i hi => ?_⟩
          have := hq i hi
          rw [if_pos hi] at this
          exact this)
        · have hmb : m < hMc h := by
            rcases Nat.lt_or_ge m (hMc h) with h | h
            · exact h
            · exact absurd (nI_le h (by omega)) c234
          have hm8 : m < 8 := by omega
          refine r_aload0 (pc := 237) C dX9_gives_237 ?_
          refine r_iload3 (pc := 238) C dX9_gives_238 ?_
          refine r_iload1 (pc := 239) C dX9_gives_239 ?_
          have hqm := hq m hmb
          rw [if_neg (Nat.lt_irrefl m)] at hqm
          refine r_callVi (pc := 240) C rfl dX9_gives_240 kX9_381 gF9 jM (tX9_wants Z.1 C.w hm8) rfl rfl (Nat.le_of_ble_eq_true rfl) (by decide) (fun x240 G240 h240 => ?_)
          obtain ⟨rfl, h240b⟩ := h240
          have h240b := h240b.symm
          subst h240b
          refine r_eqi (y := bI (wantB (nI t) (F m))) (by rw [hqm.want]) ?_
          refine r_if_eq (pc := 243) 252 C dX9_gives_243 (by decide) (fun c243 => ?_) (fun c243 => ?_)
          · refine r_iinc3 (pc := 252) (nI 1) C dX9_gives_252 (by decide) rfl ?_
            rw [nI_add]
            refine r_goto (pc := 255) 229 C dX9_gives_255 (by decide) ?_
            exact ih (hMc h - (m + 1)) (by omega) (m + 1) G3 rfl (by omega) hf3 (fun i hi => by
              by_cases e : i < m + 1
              · rw [if_pos e]
                by_cases e2 : i = m
                · subst e2
                  have hh2 : fRv h t F (fSd h t F ls ts).2.1 i = F i := by
                    unfold fRv
                    rw [rvL_at (line_nodup hL.2), if_neg (fun z => by have z2 := ((hL.1 i).mp z).2; rw [bI_z.mp c243] at z2; cases z2)]
                  rw [hh2]
                  have := hq i hi
                  rw [if_neg (Nat.lt_irrefl i)] at this
                  exact this
                · have := hq i hi
                  rw [if_pos (show i < m by omega)] at this
                  exact this
              · rw [if_neg e]
                have := hq i hi
                rw [if_neg (show ¬ i < m by omega)] at this
                exact this)
          · have hwm : wantB (nI t) (F m) = true := bI_n.mp c243
            have hph : F m 3 = nI 2 := (of_decide_eq_true hwm).1
            have hmL : m ∈ lineC (nI t) (hMc h) F := (hL.1 m).mpr ⟨hmb, hwm⟩
            have hfo := (hv.1.2 m hmb).1 hph
            have hb72 : blkN (F m) < 72 := by unfold blkN; omega
            refine r_aload0 (pc := 246) C dX9_gives_246 ?_
            refine r_iload3 (pc := 247) C dX9_gives_247 ?_
            refine r_iload1 (pc := 248) C dX9_gives_248 ?_
            refine r_callVv (pc := 249) C rfl dX9_gives_249 kX9_384 gF9 jM (tX9_gets Z.1 C.w (got := decide ((fSd h t F ls ts).2.1 (blkN (F m)) = nI t)) (lost := hLost h t m) (wr := hWr h t (blkN (F m))) (fc := hFc h) (bl := hBl h) (nx := hNx h) hm8 ht (by rw [hqm.o 3]; exact hph) (hqm.rn (hv.2 m hmb)) (by rw [hqm.o 4, hqm.o 5]; exact ⟨hfo.1, by omega, hfo.2.2.1, hfo.2.2.2.1⟩) (by rw [hqm.blk, hf3.1 80 (by unfold sMM; decide)]; exact hG2s _ hb72) (by rw [hf3.1 46 (by unfold sMM; decide), hG2f.1 46 (by unfold vS sMM; decide)]; exact (b3 m hmb t ht).2) (by rw [hqm.blk, hf3.1 49 (by unfold sMM; decide), hG2f.1 49 (by unfold vS sMM; decide)]; exact b5 _ hb72 t ht) (by rw [hf3.1 100 (by unfold sMM; decide), hG2a 41 (by decide)]; exact a3) (by rw [hqm.o 4, hf3.1 42 (by unfold sMM; decide), hG2f.1 42 (by unfold vS sMM; decide)]; exact (b1 _ hfo.2.1).1) (by rw [hqm.o 4, hf3.1 43 (by unfold sMM; decide), hG2f.1 43 (by unfold vS sMM; decide)]; exact (b1 _ hfo.2.1).2)) rfl rfl (Nat.le_of_ble_eq_true rfl) (by decide) (fun G249 h249 => ?_)
            obtain ⟨f249, g249, m249, r249⟩ := h249
            refine r_iinc3 (pc := 252) (nI 1) C dX9_gives_252 (by decide) rfl ?_
            rw [nI_add]
            refine r_goto (pc := 255) 229 C dX9_gives_255 (by decide) ?_
            exact ih (hMc h - (m + 1)) (by omega) (m + 1) G249 rfl (by omega) (Fr.trans hf3 f249) (fun i hi => by
              by_cases e : i < m + 1
              · rw [if_pos e]
                by_cases e2 : i = m
                · subst e2
                  rw [m249, va_up_self]
                  unfold fRv
                  rw [rvL_at (line_nodup hL.2), if_pos hmL]
                  unfold rvS
                  exact (rQ_rcv hqm hph).trans r249.q
                · have := hq i hi
                  rw [if_pos (show i < m by omega)] at this
                  rw [m249, va_up_ne _ _ e2]
                  exact this
              · rw [if_neg e]
                have := hq i hi
                rw [if_neg (show ¬ i < m by omega)] at this
                rw [m249, va_up_ne _ _ (show i ≠ m by omega)]
                exact this)
    exact loop5 _ 0 G2 rfl (Nat.zero_le _) Fr.refl (fun i hi => by rw [if_neg (Nat.not_lt_zero i), hG2m]; exact hE i hi)
  have loop3 : ∀ (k0 : Nat) (k a : Nat) (A B : List Nat) (o4 o5 : Option Value) (G1 : gS), k0 = hMc h - k → k ≤ hMc h → Fr (fun q => q = 65 ∨ q = 80 ∨ q = 81) G G1 → lineC (nI t) (hMc h) F = A ++ B → A.length = k → (sdL (hWd h) (nI t) F A (nI 0, ls, ts)).1 = nI a → a ≤ wd → (∀ b, b < 72 → G1.1 80 b = bI (decide ((sdL (hWd h) (nI t) F A (nI 0, ls, ts)).2.1 b = nI t))) → (∀ b, b < 72 → G1.1 65 b = (sdL (hWd h) (nI t) F A (nI 0, ls, ts)).2.2 b) → (∀ i, i < hMc h → G1.1 81 i = bI (decide (i ∈ A))) → WW Z (qv (fun G' => Fr vS G G' ∧ (∀ q, q ≠ 66 → G'.1 100 q = G.1 100 q) ∧ G'.1 100 66 = G.1 100 66 + (fSd h t F ls ts).1 ∧ (∀ q, q ≠ t → G'.1 64 q = G.1 64 q) ∧ G'.1 64 t = (fSd h t F ls ts).1 ∧ (∀ b, b < 72 → G'.1 65 b = (fSd h t F ls ts).2.2 b) ∧ EqQ (hMc h) (fRv h t F (fSd h t F ls ts).2.1) (mmF G'))) 48 [some (.ref (ad Z (100))), some (.int (nI t)), some (.int (nI a)), some (.int (nI k)), o4, o5] [] G1 := by
    intro k0
    induction k0 using Nat.strongRecOn with
    | _ k0 ih =>
      intro k a A B o4 o5 G1 hk0 hkk hfr hAB hAl hS1 ha hS2 hS3 hT
      refine r_iload3 (pc := 48) C dX9_gives_48 ?_
      refine r_aload0 (pc := 49) C dX9_gives_49 ?_
      refine gX9_317 (pc := 50) C dX9_gives_50 ?_
      refine r_eqi (y := nI (hMc h)) (by rw [hfr.1 100 (by decide)]; exact a1) ?_
      refine r_icmp_ge (pc := 53) 210 C dX9_gives_53 (by decide) (fun c53 => ?_) (fun c53 => ?_)
      · obtain rfl : k = hMc h := by have := (nI_leI (by omega) (by omega)).mp c53; omega
        have hll : (lineC (nI t) (hMc h) F).length ≤ hMc h := nodup_len (line_nodup hL.2) (fun i hi => ((hL.1 i).mp hi).1)
        obtain rfl : B = [] := by
          cases B with
          | nil => rfl
          | cons b B2 => rw [hAB] at hll; simp at hll; omega
        rw [List.append_nil] at hAB
        have hSd : (fSd h t F ls ts) = (sdL (hWd h) (nI t) F A (nI 0, ls, ts)) := by unfold fSd; rw [hAB]
        exact fin a _ _ _ G1 hfr (by rw [hSd]; exact hS1) (by rw [hSd]; exact hS2) (by rw [hSd]; exact hS3)
      · have hkb : k < hMc h := by
          rcases Nat.lt_or_ge k (hMc h) with h | h
          · exact h
          · exact absurd (nI_le h (by omega)) c53
        have hk8 : k < 8 := by omega
        refine r_iconst (pc := 56) (v := (-1)) C dX9_gives_56 (by decide) ?_
        refine r_istore4 (pc := 57) C dX9_gives_57 rfl ?_
        refine r_iconst (pc := 59) (v := nI 0) C dX9_gives_59 (by decide) ?_
        refine r_istore5 (pc := 60) C dX9_gives_60 rfl ?_
        have ihT := ih
        have hM1 : mmF G1 = mmF G := mmF_fr hfr (by decide +kernel)
        have hnd := line_nodup hL.2
        have hpp := hL.2
        rw [hAB] at hnd hpp
        obtain ⟨-, hpB, -⟩ := List.pairwise_append.mp hpp
        have hdis := (List.nodup_append.mp hnd).2.2
        have hB : ∀ {i}, i ∈ B → i ∈ lineC (nI t) (hMc h) F ∧ i ∉ A := fun {i} hi => ⟨by rw [hAB]; exact List.mem_append_right _ hi, fun z => hdis i z i hi rfl⟩
        have hB2 : ∀ {i}, i ∈ lineC (nI t) (hMc h) F → i ∉ A → i ∈ B := fun {i} hi hA => by
          rw [hAB] at hi
          exact (List.mem_append.mp hi).resolve_left hA
        have hBlt : ∀ i, i ∈ B → i < hMc h := fun i hi => ((hL.1 i).mp (hB hi).1).1
        have loop4 : ∀ (k0 : Nat) (m : Nat) (z : Int32), k0 = hMc h - m → m ≤ hMc h → ((z = -1 ∧ ∀ i, i < m → i ∉ B) ∨ (∃ j, z = nI j ∧ j < m ∧ j ∈ B ∧ ∀ i, i < m → i ∈ B → i = j ∨ befF F j i)) → WW Z (qv (fun G' => Fr vS G G' ∧ (∀ q, q ≠ 66 → G'.1 100 q = G.1 100 q) ∧ G'.1 100 66 = G.1 100 66 + (fSd h t F ls ts).1 ∧ (∀ q, q ≠ t → G'.1 64 q = G.1 64 q) ∧ G'.1 64 t = (fSd h t F ls ts).1 ∧ (∀ b, b < 72 → G'.1 65 b = (fSd h t F ls ts).2.2 b) ∧ EqQ (hMc h) (fRv h t F (fSd h t F ls ts).2.1) (mmF G'))) 62 [some (.ref (ad Z (100))), some (.int (nI t)), some (.int (nI a)), some (.int (nI k)), some (.int (z)), some (.int (nI m))] [] G1 := by
          intro k0
          induction k0 using Nat.strongRecOn with
          | _ k0 ih =>
            intro m z hk0 hm0 hz
            rcases hz with ⟨rfl, hz⟩ | ⟨j, rfl, hjm, hjB, hz⟩
            · refine r_iload5 (pc := 62) C dX9_gives_62 ?_
              refine r_aload0 (pc := 64) C dX9_gives_64 ?_
              refine gX9_317 (pc := 65) C dX9_gives_65 ?_
              refine r_eqi (y := nI (hMc h)) (by rw [hfr.1 100 (by decide)]; exact a1) ?_
              refine r_icmp_ge (pc := 68) 124 C dX9_gives_68 (by decide) (fun c68 => ?_) (fun c68 => ?_)
              · obtain rfl : m = hMc h := by have := (nI_leI (by omega) (by omega)).mp c68; omega
                refine r_iload4 (pc := 124) C dX9_gives_124 ?_
                refine r_iconst (pc := 126) (v := (-1)) C dX9_gives_126 (by decide) ?_
                refine r_icmp_ne (pc := 127) 133 C dX9_gives_127 (by decide) (fun c127 => ?_) (fun c127 => ?_)
                · exact absurd c127 (fun h => h rfl)
                refine r_goto (pc := 130) 210 C dX9_gives_130 (by decide) ?_
                obtain rfl : B = [] := by
                  cases B with
                  | nil => rfl
                  | cons b B2 => exact absurd List.mem_cons_self (hz b (hBlt b List.mem_cons_self))
                rw [List.append_nil] at hAB
                have hSd : (fSd h t F ls ts) = (sdL (hWd h) (nI t) F A (nI 0, ls, ts)) := by unfold fSd; rw [hAB]
                exact fin a _ _ _ G1 hfr (by rw [hSd]; exact hS1) (by rw [hSd]; exact hS2) (by rw [hSd]; exact hS3)
              · have hmb : m < hMc h := by
                  rcases Nat.lt_or_ge m (hMc h) with h | h
                  · exact h
                  · exact absurd (nI_le h (by omega)) c68
                have hm8 : m < 8 := by omega
                refine r_aload0 (pc := 71) C dX9_gives_71 ?_
                refine r_iload5 (pc := 72) C dX9_gives_72 ?_
                refine r_iload1 (pc := 74) C dX9_gives_74 ?_
                refine r_callVi (pc := 75) C rfl dX9_gives_75 kX9_381 gF9 jM (tX9_wants Z.1 C.w hm8) rfl rfl (Nat.le_of_ble_eq_true rfl) (by decide) (fun x75 G75 h75 => ?_)
                obtain ⟨rfl, h75b⟩ := h75
                have h75b := h75b.symm
                subst h75b
                refine r_eqi (y := bI (wantB (nI t) (F m))) (by rw [hM1, (hE m hmb).want]) ?_
                refine r_if_eq (pc := 78) 118 C dX9_gives_78 (by decide) (fun c78 => ?_) (fun c78 => ?_)
                · refine r_iinc5 (pc := 118) (nI 1) C dX9_gives_118 (by decide) rfl ?_
                  rw [nI_add m 1]
                  refine r_goto (pc := 121) 62 C dX9_gives_121 (by decide) ?_
                  exact ih (hMc h - (m + 1)) (by omega) (m + 1) _ rfl (by omega) (Or.inl ⟨rfl, fun i hi => by
                    by_cases e : i = m
                    · rw [e]; exact (fun z => by have z2 := ((hL.1 m).mp (hB z).1).2; rw [bI_z.mp c78] at z2; cases z2)
                    · exact hz i (by omega)⟩)
                · refine r_aload0 (pc := 81) C dX9_gives_81 ?_
                  refine gX9_200 (pc := 82) C dX9_gives_82 ?_
                  refine r_iload5 (pc := 85) C dX9_gives_85 ?_
                  refine r_zald (pc := 87) (_) C dX9_gives_87 aM81 (rfl) (by omega) ?_
                  refine r_eqi (hT m hmb) ?_
                  refine r_if_ne (pc := 88) 118 C dX9_gives_88 (by decide) (fun c88 => ?_) (fun c88 => ?_)
                  · refine r_iinc5 (pc := 118) (nI 1) C dX9_gives_118 (by decide) rfl ?_
                    rw [nI_add m 1]
                    refine r_goto (pc := 121) 62 C dX9_gives_121 (by decide) ?_
                    exact ih (hMc h - (m + 1)) (by omega) (m + 1) _ rfl (by omega) (Or.inl ⟨rfl, fun i hi => by
                      by_cases e : i = m
                      · rw [e]; exact (fun z => (hB z).2 (of_decide_eq_true (bI_n.mp c88)))
                      · exact hz i (by omega)⟩)
                  · have hwm : wantB (nI t) (F m) = true := bI_n.mp c78
                    have hphm : F m 3 = nI 2 := (of_decide_eq_true hwm).1
                    have hmB : m ∈ B := hB2 ((hL.1 m).mpr ⟨hmb, hwm⟩) (of_decide_eq_false (bI_z.mp c88))
                    refine r_iload4 (pc := 91) C dX9_gives_91 ?_
                    refine r_iconst (pc := 93) (v := (-1)) C dX9_gives_93 (by decide) ?_
                    refine r_icmp_eq (pc := 94) 114 C dX9_gives_94 (by decide) (fun c94 => ?_) (fun c94 => ?_)
                    rotate_left
                    · exact absurd c94 (fun h => h rfl)
                    refine r_iload5 (pc := 114) C dX9_gives_114 ?_
                    refine r_istore4 (pc := 116) C dX9_gives_116 rfl ?_
                    refine r_iinc5 (pc := 118) (nI 1) C dX9_gives_118 (by decide) rfl ?_
                    rw [nI_add m 1]
                    refine r_goto (pc := 121) 62 C dX9_gives_121 (by decide) ?_
                    exact ih (hMc h - (m + 1)) (by omega) (m + 1) _ rfl (by omega) (Or.inr ⟨m, rfl, by omega, hmB, fun i hi hiB => by
                      by_cases e : i = m
                      · exact Or.inl e
                      · exact absurd hiB (hz i (by omega))⟩)
            · have hjb : j < hMc h := by omega
              have hj8 : j < 8 := by omega
              have hphj : F j 3 = nI 2 := (of_decide_eq_true ((hL.1 j).mp (hB hjB).1).2).1
              have hfo := (hv.1.2 j hjb).1 hphj
              have hb72 : blkN (F j) < 72 := by unfold blkN; omega
              refine r_iload5 (pc := 62) C dX9_gives_62 ?_
              refine r_aload0 (pc := 64) C dX9_gives_64 ?_
              refine gX9_317 (pc := 65) C dX9_gives_65 ?_
              refine r_eqi (y := nI (hMc h)) (by rw [hfr.1 100 (by decide)]; exact a1) ?_
              refine r_icmp_ge (pc := 68) 124 C dX9_gives_68 (by decide) (fun c68 => ?_) (fun c68 => ?_)
              · obtain rfl : m = hMc h := by have := (nI_leI (by omega) (by omega)).mp c68; omega
                refine r_iload4 (pc := 124) C dX9_gives_124 ?_
                refine r_iconst (pc := 126) (v := (-1)) C dX9_gives_126 (by decide) ?_
                refine r_icmp_ne (pc := 127) 133 C dX9_gives_127 (by decide) (fun c127 => ?_) (fun c127 => ?_)
                rotate_left
                · exact absurd c127 (nI_m1 (by omega))
                refine r_aload0 (pc := 133) C dX9_gives_133 ?_
                refine gX9_200 (pc := 134) C dX9_gives_134 ?_
                refine r_iload4 (pc := 137) C dX9_gives_137 ?_
                refine r_iconst (pc := 139) (v := nI 1) C dX9_gives_139 (by decide) ?_
                refine r_zast (pc := 140) (_) C dX9_gives_140 aM81 (rfl) (by omega) (rfl) ?_
                refine r_bipush (pc := 141) (v := nI 12) C dX9_gives_141 (by decide) ?_
                refine r_aload0 (pc := 143) C dX9_gives_143 ?_
                refine gX9_167 (pc := 144) C dX9_gives_144 ?_
                refine r_iload4 (pc := 147) C dX9_gives_147 ?_
                refine r_iald (pc := 149) (_) C dX9_gives_149 aM70 (rfl) (by omega) ?_
                refine r_eqi (y := nI (cN (F j 4))) (by rw [sI_o (by decide), mg70 hj8, hM1, (hE j hjb).o 4]; exact hfo.1) ?_
                refine r_imul (pc := 150) C dX9_gives_150 ?_
                refine r_eqi (pk_mul 12 _) ?_
                refine r_aload0 (pc := 151) C dX9_gives_151 ?_
                refine gX9_170 (pc := 152) C dX9_gives_152 ?_
                refine r_iload4 (pc := 155) C dX9_gives_155 ?_
                refine r_iald (pc := 157) (_) C dX9_gives_157 aM71 (rfl) (by omega) ?_
                refine r_eqi (y := nI (cN (F j 5))) (by rw [sI_o (by decide), mg71 hj8, hM1, (hE j hjb).o 5]; exact hfo.2.2.1) ?_
                refine r_iadd (pc := 158) C dX9_gives_158 ?_
                refine r_eqi (y := nI (blkN (F j))) (nI_add _ _) ?_
                refine r_istore5 (pc := 159) C dX9_gives_159 rfl ?_
                refine r_aload0 (pc := 161) C dX9_gives_161 ?_
                refine gX9_197 (pc := 162) C dX9_gives_162 ?_
                refine r_iload5 (pc := 165) C dX9_gives_165 ?_
                refine r_zald (pc := 167) (_) C dX9_gives_167 aM80 (rfl) (hb72) ?_
                refine r_eqi (y := bI (decide ((sdL (hWd h) (nI t) F A (nI 0, ls, ts)).2.1 (blkN (F j)) = nI t))) (by rw [sI_o (by decide)]; exact hS2 _ hb72) ?_
                refine r_if_ne (pc := 168) 204 C dX9_gives_168 (by decide) (fun c168 => ?_) (fun c168 => ?_)
                · refine r_iinc3 (pc := 204) (nI 1) C dX9_gives_204 (by decide) rfl ?_
                  rw [nI_add k 1]
                  refine r_goto (pc := 207) 48 C dX9_gives_207 (by decide) ?_
                  obtain ⟨B2, rfl⟩ := head_min hpB hjB (fun i hi => hz i (hBlt i hi) hi)
                  have hsd : sdL (hWd h) (nI t) F (A ++ [j]) (nI 0, ls, ts) = (sdL (hWd h) (nI t) F A (nI 0, ls, ts)) := by rw [sd_app, sdS, if_pos (Or.inr (of_decide_eq_true (bI_n.mp c168)))]
                  exact ihT (hMc h - (k + 1)) (by omega) (k + 1) a (A ++ [j]) B2 _ _ _ rfl (by omega) (hfr.sI (Or.inr (Or.inr rfl))) (by rw [hAB]; simp) (by simp; omega) (by rw [hsd]; exact hS1) ha (by rw [hsd]; intro b hb; rw [sI_o (by decide)]; exact hS2 b hb) (by rw [hsd]; intro b hb; rw [sI_o (by decide)]; exact hS3 b hb) (fun i hi => by
                    have hi2 := hT i hi
                    by_cases e : i = j
                    · subst e; rw [sI_s]; rw [upd_s]; rw [decide_eq_true (by simp)]; rfl
                    · rw [sI_s]; rw [upd_o e, hi2]; congr 1; simp [e])
                · refine r_iload2 (pc := 171) C dX9_gives_171 ?_
                  refine r_aload0 (pc := 172) C dX9_gives_172 ?_
                  refine gX9_210 (pc := 173) C dX9_gives_173 ?_
                  refine r_eqi (y := nI wd) (by rw [sI_o (by decide), hfr.1 100 (by decide), a6, a7]) ?_
                  refine r_icmp_ne (pc := 176) 182 C dX9_gives_176 (by decide) (fun c176 => ?_) (fun c176 => ?_)
                  · refine r_aload0 (pc := 182) C dX9_gives_182 ?_
                    refine gX9_197 (pc := 183) C dX9_gives_183 ?_
                    refine r_iload5 (pc := 186) C dX9_gives_186 ?_
                    refine r_iconst (pc := 188) (v := nI 1) C dX9_gives_188 (by decide) ?_
                    refine r_zast (pc := 189) (_) C dX9_gives_189 aM80 (rfl) (hb72) (rfl) ?_
                    refine r_iinc2 (pc := 190) (nI 1) C dX9_gives_190 (by decide) rfl ?_
                    rw [nI_add a 1]
                    refine r_aload0 (pc := 193) C dX9_gives_193 ?_
                    refine gX9_155 (pc := 194) C dX9_gives_194 ?_
                    refine r_iload5 (pc := 197) C dX9_gives_197 ?_
                    refine r_dup2 (pc := 199) C dX9_gives_199 rfl rfl ?_
                    refine r_iald (pc := 200) (_) C dX9_gives_200 aM65 (rfl) (hb72) ?_
                    refine r_eqi (y := (sdL (hWd h) (nI t) F A (nI 0, ls, ts)).2.2 (blkN (F j))) (by rw [sI_o (by decide), sI_o (by decide)]; exact hS3 _ hb72) ?_
                    refine r_iconst (pc := 201) (v := nI 1) C dX9_gives_201 (by decide) ?_
                    refine r_iadd (pc := 202) C dX9_gives_202 ?_
                    refine r_iast (pc := 203) (_) C dX9_gives_203 aM65 (rfl) (hb72) ?_
                    refine r_iinc3 (pc := 204) (nI 1) C dX9_gives_204 (by decide) rfl ?_
                    rw [nI_add k 1]
                    refine r_goto (pc := 207) 48 C dX9_gives_207 (by decide) ?_
                    obtain ⟨B2, rfl⟩ := head_min hpB hjB (fun i hi => hz i (hBlt i hi) hi)
                    have ncw : ¬ (hWd h ≤ (sdL (hWd h) (nI t) F A (nI 0, ls, ts)).1 ∨ (sdL (hWd h) (nI t) F A (nI 0, ls, ts)).2.1 (blkN (F j)) = nI t) := by
                      rintro (z | z)
                      · rw [hS1, a7] at z
                        have := (nI_leI (by omega) (by omega)).mp z
                        exact c176 (by rw [show a = wd by omega])
                      · exact absurd (bI_z.mp c168) (by rw [decide_eq_true z]; decide)
                    have hsd : sdL (hWd h) (nI t) F (A ++ [j]) (nI 0, ls, ts) = (nI (a + 1), upd (sdL (hWd h) (nI t) F A (nI 0, ls, ts)).2.1 (blkN (F j)) (nI t), upd (sdL (hWd h) (nI t) F A (nI 0, ls, ts)).2.2 (blkN (F j)) ((sdL (hWd h) (nI t) F A (nI 0, ls, ts)).2.2 (blkN (F j)) + nI 1)) := by rw [sd_app, sdS, if_neg ncw, hS1, nI_add]
                    have hne : a ≠ wd := fun e => c176 (by rw [e])
                    exact ihT (hMc h - (k + 1)) (by omega) (k + 1) (a + 1) (A ++ [j]) B2 _ _ _ rfl (by omega) (((hfr.sI (Or.inr (Or.inr rfl))).sI (Or.inr (Or.inl rfl))).sI (Or.inl rfl)) (by rw [hAB]; simp) (by simp; omega) (by rw [hsd]) (by omega) (by
                      rw [hsd]
                      intro b hb
                      show _ = bI (decide (upd _ _ _ b = nI t))
                      rw [sI_o (by decide), sI_s]
                      by_cases e : b = blkN (F j)
                      · subst e; rw [upd_s, upd_s, decide_eq_true rfl]; rfl
                      · rw [upd_o e, upd_o e, sI_o (by decide)]; exact hS2 b hb) (by
                      rw [hsd]
                      intro b hb
                      show _ = upd _ _ _ b
                      rw [sI_s]
                      by_cases e : b = blkN (F j)
                      · subst e; rw [upd_s, upd_s]
                      · rw [upd_o e, upd_o e, sI_o (by decide), sI_o (by decide)]; exact hS3 b hb) (fun i hi => by
                      have hi2 := hT i hi
                      by_cases e : i = j
                      · subst e; rw [sI_o (by decide), sI_o (by decide), sI_s]; rw [upd_s]; rw [decide_eq_true (by simp)]; rfl
                      · rw [sI_o (by decide), sI_o (by decide), sI_s]; rw [upd_o e, hi2]; congr 1; simp [e])
                  · refine r_goto (pc := 179) 204 C dX9_gives_179 (by decide) ?_
                    refine r_iinc3 (pc := 204) (nI 1) C dX9_gives_204 (by decide) rfl ?_
                    rw [nI_add k 1]
                    refine r_goto (pc := 207) 48 C dX9_gives_207 (by decide) ?_
                    obtain ⟨B2, rfl⟩ := head_min hpB hjB (fun i hi => hz i (hBlt i hi) hi)
                    have hsd : sdL (hWd h) (nI t) F (A ++ [j]) (nI 0, ls, ts) = (sdL (hWd h) (nI t) F A (nI 0, ls, ts)) := by rw [sd_app, sdS, if_pos (Or.inl (by rw [hS1, a7, c176]; exact Int32.le_refl _))]
                    exact ihT (hMc h - (k + 1)) (by omega) (k + 1) a (A ++ [j]) B2 _ _ _ rfl (by omega) (hfr.sI (Or.inr (Or.inr rfl))) (by rw [hAB]; simp) (by simp; omega) (by rw [hsd]; exact hS1) ha (by rw [hsd]; intro b hb; rw [sI_o (by decide)]; exact hS2 b hb) (by rw [hsd]; intro b hb; rw [sI_o (by decide)]; exact hS3 b hb) (fun i hi => by
                      have hi2 := hT i hi
                      by_cases e : i = j
                      · subst e; rw [sI_s]; rw [upd_s]; rw [decide_eq_true (by simp)]; rfl
                      · rw [sI_s]; rw [upd_o e, hi2]; congr 1; simp [e])
              · have hmb : m < hMc h := by
                  rcases Nat.lt_or_ge m (hMc h) with h | h
                  · exact h
                  · exact absurd (nI_le h (by omega)) c68
                have hm8 : m < 8 := by omega
                refine r_aload0 (pc := 71) C dX9_gives_71 ?_
                refine r_iload5 (pc := 72) C dX9_gives_72 ?_
                refine r_iload1 (pc := 74) C dX9_gives_74 ?_
                refine r_callVi (pc := 75) C rfl dX9_gives_75 kX9_381 gF9 jM (tX9_wants Z.1 C.w hm8) rfl rfl (Nat.le_of_ble_eq_true rfl) (by decide) (fun x75 G75 h75 => ?_)
                obtain ⟨rfl, h75b⟩ := h75
                have h75b := h75b.symm
                subst h75b
                refine r_eqi (y := bI (wantB (nI t) (F m))) (by rw [hM1, (hE m hmb).want]) ?_
                refine r_if_eq (pc := 78) 118 C dX9_gives_78 (by decide) (fun c78 => ?_) (fun c78 => ?_)
                · refine r_iinc5 (pc := 118) (nI 1) C dX9_gives_118 (by decide) rfl ?_
                  rw [nI_add m 1]
                  refine r_goto (pc := 121) 62 C dX9_gives_121 (by decide) ?_
                  exact ih (hMc h - (m + 1)) (by omega) (m + 1) _ rfl (by omega) (Or.inr ⟨j, rfl, by omega, hjB, fun i hi hiB => by
                    by_cases e : i = m
                    · rw [e] at hiB; exact absurd hiB (fun z => by have z2 := ((hL.1 m).mp (hB z).1).2; rw [bI_z.mp c78] at z2; cases z2)
                    · exact hz i (by omega) hiB⟩)
                · refine r_aload0 (pc := 81) C dX9_gives_81 ?_
                  refine gX9_200 (pc := 82) C dX9_gives_82 ?_
                  refine r_iload5 (pc := 85) C dX9_gives_85 ?_
                  refine r_zald (pc := 87) (_) C dX9_gives_87 aM81 (rfl) (by omega) ?_
                  refine r_eqi (hT m hmb) ?_
                  refine r_if_ne (pc := 88) 118 C dX9_gives_88 (by decide) (fun c88 => ?_) (fun c88 => ?_)
                  · refine r_iinc5 (pc := 118) (nI 1) C dX9_gives_118 (by decide) rfl ?_
                    rw [nI_add m 1]
                    refine r_goto (pc := 121) 62 C dX9_gives_121 (by decide) ?_
                    exact ih (hMc h - (m + 1)) (by omega) (m + 1) _ rfl (by omega) (Or.inr ⟨j, rfl, by omega, hjB, fun i hi hiB => by
                      by_cases e : i = m
                      · rw [e] at hiB; exact absurd hiB (fun z => (hB z).2 (of_decide_eq_true (bI_n.mp c88)))
                      · exact hz i (by omega) hiB⟩)
                  · have hwm : wantB (nI t) (F m) = true := bI_n.mp c78
                    have hphm : F m 3 = nI 2 := (of_decide_eq_true hwm).1
                    have hmB : m ∈ B := hB2 ((hL.1 m).mpr ⟨hmb, hwm⟩) (of_decide_eq_false (bI_z.mp c88))
                    refine r_iload4 (pc := 91) C dX9_gives_91 ?_
                    refine r_iconst (pc := 93) (v := (-1)) C dX9_gives_93 (by decide) ?_
                    refine r_icmp_eq (pc := 94) 114 C dX9_gives_94 (by decide) (fun c94 => ?_) (fun c94 => ?_)
                    · exact absurd c94 (nI_m1 (by omega))
                    refine r_aload0 (pc := 97) C dX9_gives_97 ?_
                    refine gX9_173 (pc := 98) C dX9_gives_98 ?_
                    refine r_iload5 (pc := 101) C dX9_gives_101 ?_
                    refine r_iald (pc := 103) (_) C dX9_gives_103 aM72 (rfl) (by omega) ?_
                    refine r_eqi (y := F m 14) (by rw [mg72 hm8, hM1]; exact (hE m hmb).2.2 (Or.inl hphm)) ?_
                    refine r_aload0 (pc := 104) C dX9_gives_104 ?_
                    refine gX9_173 (pc := 105) C dX9_gives_105 ?_
                    refine r_iload4 (pc := 108) C dX9_gives_108 ?_
                    refine r_iald (pc := 110) (_) C dX9_gives_110 aM72 (rfl) (by omega) ?_
                    refine r_eqi (y := F j 14) (by rw [mg72 hj8, hM1]; exact (hE j hjb).2.2 (Or.inl hphj)) ?_
                    refine r_icmp_ge (pc := 111) 118 C dX9_gives_111 (by decide) (fun c111 => ?_) (fun c111 => ?_)
                    · refine r_iinc5 (pc := 118) (nI 1) C dX9_gives_118 (by decide) rfl ?_
                      rw [nI_add m 1]
                      refine r_goto (pc := 121) 62 C dX9_gives_121 (by decide) ?_
                      exact ih (hMc h - (m + 1)) (by omega) (m + 1) _ rfl (by omega) (Or.inr ⟨j, rfl, by omega, hjB, fun i hi hiB => by
                        by_cases e : i = m
                        · subst e
                          right
                          rcases Int32.lt_or_eq_of_le c111 with g | g
                          · exact Or.inl g
                          · exact Or.inr ⟨g, hjm⟩
                        · exact hz i (by omega) hiB⟩)
                    · refine r_iload5 (pc := 114) C dX9_gives_114 ?_
                      refine r_istore4 (pc := 116) C dX9_gives_116 rfl ?_
                      refine r_iinc5 (pc := 118) (nI 1) C dX9_gives_118 (by decide) rfl ?_
                      rw [nI_add m 1]
                      refine r_goto (pc := 121) 62 C dX9_gives_121 (by decide) ?_
                      exact ih (hMc h - (m + 1)) (by omega) (m + 1) _ rfl (by omega) (Or.inr ⟨m, rfl, by omega, hmB, fun i hi hiB => by
                        by_cases e : i = m
                        · exact Or.inl e
                        · right
                          rcases hz i (by omega) hiB with g | g | g
                          · subst g; exact Or.inl (Int32.not_le.mp c111)
                          · exact Or.inl (Int32.lt_trans (Int32.not_le.mp c111) g)
                          · exact Or.inl (by rw [← g.1]; exact Int32.not_le.mp c111)⟩)
        exact loop4 _ 0 (-1) rfl (Nat.zero_le _) (Or.inl ⟨rfl, fun i hi => absurd hi (Nat.not_lt_zero i)⟩)
  have loop2 : ∀ (k0 : Nat) (k : Nat) (G1 : gS), k0 = hMc h - k → k ≤ hMc h → Fr (fun q => q = 80 ∨ q = 81) G G1 → (∀ b, b < 72 → G1.1 80 b = nI 0) → (∀ i, i < k → G1.1 81 i = nI 0) → WW Z (qv (fun G' => Fr vS G G' ∧ (∀ q, q ≠ 66 → G'.1 100 q = G.1 100 q) ∧ G'.1 100 66 = G.1 100 66 + (fSd h t F ls ts).1 ∧ (∀ q, q ≠ t → G'.1 64 q = G.1 64 q) ∧ G'.1 64 t = (fSd h t F ls ts).1 ∧ (∀ b, b < 72 → G'.1 65 b = (fSd h t F ls ts).2.2 b) ∧ EqQ (hMc h) (fRv h t F (fSd h t F ls ts).2.1) (mmF G'))) 23 [some (.ref (ad Z (100))), some (.int (nI t)), some (.int (nI k)), none, none, none] [] G1 := by
    intro k0
    induction k0 using Nat.strongRecOn with
    | _ k0 ih =>
      intro k G1 hk0 hkk hfr h80 h81
      refine r_iload2 (pc := 23) C dX9_gives_23 ?_
      refine r_aload0 (pc := 24) C dX9_gives_24 ?_
      refine gX9_317 (pc := 25) C dX9_gives_25 ?_
      refine r_eqi (y := nI (hMc h)) (by rw [hfr.1 100 (by decide)]; exact a1) ?_
      refine r_icmp_ge (pc := 28) 44 C dX9_gives_28 (by decide) (fun c28 => ?_) (fun c28 => ?_)
      · obtain rfl : k = hMc h := by have := (nI_leI (by omega) (by omega)).mp c28; omega
        refine r_iconst (pc := 44) (v := nI 0) C dX9_gives_44 (by decide) ?_
        refine r_istore2 (pc := 45) C dX9_gives_45 rfl ?_
        refine r_iconst (pc := 46) (v := nI 0) C dX9_gives_46 (by decide) ?_
        refine r_istore3 (pc := 47) C dX9_gives_47 rfl ?_
        exact loop3 _ 0 0 [] (lineC (nI t) (hMc h) F) _ _ G1 rfl (Nat.zero_le _) (hfr.mono (fun q h => Or.inr h)) rfl rfl rfl (by omega) (fun b hb => by rw [h80 b hb]; show nI 0 = bI (decide (ls b = nI t)); rw [decide_eq_false (hls b hb t (Nat.le_refl t) (by omega))]; rfl) (fun b hb => by rw [hfr.1 65 (by decide)]; exact hts b hb) (fun i hi => by rw [h81 i hi]; rfl)
      · have hkb : k < hMc h := by
          rcases Nat.lt_or_ge k (hMc h) with h | h
          · exact h
          · exact absurd (nI_le h (by omega)) c28
        have hk8 : k < 8 := by omega
        refine r_aload0 (pc := 31) C dX9_gives_31 ?_
        refine gX9_200 (pc := 32) C dX9_gives_32 ?_
        refine r_iload2 (pc := 35) C dX9_gives_35 ?_
        refine r_iconst (pc := 36) (v := nI 0) C dX9_gives_36 (by decide) ?_
        refine r_zast (pc := 37) (_) C dX9_gives_37 aM81 (rfl) (by omega) (rfl) ?_
        refine r_iinc2 (pc := 38) (nI 1) C dX9_gives_38 (by decide) rfl ?_
        rw [nI_add]
        refine r_goto (pc := 41) 23 C dX9_gives_41 (by decide) ?_
        exact ih (hMc h - (k + 1)) (by omega) (k + 1) _ rfl (by omega) (hfr.sI (Or.inr rfl)) (by rw [sI_o (by decide)]; exact h80) (fun b hb => by
          rw [sI_s]
          by_cases e : b = k
          · subst e; rw [upd_s]; rfl
          · rw [upd_o e]; exact h81 b (by omega))
  have loop1 : ∀ (k0 : Nat) (k : Nat) (G1 : gS), k0 = 72 - k → k ≤ 72 → Fr (fun q => q = 80 ∨ q = 81) G G1 → (∀ b, b < k → G1.1 80 b = nI 0) → WW Z (qv (fun G' => Fr vS G G' ∧ (∀ q, q ≠ 66 → G'.1 100 q = G.1 100 q) ∧ G'.1 100 66 = G.1 100 66 + (fSd h t F ls ts).1 ∧ (∀ q, q ≠ t → G'.1 64 q = G.1 64 q) ∧ G'.1 64 t = (fSd h t F ls ts).1 ∧ (∀ b, b < 72 → G'.1 65 b = (fSd h t F ls ts).2.2 b) ∧ EqQ (hMc h) (fRv h t F (fSd h t F ls ts).2.1) (mmF G'))) 2 [some (.ref (ad Z (100))), some (.int (nI t)), some (.int (nI k)), none, none, none] [] G1 := by
    intro k0
    induction k0 using Nat.strongRecOn with
    | _ k0 ih =>
      intro k G1 hk0 hkk hfr h80
      refine r_iload2 (pc := 2) C dX9_gives_2 ?_
      refine r_bipush (pc := 3) (v := nI 72) C dX9_gives_3 (by decide) ?_
      refine r_icmp_ge (pc := 5) 21 C dX9_gives_5 (by decide) (fun c5 => ?_) (fun c5 => ?_)
      · obtain rfl : k = 72 := by have := (nI_leI (by omega) (by omega)).mp c5; omega
        refine r_iconst (pc := 21) (v := nI 0) C dX9_gives_21 (by decide) ?_
        refine r_istore2 (pc := 22) C dX9_gives_22 rfl ?_
        exact loop2 _ 0 G1 rfl (Nat.zero_le _) hfr h80 (fun i hi => absurd hi (Nat.not_lt_zero i))
      · have hk72 : k < 72 := by
          rcases Nat.lt_or_ge k 72 with h | h
          · exact h
          · exact absurd (nI_le h (by omega)) c5
        refine r_aload0 (pc := 8) C dX9_gives_8 ?_
        refine gX9_197 (pc := 9) C dX9_gives_9 ?_
        refine r_iload2 (pc := 12) C dX9_gives_12 ?_
        refine r_iconst (pc := 13) (v := nI 0) C dX9_gives_13 (by decide) ?_
        refine r_zast (pc := 14) (_) C dX9_gives_14 aM80 (rfl) (by omega) (rfl) ?_
        refine r_iinc2 (pc := 15) (nI 1) C dX9_gives_15 (by decide) rfl ?_
        rw [nI_add]
        refine r_goto (pc := 18) 2 C dX9_gives_18 (by decide) ?_
        exact ih (72 - (k + 1)) (by omega) (k + 1) _ rfl (by omega) (hfr.sI (Or.inl rfl)) (fun b hb => by
          rw [sI_s]
          by_cases e : b = k
          · subst e; rw [upd_s]; rfl
          · rw [upd_o e]; exact h80 b (by omega))
  refine r_iconst (pc := 0) (v := nI 0) C dX9_gives_0 (by decide) ?_
  refine r_istore2 (pc := 1) C dX9_gives_1 rfl ?_
  exact loop1 _ 0 G rfl (Nat.zero_le _) Fr.refl (fun b hb => absurd hb (Nat.not_lt_zero b))
