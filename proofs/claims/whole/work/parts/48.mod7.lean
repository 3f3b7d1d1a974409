/-! the reference: a whole run -/
noncomputable def ctR (h : hQ) (c : rC) (t : Nat) : rC := itN (crk h) t (crs h c)
noncomputable def f2R (h : hQ) (c : rC) (t : Nat) : Nat → Nat → Int32 := fAsk h t (fPw h t (ctR h c t).1)
noncomputable def sdR (h : hQ) (c : rC) (t : Nat) : Int32 × (Nat → Int32) × (Nat → Int32) := fSd h t (f2R h c t) (ctR h c t).2.2.1 (ctR h c t).2.1
noncomputable def f3R (h : hQ) (c : rC) (t : Nat) : Nat → Nat → Int32 := fRv h t (f2R h c t) (sdR h c t).2.1
theorem ct_s (h : hQ) (c : rC) (t : Nat) : ctR h c (t + 1) = (fIn h t (f3R h c t), (sdR h c t).2.2, (sdR h c t).2.1, (ctR h c t).2.2.2.1 + (sdR h c t).1, if doneF (hMc h) (fIn h t (f3R h c t)) then (ctR h c t).2.2.2.2 else nI t) := rfl
def gnS (q : Nat) : Prop := sMM q ∨ q = 50 ∨ q = 51 ∨ (54 ≤ q ∧ q ≤ 65) ∨ q = 80 ∨ q = 81 ∨ q = 100
theorem relS_gn : ∀ r, relS r → ¬ gnS r := by
  intro r h1 h2
  unfold gnS sMM mrL at h2
  unfold relS at h1
  simp only [List.mem_cons, List.not_mem_nil, or_false] at h2
  omega
theorem qS_gn : ∀ r, qS r → gnS r := by
  intro r h
  rcases h with h | h | h | h
  · exact Or.inl h
  · exact Or.inr (Or.inl h)
  · exact Or.inr (Or.inr (Or.inl h))
  · exact Or.inr (Or.inr (Or.inr (Or.inr (Or.inr (Or.inr h)))))
theorem vS_gn : ∀ r, vS r → gnS r := by
  intro r h
  rcases h with h | h
  · exact Or.inl h
  · unfold gnS; omega
/-- ticks below n are in the record -/
def gnH (G : gS) (h : hQ) (c : rC) (n : Nat) : Prop := ∀ u, u < n → G.1 64 u = (sdR h c u).1 ∧ ∀ i, i < hMc h → ∀ j, j < 10 → G.1 (54 + j) (300 * i + u) = (ctR h c (u + 1)).1 i (3 + j)
/-- where the reference stands at TICK t, but for its rows; x: the sent at TICK x is counted -/
def gnJ (G G2 : gS) (h : hQ) (c : rC) (t x : Nat) : Prop := Fr gnS G G2 ∧ (∀ q, q ≠ 52 → q ≠ 53 → q ≠ 66 → G2.1 100 q = G.1 100 q) ∧ G2.1 100 53 = nI 1 ∧ G2.1 100 66 = (ctR h c x).2.2.2.1 ∧ (∀ b, b < 72 → G2.1 65 b = (ctR h c x).2.1 b) ∧ gnH G2 h c t
theorem gnJ.st {G G2 G3 : gS} {h : hQ} {c : rC} {t x : Nat} (hj : gnJ G G2 h c t x) (hF : Fr qS G2 G3) (h1 : ∀ q, q ≠ 52 → G3.1 100 q = G2.1 100 q) : gnJ G G3 h c t x := by
  obtain ⟨j1, j2, j3, j4, j5, j6⟩ := hj
  have no : ∀ r, 54 ≤ r → r ≤ 65 → ¬ qS r := by
    intro r a b h
    unfold qS sMM mrL at h
    simp only [List.mem_cons, List.not_mem_nil, or_false] at h
    omega
  refine ⟨Fr.trans j1 (hF.mono qS_gn), fun q a b d => by rw [h1 q a]; exact j2 q a b d, by rw [h1 53 (by decide)]; exact j3, by rw [h1 66 (by decide)]; exact j4, by rw [hF.1 65 (no 65 (by decide) (by decide))]; exact j5, fun u hu => ?_⟩
  rw [hF.1 64 (no 64 (by decide) (by decide))]
  refine ⟨(j6 u hu).1, fun i hi j hj => ?_⟩
  rw [hF.1 (54 + j) (no _ (by omega) (by omega))]
  exact (j6 u hu).2 i hi j hj
theorem gnJ.mm {G G2 G3 : gS} {h : hQ} {c : rC} {t x : Nat} (hj : gnJ G G2 h c t x) (hF : Fr sMM G2 G3) : gnJ G G3 h c t x := hj.st (hF.mono (fun _ h => Or.inl h)) (fun q _ => by rw [hF.1 100 (by unfold sMM; decide)])
theorem gnJ.rel {G G2 : gS} {h : hQ} {c : rC} {t x fc wd : Nat} (hj : gnJ G G2 h c t x) (hm : relM G h fc wd) : relM G2 h fc wd := hm.fr hj.1 relS_gn (hj.2.1 36 (by decide) (by decide) (by decide)) (hj.2.1 41 (by decide) (by decide) (by decide)) (hj.2.1 44 (by decide) (by decide) (by decide))
theorem kp_fr (i t : Nat) (G : gS) : Fr (fun q => 54 ≤ q ∧ q ≤ 63) G (kpM i t G) := ((((((((((Fr.refl).sI (by decide)).sI (by decide)).sI (by decide)).sI (by decide)).sI (by decide)).sI (by decide)).sI (by decide)).sI (by decide)).sI (by decide)).sI (by decide)
theorem kp_at {i t : Nat} {G : gS} (hi : i < 8) : ∀ j, j < 10 → (kpM i t G).1 (54 + j) = upd (G.1 (54 + j)) (300 * i + t) (mmF G i (3 + j)) := by
  intro j hj
  have ex : ∀ {a b : Nat → Int32} {k : Nat} {v w : Int32}, a = b → v = w → upd a k v = upd b k w := by
    intro a b k v w h1 h2; rw [h1, h2]
  rcases (show j = 0 ∨ j = 1 ∨ j = 2 ∨ j = 3 ∨ j = 4 ∨ j = 5 ∨ j = 6 ∨ j = 7 ∨ j = 8 ∨ j = 9 by omega) with rfl | rfl | rfl | rfl | rfl | rfl | rfl | rfl | rfl | rfl
  · unfold kpM
    rw [sI_o (by decide), sI_o (by decide), sI_o (by decide), sI_o (by decide), sI_o (by decide), sI_o (by decide), sI_o (by decide), sI_o (by decide), sI_o (by decide), sI_s]
    exact ex (rfl) (mg67 hi)
  · unfold kpM
    rw [sI_o (by decide), sI_o (by decide), sI_o (by decide), sI_o (by decide), sI_o (by decide), sI_o (by decide), sI_o (by decide), sI_o (by decide), sI_s]
    exact ex (by rw [sI_o (by decide)]) (mg70 hi)
  · unfold kpM
    rw [sI_o (by decide), sI_o (by decide), sI_o (by decide), sI_o (by decide), sI_o (by decide), sI_o (by decide), sI_o (by decide), sI_s]
    exact ex (by rw [sI_o (by decide), sI_o (by decide)]) (mg71 hi)
  · unfold kpM
    rw [sI_o (by decide), sI_o (by decide), sI_o (by decide), sI_o (by decide), sI_o (by decide), sI_o (by decide), sI_s]
    exact ex (by rw [sI_o (by decide), sI_o (by decide), sI_o (by decide)]) (mg73 hi)
  · unfold kpM
    rw [sI_o (by decide), sI_o (by decide), sI_o (by decide), sI_o (by decide), sI_o (by decide), sI_s]
    exact ex (by rw [sI_o (by decide), sI_o (by decide), sI_o (by decide), sI_o (by decide)]) (mg74 hi)
  · unfold kpM
    rw [sI_o (by decide), sI_o (by decide), sI_o (by decide), sI_o (by decide), sI_s]
    exact ex (by rw [sI_o (by decide), sI_o (by decide), sI_o (by decide), sI_o (by decide), sI_o (by decide)]) (mg75 hi)
  · unfold kpM
    rw [sI_o (by decide), sI_o (by decide), sI_o (by decide), sI_s]
    exact ex (by rw [sI_o (by decide), sI_o (by decide), sI_o (by decide), sI_o (by decide), sI_o (by decide), sI_o (by decide)]) (mg76 hi)
  · unfold kpM
    rw [sI_o (by decide), sI_o (by decide), sI_s]
    exact ex (by rw [sI_o (by decide), sI_o (by decide), sI_o (by decide), sI_o (by decide), sI_o (by decide), sI_o (by decide), sI_o (by decide)]) (mg77 hi)
  · unfold kpM
    rw [sI_o (by decide), sI_s]
    exact ex (by rw [sI_o (by decide), sI_o (by decide), sI_o (by decide), sI_o (by decide), sI_o (by decide), sI_o (by decide), sI_o (by decide), sI_o (by decide)]) (mg78 hi)
  · unfold kpM
    rw [sI_s]
    exact ex (by rw [sI_o (by decide), sI_o (by decide), sI_o (by decide), sI_o (by decide), sI_o (by decide), sI_o (by decide), sI_o (by decide), sI_o (by decide), sI_o (by decide)]) (mg79 hi)
theorem mRst_eq (f : Nat → Int32) : mClr (upd (upd (upd (upd (upd f 3 (nI 0)) 15 (nI 0)) 6 (-1)) 11 (nI 0)) 7 (nI 0)) = mReset f := by
  refine row_ext (fun k hk => ?_) (fun k hk => ?_)
  · rcases (show k = 0 ∨ k = 1 ∨ k = 2 ∨ k = 3 ∨ k = 4 ∨ k = 5 ∨ k = 6 ∨ k = 7 ∨ k = 8 ∨ k = 9 ∨ k = 10 ∨ k = 11 ∨ k = 12 ∨ k = 13 ∨ k = 14 ∨ k = 15 by omega) with rfl | rfl | rfl | rfl | rfl | rfl | rfl | rfl | rfl | rfl | rfl | rfl | rfl | rfl | rfl | rfl <;> rfl
  · unfold mReset mClear mEnter mClr
    rw [upd_o (by omega), upd_o (by omega), upd_o (by omega), upd_o (by omega), upd_o (by omega), upd_o (by omega), upd_o (by omega), upd_o (by omega), upd_o (by omega), upd_o (by omega), upd_o (by omega), upd_o (by omega), upd_o (by omega), upd_o (by omega), upd_o (by omega), upd_o (by omega), upd_o (by omega), upd_o (by omega), upd_o (by omega), upd_o (by omega), upd_o (by omega), upd_o (by omega)]
set_option maxHeartbeats 4000000 in
set_option maxRecDepth 100000 in
theorem tX9_goes (Y : gY) (hY : Y.2.2.2 = wM) {G : gS} {h : hQ} {fc wd : Nat} {c : rC} (hm : relM G h fc wd) (hh : hOk h fc) (hx3 : ∀ k, k < 2 → ∀ v, hAn h k v = -1 ∨ hAn h k v = -2 ∨ 0 ≤ hAn h k v) (hk : kOk (hMc h) c.1) (h3 : ∀ i, i < hMc h → ∀ k, k < 3 → mmF G i k = c.1 i k) : ∀ l : Launch, gM Y l yX9_goes cX9_goes 3 none (4, 102) [.ref (Y.2.1 (100))] G (qv (fun G' => (¬ G.1 100 53 = 0 ∧ G' = G) ∨ (G.1 100 53 = 0 ∧ gnJ G G' h c 300 300 ∧ EqQ (hMc h) (ctR h c 300).1 (mmF G')))) := by
  intro l
  refine gM_of hY rfl (Nat.le_of_ble_eq_true rfl) [some (.ref (Y.2.1 (100))), none, none] rfl rfl ?_
  rintro Z rfl C
  refine r_aload0 (pc := 0) C dX9_goes_0 ?_
  refine gX9_290 (pc := 1) C dX9_goes_1 ?_
  refine r_if_eq (pc := 4) 8 C dX9_goes_4 (by decide) (fun c4 => ?_) (fun c4 => ?_)
  · have hg0 : G.1 100 53 = 0 := c4
    have hM8 : hMc h ≤ 8 := hm.2.1
    have loopT : ∀ (k0 : Nat) (t : Nat) (o2 : Option Value) (G1 : gS), k0 = 300 - t → t ≤ 300 → gnJ G G1 h c t t → EqQ (hMc h) (ctR h c t).1 (mmF G1) → WW Z (qv (fun G' => (¬ G.1 100 53 = 0 ∧ G' = G) ∨ (G.1 100 53 = 0 ∧ gnJ G G' h c 300 300 ∧ EqQ (hMc h) (ctR h c 300).1 (mmF G')))) 95 [some (.ref (ad Z (100))), some (.int (nI t)), o2] [] G1 := by
      intro k0
      induction k0 using Nat.strongRecOn with
      | _ k0 ih =>
        intro t o2 G1 hk0 ht0 hJ hE
        refine r_iload1 (pc := 95) C dX9_goes_95 ?_
        refine r_sipush (pc := 96) (v := nI 300) C dX9_goes_96 (by decide) ?_
        refine r_icmp_ge (pc := 99) 240 C dX9_goes_99 (by decide) (fun c99 => ?_) (fun c99 => ?_)
        · obtain rfl : t = 300 := by have := (nI_leI (by omega) (by omega)).mp c99; omega
          exact r_return (pc := 240) C dX9_goes_240 (Or.inr ⟨hg0, hJ, hE⟩)
        · have ht : t < 300 := by
            rcases Nat.lt_or_ge t 300 with h | h
            · exact h
            · exact absurd (nI_le h (by omega)) c99
          have ihT := ih
          have k4 : ∀ (o2 : Option Value) (G2 : gS), gnJ G G2 h c t (t + 1) → G2.1 64 t = (sdR h c t).1 → EqQ (hMc h) (ctR h c (t + 1)).1 (mmF G2) → WW Z (qv (fun G' => (¬ G.1 100 53 = 0 ∧ G' = G) ∨ (G.1 100 53 = 0 ∧ gnJ G G' h c 300 300 ∧ EqQ (hMc h) (ctR h c 300).1 (mmF G')))) 212 [some (.ref (ad Z (100))), some (.int (nI t)), o2] [] G2 := by
            intro o2 G2 hj h64 hE
            obtain ⟨j1, j2, j3, j4, j5, j6⟩ := hj
            have loop4 : ∀ (k0 : Nat) (m : Nat) (G3 : gS), k0 = hMc h - m → m ≤ hMc h → Fr (fun q => 54 ≤ q ∧ q ≤ 63) G2 G3 → (∀ j, j < 10 → (∀ i, i < m → G3.1 (54 + j) (300 * i + t) = mmF G2 i (3 + j)) ∧ ∀ q, (∀ i, i < m → q ≠ 300 * i + t) → G3.1 (54 + j) q = G2.1 (54 + j) q) → WW Z (qv (fun G' => (¬ G.1 100 53 = 0 ∧ G' = G) ∨ (G.1 100 53 = 0 ∧ gnJ G G' h c 300 300 ∧ EqQ (hMc h) (ctR h c 300).1 (mmF G')))) 214 [some (.ref (ad Z (100))), some (.int (nI t)), some (.int (nI m))] [] G3 := by
              intro k0
              induction k0 using Nat.strongRecOn with
              | _ k0 ih =>
                intro m G3 hk0 hm0 hf3 hk3
                have hM3 : mmF G3 = mmF G2 := mmF_fr hf3 (by decide +kernel)
                have hr3 : G3.1 100 36 = nI (hMc h) ∧ True := ⟨by rw [hf3.1 100 (by decide), j2 36 (by decide) (by decide) (by decide)]; exact hm.1, trivial⟩
                refine r_iload2 (pc := 214) C dX9_goes_214 ?_
                refine r_aload0 (pc := 215) C dX9_goes_215 ?_
                refine gX9_317 (pc := 216) C dX9_goes_216 ?_
                refine r_eqi (y := nI (hMc h)) (by exact hr3.1) ?_
                refine r_icmp_ge (pc := 219) 234 C dX9_goes_219 (by decide) (fun c219 => ?_) (fun c219 => ?_)
                · obtain rfl : m = hMc h := by have := (nI_leI (by omega) (by omega)).mp c219; omega
                  refine r_iinc1 (pc := 234) (nI 1) C dX9_goes_234 (by decide) rfl ?_
                  rw [nI_add t 1]
                  refine r_goto (pc := 237) 95 C dX9_goes_237 (by decide) ?_
                  refine ihT (300 - (t + 1)) (by omega) (t + 1) _ G3 rfl (by omega) ⟨?_, ?_, ?_, ?_, ?_, ?_⟩ ?_
                  · exact Fr.trans j1 (hf3.mono (fun q h => by unfold gnS; omega))
                  · exact fun q a b d => by rw [hf3.1 100 (by decide)]; exact j2 q a b d
                  · rw [hf3.1 100 (by decide)]; exact j3
                  · rw [hf3.1 100 (by decide)]; exact j4
                  · rw [hf3.1 65 (by decide)]; exact j5
                  · intro u hu
                    rw [hf3.1 64 (by decide)]
                    by_cases e : u = t
                    · subst e
                      refine ⟨h64, fun i hi j hj => ?_⟩
                      rw [(hk3 j hj).1 i hi]
                      exact (hE i hi).1 (3 + j) (by omega) (by omega) (by omega)
                    · refine ⟨(j6 u (by omega)).1, fun i hi j hj => ?_⟩
                      rw [(hk3 j hj).2 (300 * i + u) (fun i2 hi2 => by omega)]
                      exact (j6 u (by omega)).2 i hi j hj
                  · rw [hM3]; exact hE
                · have hmb : m < hMc h := by
                    rcases Nat.lt_or_ge m (hMc h) with h | h
                    · exact h
                    · exact absurd (nI_le h (by omega)) c219
                  have hm8 : m < 8 := by omega
                  refine r_aload0 (pc := 222) C dX9_goes_222 ?_
                  refine r_iload2 (pc := 223) C dX9_goes_223 ?_
                  refine r_iload1 (pc := 224) C dX9_goes_224 ?_
                  refine r_callVv (pc := 225) C rfl dX9_goes_225 kX9_368 gF9 jM (tX9_keeps Z.1 C.w hm8 ht) rfl rfl (Nat.le_of_ble_eq_true rfl) (by decide) (fun G225 h225 => ?_)
                  subst h225
                  refine r_iinc2 (pc := 228) (nI 1) C dX9_goes_228 (by decide) rfl ?_
                  rw [nI_add m 1]
                  refine r_goto (pc := 231) 214 C dX9_goes_231 (by decide) ?_
                  exact ih (hMc h - (m + 1)) (by omega) (m + 1) _ rfl (by omega) (Fr.trans hf3 (kp_fr m t G3)) (fun j hj => by
                    rw [kp_at hm8 j hj, hM3]
                    refine ⟨fun i hi => ?_, fun q hq => ?_⟩
                    · by_cases e : i = m
                      · subst e; rw [upd_s]
                      · rw [upd_o (by omega)]; exact (hk3 j hj).1 i (by omega)
                    · rw [upd_o (hq m (by omega))]; exact (hk3 j hj).2 q (fun i hi => hq i (by omega)))
            refine r_iconst (pc := 212) (v := nI 0) C dX9_goes_212 (by decide) ?_
            refine r_istore2 (pc := 213) C dX9_goes_213 rfl ?_
            exact loop4 _ 0 G2 rfl (Nat.zero_le _) Fr.refl (fun j hj => ⟨fun i hi => absurd hi (Nat.not_lt_zero i), fun q _ => rfl⟩)
          have loop3 : ∀ (k0 : Nat) (m : Nat) (G3 : gS), k0 = hMc h - m → m ≤ hMc h → gnJ G G3 h c t (t + 1) → G3.1 64 t = (sdR h c t).1 → EqQ (hMc h) (itN (insS (hBl h) (nI t)) m (f3R h c t)) (mmF G3) → iV h fc (itN (insS (hBl h) (nI t)) m (f3R h c t)) → WW Z (qv (fun G' => (¬ G.1 100 53 = 0 ∧ G' = G) ∨ (G.1 100 53 = 0 ∧ gnJ G G' h c 300 300 ∧ EqQ (hMc h) (ctR h c 300).1 (mmF G')))) 173 [some (.ref (ad Z (100))), some (.int (nI t)), some (.int (nI m))] [] G3 := by
            intro k0
            induction k0 using Nat.strongRecOn with
            | _ k0 ih =>
              intro m G3 hk0 hm0 hj h64 hE hV
              have hr3 := hj.rel hm
              refine r_iload2 (pc := 173) C dX9_goes_173 ?_
              refine r_aload0 (pc := 174) C dX9_goes_174 ?_
              refine gX9_317 (pc := 175) C dX9_goes_175 ?_
              refine r_eqi (y := nI (hMc h)) (by exact hr3.1) ?_
              refine r_icmp_ge (pc := 178) 212 C dX9_goes_178 (by decide) (fun c178 => ?_) (fun c178 => ?_)
              · obtain rfl : m = hMc h := by have := (nI_leI (by omega) (by omega)).mp c178; omega
                exact k4 _ G3 hj h64 hE
              · have hmb : m < hMc h := by
                  rcases Nat.lt_or_ge m (hMc h) with h | h
                  · exact h
                  · exact absurd (nI_le h (by omega)) c178
                have hm8 : m < 8 := by omega
                refine r_aload0 (pc := 181) C dX9_goes_181 ?_
                refine gX9_158 (pc := 182) C dX9_goes_182 ?_
                refine r_iload2 (pc := 185) C dX9_goes_185 ?_
                refine r_iald (pc := 186) (_) C dX9_goes_186 aM67 (rfl) (by omega) ?_
                have hqm := hE m hmb
                refine r_eqi (y := (itN (insS (hBl h) (nI t)) m (f3R h c t)) m 3) (by rw [mg67 hm8]; exact hqm.o 3) ?_
                refine r_iconst (pc := 187) (v := nI 3) C dX9_goes_187 (by decide) ?_
                refine r_icmp_ne (pc := 188) 206 C dX9_goes_188 (by decide) (fun c188 => ?_) (fun c188 => ?_)
                · refine r_iinc2 (pc := 206) (nI 1) C dX9_goes_206 (by decide) rfl ?_
                  rw [nI_add m 1]
                  refine r_goto (pc := 209) 173 C dX9_goes_209 (by decide) ?_
                  exact ih (hMc h - (m + 1)) (by omega) (m + 1) G3 rfl (by omega) (hj) (h64) (by rw [itN_s, insS, if_neg (fun z => c188 z.1)]; exact hE) (by rw [itN_s]; exact iV_insS t hmb hV)
                · have hfo := (hV.1.2 m hmb).2 c188
                  refine r_aload0 (pc := 191) C dX9_goes_191 ?_
                  refine gX9_173 (pc := 192) C dX9_goes_192 ?_
                  refine r_iload2 (pc := 195) C dX9_goes_195 ?_
                  refine r_iald (pc := 196) (_) C dX9_goes_196 aM72 (rfl) (by omega) ?_
                  refine r_eqi (y := (itN (insS (hBl h) (nI t)) m (f3R h c t)) m 14) (by rw [mg72 hm8]; exact hqm.2.2 (Or.inr c188)) ?_
                  refine r_iload1 (pc := 197) C dX9_goes_197 ?_
                  refine r_icmp_gt (pc := 198) 206 C dX9_goes_198 (by decide) (fun c198 => ?_) (fun c198 => ?_)
                  · refine r_iinc2 (pc := 206) (nI 1) C dX9_goes_206 (by decide) rfl ?_
                    rw [nI_add m 1]
                    refine r_goto (pc := 209) 173 C dX9_goes_209 (by decide) ?_
                    exact ih (hMc h - (m + 1)) (by omega) (m + 1) G3 rfl (by omega) (hj) (h64) (by rw [itN_s, insS, if_neg (fun z => z.2 c198)]; exact hE) (by rw [itN_s]; exact iV_insS t hmb hV)
                  · refine r_aload0 (pc := 201) C dX9_goes_201 ?_
                    refine r_iload2 (pc := 202) C dX9_goes_202 ?_
                    refine r_callVv (pc := 203) C rfl dX9_goes_203 kX9_365 gF9 jM (tX9_writes Z.1 C.w hm8 (by rw [hqm.o 4]; exact hfo.1) (by rw [hqm.o 4]; have := hfo.2; have := hr3.2.2.2.2.1; omega) (by rw [hqm.o 7]; exact ((hV.2 m hmb).1 (by rw [c188]; decide)).1)) rfl rfl (Nat.le_of_ble_eq_true rfl) (by decide) (fun G203 h203 => ?_)
                    obtain ⟨f203, m203⟩ := h203
                    refine r_iinc2 (pc := 206) (nI 1) C dX9_goes_206 (by decide) rfl ?_
                    rw [nI_add m 1]
                    refine r_goto (pc := 209) 173 C dX9_goes_209 (by decide) ?_
                    exact ih (hMc h - (m + 1)) (by omega) (m + 1) G203 rfl (by omega) (hj.mm f203) (by rw [f203.1 64 (by unfold sMM; decide)]; exact h64) (by rw [itN_s, insS, if_pos ⟨c188, c198⟩, m203]; exact hE.up (fun _ => by rw [hqm.o 4, (hr3.2.2.2.2.2.2.2.2.2.1 _ hfo.2).1]; exact rQ_wr hqm c188)) (by rw [itN_s]; exact iV_insS t hmb hV)
          have loop2 : ∀ (k0 : Nat) (m : Nat) (G3 : gS), k0 = hMc h - m → m ≤ hMc h → gnJ G G3 h c t t → EqQ (hMc h) (itN (askS (hMc h) (nI t) (hLost h t) (hDown h t) (hAn h) (hAh h)) m (fPw h t (ctR h c t).1)) (mmF G3) → iV h fc (itN (askS (hMc h) (nI t) (hLost h t) (hDown h t) (hAn h) (hAh h)) m (fPw h t (ctR h c t).1)) → WW Z (qv (fun G' => (¬ G.1 100 53 = 0 ∧ G' = G) ∨ (G.1 100 53 = 0 ∧ gnJ G G' h c 300 300 ∧ EqQ (hMc h) (ctR h c 300).1 (mmF G')))) 126 [some (.ref (ad Z (100))), some (.int (nI t)), some (.int (nI m))] [] G3 := by
            intro k0
            induction k0 using Nat.strongRecOn with
            | _ k0 ih =>
              intro m G3 hk0 hm0 hj hE hV
              have hr3 := hj.rel hm
              refine r_iload2 (pc := 126) C dX9_goes_126 ?_
              refine r_aload0 (pc := 127) C dX9_goes_127 ?_
              refine gX9_317 (pc := 128) C dX9_goes_128 ?_
              refine r_eqi (y := nI (hMc h)) (by exact hr3.1) ?_
              refine r_icmp_ge (pc := 131) 166 C dX9_goes_131 (by decide) (fun c131 => ?_) (fun c131 => ?_)
              · obtain rfl : m = hMc h := by have := (nI_leI (by omega) (by omega)).mp c131; omega
                refine r_aload0 (pc := 166) C dX9_goes_166 ?_
                refine r_iload1 (pc := 167) C dX9_goes_167 ?_
                refine r_callVv (pc := 168) C rfl dX9_goes_168 kX9_362 gF9 jM (tX9_gives Z.1 C.w (F := f2R h c t) (ls := (ctR h c t).2.2.1) (ts := (ctR h c t).2.1) hr3 ht hV hE (lsOk_run t (by omega)) hj.2.2.2.2.1) rfl rfl (Nat.le_of_ble_eq_true rfl) (by decide) (fun G168 h168 => ?_)
                obtain ⟨f168, a168, b168, c168, d168, e168, q168⟩ := h168
                obtain ⟨j1, j2, j3, j4, j5, j6⟩ := hj
                refine r_iconst (pc := 171) (v := nI 0) C dX9_goes_171 (by decide) ?_
                refine r_istore2 (pc := 172) C dX9_goes_172 rfl ?_
                refine loop3 _ 0 G168 rfl (Nat.zero_le _) ⟨Fr.trans j1 (f168.mono vS_gn), fun q a b d => by rw [a168 q d]; exact j2 q a b d, by rw [a168 53 (by decide)]; exact j3, ?_, e168, fun u hu => ?_⟩ d168 q168 (iV_rv hh hV)
                · rw [b168, j4]; rfl
                · rw [c168 u (by omega)]
                  refine ⟨(j6 u hu).1, fun i hi j hj => ?_⟩
                  rw [f168.1 (54 + j) (by
                    intro z
                    unfold vS sMM mrL at z
                    simp only [List.mem_cons, List.not_mem_nil, or_false] at z
                    omega)]
                  exact (j6 u hu).2 i hi j hj
              · have hmb : m < hMc h := by
                  rcases Nat.lt_or_ge m (hMc h) with h | h
                  · exact h
                  · exact absurd (nI_le h (by omega)) c131
                have hm8 : m < 8 := by omega
                refine r_aload0 (pc := 134) C dX9_goes_134 ?_
                refine gX9_158 (pc := 135) C dX9_goes_135 ?_
                refine r_iload2 (pc := 138) C dX9_goes_138 ?_
                refine r_iald (pc := 139) (_) C dX9_goes_139 aM67 (rfl) (by omega) ?_
                have hqm := hE m hmb
                refine r_eqi (y := (itN (askS (hMc h) (nI t) (hLost h t) (hDown h t) (hAn h) (hAh h)) m (fPw h t (ctR h c t).1)) m 3) (by rw [mg67 hm8]; exact hqm.o 3) ?_
                refine r_iconst (pc := 140) (v := nI 1) C dX9_goes_140 (by decide) ?_
                refine r_icmp_ne (pc := 141) 160 C dX9_goes_141 (by decide) (fun c141 => ?_) (fun c141 => ?_)
                · refine r_iinc2 (pc := 160) (nI 1) C dX9_goes_160 (by decide) rfl ?_
                  rw [nI_add m 1]
                  refine r_goto (pc := 163) 126 C dX9_goes_163 (by decide) ?_
                  exact ih (hMc h - (m + 1)) (by omega) (m + 1) G3 rfl (by omega) (hj) (by rw [itN_s, askS, if_neg (fun z => c141 z.1)]; exact hE) (by rw [itN_s]; exact iV_askS hh t hmb hV)
                · refine r_aload0 (pc := 144) C dX9_goes_144 ?_
                  refine gX9_164 (pc := 145) C dX9_goes_145 ?_
                  refine r_iload2 (pc := 148) C dX9_goes_148 ?_
                  refine r_iald (pc := 149) (_) C dX9_goes_149 aM69 (rfl) (by omega) ?_
                  refine r_eqi (y := (itN (askS (hMc h) (nI t) (hLost h t) (hDown h t) (hAn h) (hAh h)) m (fPw h t (ctR h c t).1)) m 13) (by rw [mg69 hm8]; exact hqm.2.1 c141) ?_
                  refine r_iload1 (pc := 150) C dX9_goes_150 ?_
                  refine r_icmp_gt (pc := 151) 160 C dX9_goes_151 (by decide) (fun c151 => ?_) (fun c151 => ?_)
                  · refine r_iinc2 (pc := 160) (nI 1) C dX9_goes_160 (by decide) rfl ?_
                    rw [nI_add m 1]
                    refine r_goto (pc := 163) 126 C dX9_goes_163 (by decide) ?_
                    exact ih (hMc h - (m + 1)) (by omega) (m + 1) G3 rfl (by omega) (hj) (by rw [itN_s, askS, if_neg (fun z => z.2 c151)]; exact hE) (by rw [itN_s]; exact iV_askS hh t hmb hV)
                  · refine r_aload0 (pc := 154) C dX9_goes_154 ?_
                    refine r_iload2 (pc := 155) C dX9_goes_155 ?_
                    refine r_iload1 (pc := 156) C dX9_goes_156 ?_
                    refine r_callVv (pc := 157) C rfl dX9_goes_157 kX9_359 gF9 jM (tX9_question Z.1 C.w hr3 hx3 hmb ht (hE.kok hV.1.1) (by rw [hqm.o 3]; exact c141) (hqm.rn (hV.2 m hmb))) rfl rfl (Nat.le_of_ble_eq_true rfl) (by decide) (fun G157 h157 => ?_)
                    obtain ⟨f157, g157, m157⟩ := h157
                    refine r_iinc2 (pc := 160) (nI 1) C dX9_goes_160 (by decide) rfl ?_
                    rw [nI_add m 1]
                    refine r_goto (pc := 163) 126 C dX9_goes_163 (by decide) ?_
                    exact ih (hMc h - (m + 1)) (by omega) (m + 1) G157 rfl (by omega) (hj.st f157 g157) (by rw [itN_s, askS, if_pos ⟨c141, c151⟩, m157]; exact hE.up (fun _ => by rw [hqm.vq, hE.waits]; exact rQ_qs hqm c141)) (by rw [itN_s]; exact iV_askS hh t hmb hV)
          have loop1 : ∀ (k0 : Nat) (m : Nat) (G3 : gS), k0 = hMc h - m → m ≤ hMc h → gnJ G G3 h c t t → EqQ (hMc h) (itN (pwS (hCut h t) (hWk h) (nI t)) m (ctR h c t).1) (mmF G3) → iV h fc (itN (pwS (hCut h t) (hWk h) (nI t)) m (ctR h c t).1) → WW Z (qv (fun G' => (¬ G.1 100 53 = 0 ∧ G' = G) ∨ (G.1 100 53 = 0 ∧ gnJ G G' h c 300 300 ∧ EqQ (hMc h) (ctR h c 300).1 (mmF G')))) 104 [some (.ref (ad Z (100))), some (.int (nI t)), some (.int (nI m))] [] G3 := by
            intro k0
            induction k0 using Nat.strongRecOn with
            | _ k0 ih =>
              intro m G3 hk0 hm0 hj hE hV
              have hr3 := hj.rel hm
              refine r_iload2 (pc := 104) C dX9_goes_104 ?_
              refine r_aload0 (pc := 105) C dX9_goes_105 ?_
              refine gX9_317 (pc := 106) C dX9_goes_106 ?_
              refine r_eqi (y := nI (hMc h)) (by exact hr3.1) ?_
              refine r_icmp_ge (pc := 109) 124 C dX9_goes_109 (by decide) (fun c109 => ?_) (fun c109 => ?_)
              · obtain rfl : m = hMc h := by have := (nI_leI (by omega) (by omega)).mp c109; omega
                refine r_iconst (pc := 124) (v := nI 0) C dX9_goes_124 (by decide) ?_
                refine r_istore2 (pc := 125) C dX9_goes_125 rfl ?_
                exact loop2 _ 0 G3 rfl (Nat.zero_le _) hj hE hV
              · have hmb : m < hMc h := by
                  rcases Nat.lt_or_ge m (hMc h) with h | h
                  · exact h
                  · exact absurd (nI_le h (by omega)) c109
                have hm8 : m < 8 := by omega
                refine r_aload0 (pc := 112) C dX9_goes_112 ?_
                refine r_iload2 (pc := 113) C dX9_goes_113 ?_
                refine r_iload1 (pc := 114) C dX9_goes_114 ?_
                have hqm := hE m hmb
                refine r_callVv (pc := 115) C rfl dX9_goes_115 kX9_356 gF9 jM (tX9_powers Z.1 C.w hm8 ht (hr3.2.2.2.2.2.2.2.2.2.2.2.1 m hmb t ht).1 (hE.kok hV.1.1 m hmb) (fun z => ((hqm.rn (hV.2 m hmb)).1 (by rw [z]; decide)).1)) rfl rfl (Nat.le_of_ble_eq_true rfl) (by decide) (fun G115 h115 => ?_)
                obtain ⟨f115, m115⟩ := h115
                refine r_iinc2 (pc := 118) (nI 1) C dX9_goes_118 (by decide) rfl ?_
                rw [nI_add m 1]
                refine r_goto (pc := 121) 104 C dX9_goes_121 (by decide) ?_
                exact ih (hMc h - (m + 1)) (by omega) (m + 1) G115 rfl (by omega) (hj.mm f115) (by
                  rw [itN_s, pwS, m115]
                  refine hE.up (fun _ => ?_)
                  rw [hqm.kn, hr3.2.2.2.2.2.2.2.2.2.2.1 _ (hV.1.1 m hmb).2]
                  exact rQ_pw hqm) (by rw [itN_s]; exact iV_pwS t hmb hV)
          refine r_iconst (pc := 102) (v := nI 0) C dX9_goes_102 (by decide) ?_
          refine r_istore2 (pc := 103) C dX9_goes_103 rfl ?_
          exact loop1 _ 0 G1 rfl (Nat.zero_le _) hJ hE (iV_run hh hk t)
    have loop8 : ∀ (k0 : Nat) (k : Nat) (G1 : gS), k0 = 8 - k → k ≤ 8 → Fr (fun q => sMM q ∨ q = 65) (sI (sI G 100 53 (nI 1)) 100 66 (nI 0)) G1 → (∀ b, b < 72 → G1.1 65 b = nI 0) → ((∀ i, i < k → mmF G1 i = mReset (mmF G i)) ∧ ∀ i, k ≤ i → mmF G1 i = mmF G i) → WW Z (qv (fun G' => (¬ G.1 100 53 = 0 ∧ G' = G) ∨ (G.1 100 53 = 0 ∧ gnJ G G' h c 300 300 ∧ EqQ (hMc h) (ctR h c 300).1 (mmF G')))) 41 [some (.ref (ad Z (100))), some (.int (nI k)), none] [] G1 := by
      intro k0
      induction k0 using Nat.strongRecOn with
      | _ k0 ih =>
        intro k G1 hk0 hkk hf h65 hrw
        refine r_iload1 (pc := 41) C dX9_goes_41 ?_
        refine r_bipush (pc := 42) (v := nI 8) C dX9_goes_42 (by decide) ?_
        refine r_icmp_ge (pc := 44) 93 C dX9_goes_44 (by decide) (fun c44 => ?_) (fun c44 => ?_)
        · obtain rfl : k = 8 := by have := (nI_leI (by omega) (by omega)).mp c44; omega
          refine r_iconst (pc := 93) (v := nI 0) C dX9_goes_93 (by decide) ?_
          refine r_istore1 (pc := 94) C dX9_goes_94 rfl ?_
          refine loopT _ 0 _ G1 rfl (Nat.zero_le _) ⟨Fr.trans ((Fr.refl.sI (by unfold gnS; simp)).sI (by unfold gnS; simp)) (hf.mono (fun q h => by rcases h with h | h; exact Or.inl h; (unfold gnS; omega))), fun q a b d => ?_, ?_, ?_, fun b hb => ?_, fun u hu => absurd hu (Nat.not_lt_zero u)⟩ (fun i hi => ?_)
          · rw [hf.1 100 (by unfold sMM; decide), sI_s, upd_o d, sI_s, upd_o b]
          · rw [hf.1 100 (by unfold sMM; decide), sI_s, upd_o (by decide), sI_s, upd_s]
          · rw [hf.1 100 (by unfold sMM; decide), sI_s, upd_s]; rfl
          · rw [h65 b hb]
            show nI 0 = fillR _ _ _ b
            unfold fillR
            rw [if_pos hb]
          · have h8 : hMc h ≤ 8 := hm.2.1
            rw [hrw.1 i (by omega)]
            show rQ (itN _ (hMc h) c.1 i) _
            rw [rs_at hi]
            exact rQ_reset (fun k hk => h3 i hi k hk)
        · have hk8 : k < 8 := by
            rcases Nat.lt_or_ge k 8 with h | h
            · exact h
            · exact absurd (nI_le h (by omega)) c44
          refine r_aload0 (pc := 47) C dX9_goes_47 ?_
          refine gX9_158 (pc := 48) C dX9_goes_48 ?_
          refine r_iload1 (pc := 51) C dX9_goes_51 ?_
          refine r_iconst (pc := 52) (v := nI 0) C dX9_goes_52 (by decide) ?_
          refine r_iast (pc := 53) (_) C dX9_goes_53 aM67 (rfl) (by omega) ?_
          refine r_aload0 (pc := 54) C dX9_goes_54 ?_
          refine gX9_161 (pc := 55) C dX9_goes_55 ?_
          refine r_iload1 (pc := 58) C dX9_goes_58 ?_
          refine r_iconst (pc := 59) (v := nI 0) C dX9_goes_59 (by decide) ?_
          refine r_iast (pc := 60) (_) C dX9_goes_60 aM68 (rfl) (by omega) ?_
          refine r_aload0 (pc := 61) C dX9_goes_61 ?_
          refine gX9_176 (pc := 62) C dX9_goes_62 ?_
          refine r_iload1 (pc := 65) C dX9_goes_65 ?_
          refine r_iconst (pc := 66) (v := (-1)) C dX9_goes_66 (by decide) ?_
          refine r_iast (pc := 67) (_) C dX9_goes_67 aM73 (rfl) (by omega) ?_
          refine r_aload0 (pc := 68) C dX9_goes_68 ?_
          refine gX9_191 (pc := 69) C dX9_goes_69 ?_
          refine r_iload1 (pc := 72) C dX9_goes_72 ?_
          refine r_iconst (pc := 73) (v := nI 0) C dX9_goes_73 (by decide) ?_
          refine r_iast (pc := 74) (_) C dX9_goes_74 aM78 (rfl) (by omega) ?_
          refine r_aload0 (pc := 75) C dX9_goes_75 ?_
          refine gX9_179 (pc := 76) C dX9_goes_76 ?_
          refine r_iload1 (pc := 79) C dX9_goes_79 ?_
          refine r_iconst (pc := 80) (v := nI 0) C dX9_goes_80 (by decide) ?_
          refine r_iast (pc := 81) (_) C dX9_goes_81 aM74 (rfl) (by omega) ?_
          refine r_aload0 (pc := 82) C dX9_goes_82 ?_
          refine r_iload1 (pc := 83) C dX9_goes_83 ?_
          refine r_callVv (pc := 84) C rfl dX9_goes_84 kX9_353 gF9 jM (tX9_clears Z.1 C.w hk8) rfl rfl (Nat.le_of_ble_eq_true rfl) (by decide) (fun G84 h84 => ?_)
          obtain ⟨f84, m84⟩ := h84
          refine r_iinc1 (pc := 87) (nI 1) C dX9_goes_87 (by decide) rfl ?_
          rw [nI_add]
          refine r_goto (pc := 90) 41 C dX9_goes_90 (by decide) ?_
          exact ih (8 - (k + 1)) (by omega) (k + 1) _ rfl (by omega) (Fr.trans (((((hf.sI (Or.inl sM67)).sI (Or.inl sM68)).sI (Or.inl sM73)).sI (Or.inl sM78)).sI (Or.inl sM74)) (f84.mono (fun _ h => Or.inl h))) (fun b hb => by rw [f84.1 65 (by unfold sMM; decide), sI_o (by decide), sI_o (by decide), sI_o (by decide), sI_o (by decide), sI_o (by decide)]; exact h65 b hb) (by
            rw [m84, mm74 hk8, mm78 hk8, mm73 hk8, mm68 hk8, mm67 hk8]
            simp only [va_up_self, bx_uu]
            rw [mRst_eq]
            refine ⟨fun i hi => ?_, fun i hi => ?_⟩
            · by_cases e : i = k
              · subst e; rw [va_up_self, hrw.2 i (Nat.le_refl i)]
              · rw [va_up_ne _ _ e]; exact hrw.1 i (by omega)
            · rw [va_up_ne _ _ (show i ≠ k by omega)]; exact hrw.2 i (by omega))
    have loop72 : ∀ (k0 : Nat) (k : Nat) (G1 : gS), k0 = 72 - k → k ≤ 72 → Fr (fun q => q = 65) (sI (sI G 100 53 (nI 1)) 100 66 (nI 0)) G1 → (∀ b, b < k → G1.1 65 b = nI 0) → WW Z (qv (fun G' => (¬ G.1 100 53 = 0 ∧ G' = G) ∨ (G.1 100 53 = 0 ∧ gnJ G G' h c 300 300 ∧ EqQ (hMc h) (ctR h c 300).1 (mmF G')))) 20 [some (.ref (ad Z (100))), some (.int (nI k)), none] [] G1 := by
      intro k0
      induction k0 using Nat.strongRecOn with
      | _ k0 ih =>
        intro k G1 hk0 hkk hf h65
        refine r_iload1 (pc := 20) C dX9_goes_20 ?_
        refine r_bipush (pc := 21) (v := nI 72) C dX9_goes_21 (by decide) ?_
        refine r_icmp_ge (pc := 23) 39 C dX9_goes_23 (by decide) (fun c23 => ?_) (fun c23 => ?_)
        · obtain rfl : k = 72 := by have := (nI_leI (by omega) (by omega)).mp c23; omega
          refine r_iconst (pc := 39) (v := nI 0) C dX9_goes_39 (by decide) ?_
          refine r_istore1 (pc := 40) C dX9_goes_40 rfl ?_
          exact loop8 _ 0 G1 rfl (Nat.zero_le _) (hf.mono (fun q h => Or.inr h)) h65 ⟨fun i hi => absurd hi (Nat.not_lt_zero i), fun i _ => by rw [mmF_fr hf (by decide +kernel), mmF_o (by decide), mmF_o (by decide)]⟩
        · have hk72 : k < 72 := by
            rcases Nat.lt_or_ge k 72 with h | h
            · exact h
            · exact absurd (nI_le h (by omega)) c23
          refine r_aload0 (pc := 26) C dX9_goes_26 ?_
          refine gX9_155 (pc := 27) C dX9_goes_27 ?_
          refine r_iload1 (pc := 30) C dX9_goes_30 ?_
          refine r_iconst (pc := 31) (v := nI 0) C dX9_goes_31 (by decide) ?_
          refine r_iast (pc := 32) (_) C dX9_goes_32 aM65 (rfl) (by omega) ?_
          refine r_iinc1 (pc := 33) (nI 1) C dX9_goes_33 (by decide) rfl ?_
          rw [nI_add]
          refine r_goto (pc := 36) 20 C dX9_goes_36 (by decide) ?_
          exact ih (72 - (k + 1)) (by omega) (k + 1) _ rfl (by omega) (hf.sI rfl) (fun b hb => by
            rw [sI_s]
            by_cases e : b = k
            · subst e; rw [upd_s]
            · rw [upd_o e]; exact h65 b (by omega))
    refine r_aload0 (pc := 8) C dX9_goes_8 ?_
    refine r_iconst (pc := 9) (v := nI 1) C dX9_goes_9 (by decide) ?_
    refine pX9_290 (pc := 10) C dX9_goes_10 rfl rfl ?_
    refine r_aload0 (pc := 13) C dX9_goes_13 ?_
    refine r_iconst (pc := 14) (v := nI 0) C dX9_goes_14 (by decide) ?_
    refine pX9_350 (pc := 15) C dX9_goes_15 ?_
    refine r_iconst (pc := 18) (v := nI 0) C dX9_goes_18 (by decide) ?_
    refine r_istore1 (pc := 19) C dX9_goes_19 rfl ?_
    exact loop72 _ 0 _ rfl (Nat.zero_le _) Fr.refl (fun b hb => absurd hb (Nat.not_lt_zero b))
  · exact r_return (pc := 7) C dX9_goes_7 (Or.inl ⟨c4, rfl⟩)
