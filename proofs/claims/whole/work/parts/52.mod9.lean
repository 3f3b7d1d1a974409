/-! the reference: a plan -/
theorem relM.wk {S : Nat → Prop} {G G' : gS} {h : hQ} {fc wd : Nat} {w : Nat → Int32} (hm : relM G h fc wd) (hF : Fr S G G') (hS : ∀ r, relS r → r ≠ 40 → ¬ S r) (h1 : ∀ q, q ≠ 52 → q ≠ 53 → q ≠ 66 → G'.1 100 q = G.1 100 q) (hw : ∀ k, k < 4 → G'.1 40 k = w k) : relM G' (hW h w) fc wd := by
  obtain ⟨a1, a2, a3, a4, a5, a6, a7, a8, a9, b1, b2, b3, b4, b5, b6⟩ := hm
  have e42 := hF.1 _ (hS 42 (by unfold relS; omega) (by decide))
  have e43 := hF.1 _ (hS 43 (by unfold relS; omega) (by decide))
  have e46 := hF.1 _ (hS 46 (by unfold relS; omega) (by decide))
  have e47 := hF.1 _ (hS 47 (by unfold relS; omega) (by decide))
  have e48 := hF.1 _ (hS 48 (by unfold relS; omega) (by decide))
  have e49 := hF.1 _ (hS 49 (by unfold relS; omega) (by decide))
  unfold relM
  rw [h1 36 (by decide) (by decide) (by decide), h1 41 (by decide) (by decide) (by decide), h1 44 (by decide) (by decide) (by decide), e42, e43, e46, e47, e48, e49]
  refine ⟨a1, a2, a3, a4, a5, a6, a7, a8, a9, b1, hw, b3, b4, b5, fun k hk => ?_⟩
  obtain ⟨h1, lv, n, aft, num, rels, h2, h3, h4, h5⟩ := b6 k hk
  refine ⟨h1, lv, n, aft, num, rels, ?_, h3, h4.fr hF (fun k a b => hS k (Or.inr (Or.inl ⟨a, b⟩)) (by omega)), h5⟩
  rw [hF.1 _ (hS 18 (Or.inl rfl) (by decide))]
  exact h2
def plG (q : Nat) : Prop := gnS q ∨ q = 40 ∨ q = 82
theorem relS_pl : ∀ r, relS r → r ≠ 40 → ¬ plG r := by
  intro r h1 h2 h3
  rcases h3 with h3 | h3
  · exact relS_gn r h1 h3
  · unfold relS at h1; omega
def hasN (F : Nat → Nat → Int32) : Nat → Int32
  | 0 => nI 0
  | n + 1 => hasN F n ||| (nI 1 <<< (F n 0 &&& 31))
theorem hasN_bt {F : Nat → Nat → Int32} {k : Nat} (hk : k < 4) : ∀ {n : Nat}, kOk n F → bt (hasN F n) k = hasK n F (nI k)
  | 0, _ => by show Nat.testBit _ k = false; simp [hasN, show (nI 0).toBitVec.toNat = 0 from rfl]
  | n + 1, h => by
    have h0 := h n (Nat.lt_succ_self n)
    rw [hasN, h0.1, bt_set _ (by omega), hasN_bt hk (fun i hi => h i (by omega))]
    show _ = (anyN (fun i => F i 0 == nI k) n || (F n 0 == nI k))
    congr 1
    rw [h0.1]
    by_cases e : k = kN (F n)
    · subst e; simp
    · rw [decide_eq_false e, beq_false_of_ne (fun z => e ((nI_eq (by omega) (by omega)).mp z).symm)]
theorem stp_eq {w k : Nat} (hw : w < 256) (hk : k < 4) : (nI w >>> ((nI 6 - nI (2 * k)) &&& 31)) &&& nI 3 = nI (stp w k) := by
  have e : nI 6 - nI (2 * k) = nI (6 - 2 * k) := pk_sub (by omega)
  rw [e, pk_shrN (by omega) _ (6 - 2 * k) (smod32 (by omega)), pk_andN (Nat.lt_of_le_of_lt (Nat.div_le_self _ _) (by omega)) 2 (by decide)]
  unfold stp
  rcases (show k = 0 ∨ k = 1 ∨ k = 2 ∨ k = 3 by omega) with rfl | rfl | rfl | rfl <;> rfl
theorem stp_lt (w k : Nat) : stp w k < 4 := Nat.mod_lt _ (by decide)
noncomputable def plN (h : hQ) (s : Int32) (c : rC) (w : Nat) : rC × Nat × Int32 × Int32 := itN (plS h s) w (c, 0, 1000000000, nI 300)
/-- the best so far, in the reference's numbers -/
def plB (G1 : gS) (h : hQ) (s : Int32) (c : rC) (w : Nat) (bu be bs : Int32) : Prop := (w = 0 ∧ bu = -1 ∧ be = nI 0 ∧ bs = nI 0) ∨ (∃ u e z, bu = nI u ∧ be = nI e ∧ bs = nI z ∧ u ≤ hMc h ∧ e ≤ 300 ∧ z ≤ 2400 ∧ (plN h s c w).2.2.1 = nI (cstN (hMc h) u e z) ∧ (plN h s c w).2.2.2 = nI e ∧ ∀ k, k < 4 → G1.1 82 k = nI (stp (plN h s c w).2.1 k) * s)
def plI (G G1 : gS) (h : hQ) (s : Int32) (c : rC) (w : Nat) : Prop := Fr plG G G1 ∧ (∀ q, q ≠ 52 → q ≠ 53 → q ≠ 66 → G1.1 100 q = G.1 100 q) ∧ (∀ i, i < hMc h → ∀ k, k < 3 → mmF G1 i k = (plN h s c w).1.1 i k) ∧ K3 c.1 (plN h s c w).1.1
theorem K3.kok {F F' : Nat → Nat → Int32} {n : Nat} (h : K3 F F') (k : kOk n F) : kOk n F' := by
  intro i hi
  have e : F' i 0 = F i 0 := (h i).1
  unfold kN
  rw [e]
  exact k i hi
theorem badW_k {F F' : Nat → Nat → Int32} {mc : Nat} (h : K3 F F') (c n : Nat) : badW mc F' c n = badW mc F c n := badW_cong (fun i _ => (h i).1) c n
theorem plN_bad {h : hQ} {s : Int32} {c : rC} {w : Nat} (hK : K3 c.1 (plN h s c w).1.1) (hb : badW (hMc h) c.1 w 4 = true) : plN h s c (w + 1) = plN h s c w := by
  show plS h s w (plN h s c w) = _
  unfold plS
  rw [if_pos (by rw [badW_k hK]; exact hb)]
theorem plN_good {h : hQ} {s : Int32} {c : rC} {w : Nat} (hK : K3 c.1 (plN h s c w).1.1) (hb : badW (hMc h) c.1 w 4 = false) : plN h s c (w + 1) = if costF (hMc h) (ctR (hW h (wkRow w s (hWk h) 4)) (plN h s c w).1 300) < (plN h s c w).2.2.1 then (ctR (hW h (wkRow w s (hWk h) 4)) (plN h s c w).1 300, w, costF (hMc h) (ctR (hW h (wkRow w s (hWk h) 4)) (plN h s c w).1 300), endF (hMc h) (ctR (hW h (wkRow w s (hWk h) 4)) (plN h s c w).1 300)) else (ctR (hW h (wkRow w s (hWk h) 4)) (plN h s c w).1 300, (plN h s c w).2) := by
  show plS h s w (plN h s c w) = _
  unfold plS
  rw [if_neg (by rw [badW_k hK, hb]; decide)]
  rfl
theorem plN_1 {h : hQ} {s : Int32} {c : rC} {w : Nat} (hK : K3 c.1 (plN h s c w).1.1) (hb : badW (hMc h) c.1 w 4 = false) : (plN h s c (w + 1)).1 = ctR (hW h (wkRow w s (hWk h) 4)) (plN h s c w).1 300 := by
  rw [plN_good hK hb]
  split <;> rfl
set_option maxHeartbeats 4000000 in
set_option maxRecDepth 100000 in
theorem tX9_plan (Y : gY) (hY : Y.2.2.2 = wM) {G : gS} {h : hQ} {fc wd : Nat} {c : rC} (hm : relM G h fc wd) (hh : hOk h fc) (hx3 : ∀ k, k < 2 → ∀ v, hAn h k v = -1 ∨ hAn h k v = -2 ∨ 0 ≤ hAn h k v) (hk : kOk (hMc h) c.1) (h3 : ∀ i, i < hMc h → ∀ k, k < 3 → mmF G i k = c.1 i k) {s : Int32} : ∀ l : Launch, gM Y l yX9_plan cX9_plan 11 (some .int) (6, 146) [.ref (Y.2.1 (100)), .int (s)] G (qi (fun r G' => if ¬ s < nI 1 ∧ ¬ nI 20 < s then (r = (if nI 300 ≤ (plN h s c 256).2.2.2 then -1 else (plN h s c 256).2.2.2) ∧ Fr plG G G' ∧ (∀ q, q ≠ 52 → q ≠ 53 → q ≠ 66 → G'.1 100 q = G.1 100 q) ∧ G'.1 100 53 = nI 0 ∧ (∀ k, k < 4 → G'.1 40 k = wkRow (plN h s c 256).2.1 s (hWk h) 4 k) ∧ (∀ i, i < hMc h → ∀ k, k < 3 → mmF G' i k = (plN h s c 256).1.1 i k)) else (r = -2 ∧ G' = G))) := by
  intro l
  refine gM_of hY rfl (Nat.le_of_ble_eq_true rfl) [some (.ref (Y.2.1 (100))), some (.int (s)), none, none, none, none, none, none, none, none, none] rfl rfl ?_
  rintro Z rfl C
  have hM8 : hMc h ≤ 8 := hm.2.1
  refine r_iload1 (pc := 0) C dX9_plan_0 ?_
  refine r_iconst (pc := 1) (v := nI 1) C dX9_plan_1 (by decide) ?_
  refine r_icmp_lt (pc := 2) 11 C dX9_plan_2 (by decide) (fun c2 => ?_) (fun c2 => ?_)
  · refine r_bipush (pc := 11) (v := (-2)) C dX9_plan_11 (by decide) ?_
    exact r_ireturn (pc := 13) C dX9_plan_13 (by rw [if_neg (fun z => z.1 c2)]; exact ⟨rfl, rfl⟩)
  · refine r_iload1 (pc := 5) C dX9_plan_5 ?_
    refine r_bipush (pc := 6) (v := nI 20) C dX9_plan_6 (by decide) ?_
    refine r_icmp_le (pc := 8) 14 C dX9_plan_8 (by decide) (fun c8 => ?_) (fun c8 => ?_)
    · have dc : ¬ s < nI 1 ∧ ¬ nI 20 < s := ⟨c2, Int32.not_lt.mpr c8⟩
      simp only [if_pos dc]
      have loopW : ∀ (k0 : Nat) (w : Nat) (bu be bs : Int32) (o7 o8 o9 o10 : Option Value) (G1 : gS), k0 = 256 - w → w ≤ 256 → plI G G1 h s c w → plB G1 h s c w bu be bs → WW Z (qi (fun r G' => r = (if nI 300 ≤ (plN h s c 256).2.2.2 then -1 else (plN h s c 256).2.2.2) ∧ Fr plG G G' ∧ (∀ q, q ≠ 52 → q ≠ 53 → q ≠ 66 → G'.1 100 q = G.1 100 q) ∧ G'.1 100 53 = nI 0 ∧ (∀ k, k < 4 → G'.1 40 k = wkRow (plN h s c 256).2.1 s (hWk h) 4 k) ∧ (∀ i, i < hMc h → ∀ k, k < 3 → mmF G' i k = (plN h s c 256).1.1 i k))) 54 [some (.ref (ad Z (100))), some (.int (s)), some (.int (hasN c.1 (hMc h))), some (.int (bu)), some (.int (be)), some (.int (bs)), some (.int (nI w)), o7, o8, o9, o10] [] G1 := by
        intro k0
        induction k0 using Nat.strongRecOn with
        | _ k0 ih =>
          intro w bu be bs o7 o8 o9 o10 G1 hk0 hw0 hI hB
          refine r_iload6 (pc := 54) C dX9_plan_54 ?_
          refine r_sipush (pc := 56) (v := nI 256) C dX9_plan_56 (by decide) ?_
          refine r_icmp_ge (pc := 59) 257 C dX9_plan_59 (by decide) (fun c59 => ?_) (fun c59 => ?_)
          · obtain rfl : w = 256 := by have := (nI_leI (by omega) (by omega)).mp c59; omega
            obtain ⟨i1, i2, i3, i4⟩ := hI
            obtain ⟨u, e, z, rfl, rfl, rfl, b4, b5, b6, b7, b8, b9⟩ : ∃ u e z, bu = nI u ∧ be = nI e ∧ bs = nI z ∧ u ≤ hMc h ∧ e ≤ 300 ∧ z ≤ 2400 ∧ (plN h s c 256).2.2.1 = nI (cstN (hMc h) u e z) ∧ (plN h s c 256).2.2.2 = nI e ∧ ∀ k, k < 4 → G1.1 82 k = nI (stp (plN h s c 256).2.1 k) * s := by
              rcases hB with ⟨z, -⟩ | z
              · cases z
              · exact z
            have loopF : ∀ (k0 : Nat) (k : Nat) (G2 : gS), k0 = 4 - k → k ≤ 4 → Fr (fun q => q = 40) G1 G2 → (∀ j, j < k → G2.1 40 j = G1.1 82 j) → WW Z (qi (fun r G' => r = (if nI 300 ≤ (plN h s c 256).2.2.2 then -1 else (plN h s c 256).2.2.2) ∧ Fr plG G G' ∧ (∀ q, q ≠ 52 → q ≠ 53 → q ≠ 66 → G'.1 100 q = G.1 100 q) ∧ G'.1 100 53 = nI 0 ∧ (∀ k, k < 4 → G'.1 40 k = wkRow (plN h s c 256).2.1 s (hWk h) 4 k) ∧ (∀ i, i < hMc h → ∀ k, k < 3 → mmF G' i k = (plN h s c 256).1.1 i k))) 260 [some (.ref (ad Z (100))), some (.int (s)), some (.int (hasN c.1 (hMc h))), some (.int (nI u)), some (.int (nI e)), some (.int (nI z)), some (.int (nI k)), o7, o8, o9, o10] [] G2 := by
              intro k0
              induction k0 using Nat.strongRecOn with
              | _ k0 ih =>
                intro k G2 hk0 hkk hf h40
                refine r_iload6 (pc := 260) C dX9_plan_260 ?_
                refine r_iconst (pc := 262) (v := nI 4) C dX9_plan_262 (by decide) ?_
                refine r_icmp_ge (pc := 263) 286 C dX9_plan_263 (by decide) (fun c263 => ?_) (fun c263 => ?_)
                · obtain rfl : k = 4 := by have := (nI_leI (by omega) (by omega)).mp c263; omega
                  refine r_aload0 (pc := 286) C dX9_plan_286 ?_
                  refine r_iconst (pc := 287) (v := nI 0) C dX9_plan_287 (by decide) ?_
                  refine pX9_290 (pc := 288) C dX9_plan_288 rfl rfl ?_
                  refine r_iload4 (pc := 291) C dX9_plan_291 ?_
                  refine r_sipush (pc := 293) (v := nI 300) C dX9_plan_293 (by decide) ?_
                  refine r_icmp_ne (pc := 296) 303 C dX9_plan_296 (by decide) (fun c296 => ?_) (fun c296 => ?_)
                  · refine r_iload4 (pc := 303) C dX9_plan_303 ?_
                    exact r_ireturn (pc := 305) C dX9_plan_305 (by
                  refine ⟨?_, Fr.trans i1 ((hf.mono (fun q h => Or.inr (Or.inl h))).sI (Or.inl (by unfold gnS; simp))), fun q a b d => by rw [sI_s, upd_o b, hf.1 100 (by decide)]; exact i2 q a b d, by rw [sI_s, upd_s], fun k hk => ?_, fun i hi k hk => ?_⟩
                  · rw [b8]
                    rw [if_neg (fun z => c296 (by have := (nI_leI (by decide) (by omega)).mp z; rw [show e = 300 by omega]))]
                  · rw [sI_o (by decide), h40 k hk, b9 k hk]
                    unfold wkRow
                    rw [if_pos hk]
                  · rw [mmF_o (by decide), mmF_fr hf (by decide +kernel)]
                    exact i3 i hi k hk)
                  · refine r_iconst (pc := 299) (v := (-1)) C dX9_plan_299 (by decide) ?_
                    refine r_goto (pc := 300) 305 C dX9_plan_300 (by decide) ?_
                    exact r_ireturn (pc := 305) C dX9_plan_305 (by
                  refine ⟨?_, Fr.trans i1 ((hf.mono (fun q h => Or.inr (Or.inl h))).sI (Or.inl (by unfold gnS; simp))), fun q a b d => by rw [sI_s, upd_o b, hf.1 100 (by decide)]; exact i2 q a b d, by rw [sI_s, upd_s], fun k hk => ?_, fun i hi k hk => ?_⟩
                  · rw [b8]
                    rw [(nI_eq (by omega) (by decide)).mp c296, if_pos (Int32.le_refl _)]
                  · rw [sI_o (by decide), h40 k hk, b9 k hk]
                    unfold wkRow
                    rw [if_pos hk]
                  · rw [mmF_o (by decide), mmF_fr hf (by decide +kernel)]
                    exact i3 i hi k hk)
                · have hkb : k < 4 := by
                    rcases Nat.lt_or_ge k 4 with h | h
                    · exact h
                    · exact absurd (nI_le h (by omega)) c263
                  refine r_aload0 (pc := 266) C dX9_plan_266 ?_
                  refine gX9_95 (pc := 267) C dX9_plan_267 ?_
                  refine r_iload6 (pc := 270) C dX9_plan_270 ?_
                  refine r_aload0 (pc := 272) C dX9_plan_272 ?_
                  refine gX9_203 (pc := 273) C dX9_plan_273 ?_
                  refine r_iload6 (pc := 276) C dX9_plan_276 ?_
                  refine r_iald (pc := 278) (_) C dX9_plan_278 aM82 (rfl) (by omega) ?_
                  refine r_eqi (y := G1.1 82 k) (by rw [hf.1 82 (by decide)]) ?_
                  refine r_iast (pc := 279) (_) C dX9_plan_279 aM40 (rfl) (by omega) ?_
                  refine r_iinc6 (pc := 280) (nI 1) C dX9_plan_280 (by decide) rfl ?_
                  rw [nI_add]
                  refine r_goto (pc := 283) 260 C dX9_plan_283 (by decide) ?_
                  exact ih (4 - (k + 1)) (by omega) (k + 1) _ rfl (by omega) (hf.sI rfl) (fun j hj => by
                    rw [sI_s]
                    by_cases e : j = k
                    · subst e; rw [upd_s]
                    · rw [upd_o e]; exact h40 j (by omega))
            refine r_iconst (pc := 257) (v := nI 0) C dX9_plan_257 (by decide) ?_
            refine r_istore6 (pc := 258) C dX9_plan_258 rfl ?_
            exact loopF _ 0 G1 rfl (by omega) Fr.refl (fun j hj => absurd hj (Nat.not_lt_zero j))
          · have hwb : w < 256 := by
              rcases Nat.lt_or_ge w 256 with h | h
              · exact h
              · exact absurd (nI_le h (by omega)) c59
            have ihW := ih
            obtain ⟨i1, i2, i3, i4⟩ := hI
            have loopK : ∀ (k0 : Nat) (k : Nat) (y : Int32) (o9 : Option Value) (G2 : gS), k0 = 4 - k → k ≤ 4 → Fr (fun q => q = 40) G1 G2 → (∀ j, j < k → G2.1 40 j = nI (stp w j) * s) → y = bI (!badW (hMc h) c.1 w k) → WW Z (qi (fun r G' => r = (if nI 300 ≤ (plN h s c 256).2.2.2 then -1 else (plN h s c 256).2.2.2) ∧ Fr plG G G' ∧ (∀ q, q ≠ 52 → q ≠ 53 → q ≠ 66 → G'.1 100 q = G.1 100 q) ∧ G'.1 100 53 = nI 0 ∧ (∀ k, k < 4 → G'.1 40 k = wkRow (plN h s c 256).2.1 s (hWk h) 4 k) ∧ (∀ i, i < hMc h → ∀ k, k < 3 → mmF G' i k = (plN h s c 256).1.1 i k))) 68 [some (.ref (ad Z (100))), some (.int (s)), some (.int (hasN c.1 (hMc h))), some (.int (bu)), some (.int (be)), some (.int (bs)), some (.int (nI w)), some (.int (y)), some (.int (nI k)), o9, o10] [] G2 := by
              intro k0
              induction k0 using Nat.strongRecOn with
              | _ k0 ih =>
                intro k y o9 G2 hk0 hkk hf hk40 hy
                refine r_iload8 (pc := 68) C dX9_plan_68 ?_
                refine r_iconst (pc := 70) (v := nI 4) C dX9_plan_70 (by decide) ?_
                refine r_icmp_ge (pc := 71) 132 C dX9_plan_71 (by decide) (fun c71 => ?_) (fun c71 => ?_)
                · obtain rfl : k = 4 := by have := (nI_leI (by omega) (by omega)).mp c71; omega
                  refine r_iload7 (pc := 132) C dX9_plan_132 ?_
                  refine r_if_ne (pc := 134) 140 C dX9_plan_134 (by decide) (fun c134 => ?_) (fun c134 => ?_)
                  · have hbad : badW (hMc h) c.1 w 4 = false := by
                      have := bI_n.mp (hy ▸ c134)
                      simpa using this
                    have hw40 : ∀ k, k < 4 → G2.1 40 k = wkRow w s (hWk h) 4 k := fun k hk => by
                      rw [hk40 k hk]; unfold wkRow; rw [if_pos hk]
                    have cmp : ∀ (o7 o10 : Option Value) (u2 e2 z2 : Nat) (G4 : gS), Fr plG G G4 → (∀ q, q ≠ 52 → q ≠ 53 → q ≠ 66 → G4.1 100 q = G.1 100 q) → (∀ i, i < hMc h → ∀ k, k < 3 → mmF G4 i k = (plN h s c (w + 1)).1.1 i k) → K3 c.1 (plN h s c (w + 1)).1.1 → (∀ k, k < 4 → G4.1 40 k = wkRow w s (hWk h) 4 k) → G4.1 82 = G1.1 82 → u2 ≤ hMc h → e2 ≤ 300 → z2 ≤ 2400 → costF (hMc h) (ctR (hW h (wkRow w s (hWk h) 4)) (plN h s c w).1 300) = nI (cstN (hMc h) u2 e2 z2) → endF (hMc h) (ctR (hW h (wkRow w s (hWk h) 4)) (plN h s c w).1 300) = nI e2 → G4.1 100 66 = nI z2 → WW Z (qi (fun r G' => r = (if nI 300 ≤ (plN h s c 256).2.2.2 then -1 else (plN h s c 256).2.2.2) ∧ Fr plG G G' ∧ (∀ q, q ≠ 52 → q ≠ 53 → q ≠ 66 → G'.1 100 q = G.1 100 q) ∧ G'.1 100 53 = nI 0 ∧ (∀ k, k < 4 → G'.1 40 k = wkRow (plN h s c 256).2.1 s (hWk h) 4 k) ∧ (∀ i, i < hMc h → ∀ k, k < 3 → mmF G' i k = (plN h s c 256).1.1 i k))) 171 [some (.ref (ad Z (100))), some (.int (s)), some (.int (hasN c.1 (hMc h))), some (.int (bu)), some (.int (be)), some (.int (bs)), some (.int (nI w)), o7, some (.int (nI u2)), some (.int (nI e2)), o10] [] G4 := by
                      intro o7 o10 u2 e2 z2 G4 n1 n2 n3 n4 n5 n6 q1 q2 q3 q4c q5c q6
                      rcases hB with ⟨hw0, rfl, rfl, rfl⟩ | ⟨u, e, z, rfl, rfl, rfl, b4, b5, b6, b7, b8, b9⟩
                      · refine r_iload8 (pc := 171) C dX9_plan_171 ?_
                        refine r_iload3 (pc := 173) C dX9_plan_173 ?_
                        refine r_icmp_lt (pc := 174) 251 C dX9_plan_174 (by decide) (fun c174 => ?_) (fun c174 => ?_)
                        · exact absurd c174 (fun q => nI_pos (n := u2) (by omega) (Int32.lt_trans q (by decide)))
                        refine r_iload8 (pc := 177) C dX9_plan_177 ?_
                        refine r_iload3 (pc := 179) C dX9_plan_179 ?_
                        refine r_icmp_ne (pc := 180) 209 C dX9_plan_180 (by decide) (fun c180 => ?_) (fun c180 => ?_)
                        rotate_left
                        · exact absurd c180 (nI_m1 (by omega))
                        refine r_iload8 (pc := 209) C dX9_plan_209 ?_
                        refine r_istore3 (pc := 211) C dX9_plan_211 rfl ?_
                        refine r_iload9 (pc := 212) C dX9_plan_212 ?_
                        refine r_istore4 (pc := 214) C dX9_plan_214 rfl ?_
                        refine r_aload0 (pc := 216) C dX9_plan_216 ?_
                        refine gX9_350 (pc := 217) C dX9_plan_217 ?_
                        refine r_eqi (y := nI z2) q6 ?_
                        refine r_istore5 (pc := 220) C dX9_plan_220 rfl ?_
                        refine r_iconst (pc := 222) (v := nI 0) C dX9_plan_222 (by decide) ?_
                        refine r_istore10 (pc := 223) C dX9_plan_223 rfl ?_
                        have hnew : plN h s c (w + 1) = ((ctR (hW h (wkRow w s (hWk h) 4)) (plN h s c w).1 300), w, costF (hMc h) (ctR (hW h (wkRow w s (hWk h) 4)) (plN h s c w).1 300), endF (hMc h) (ctR (hW h (wkRow w s (hWk h) 4)) (plN h s c w).1 300)) := by
                          rw [plN_good i4 hbad, if_pos (by rw [q4c]; subst hw0; exact nI_lt (b := 1000000000) (by have := cst_lt (u := u2) (mc := hMc h) hM8 q2 q3; omega) (by decide))]
                        have q4 := q4c
                        have q5 := q5c
                        have loopB : ∀ (k0 : Nat) (k : Nat) (G5 : gS), k0 = 4 - k → k ≤ 4 → Fr (fun q => q = 82) G4 G5 → (∀ j, j < k → G5.1 82 j = G4.1 40 j) → WW Z (qi (fun r G' => r = (if nI 300 ≤ (plN h s c 256).2.2.2 then -1 else (plN h s c 256).2.2.2) ∧ Fr plG G G' ∧ (∀ q, q ≠ 52 → q ≠ 53 → q ≠ 66 → G'.1 100 q = G.1 100 q) ∧ G'.1 100 53 = nI 0 ∧ (∀ k, k < 4 → G'.1 40 k = wkRow (plN h s c 256).2.1 s (hWk h) 4 k) ∧ (∀ i, i < hMc h → ∀ k, k < 3 → mmF G' i k = (plN h s c 256).1.1 i k))) 225 [some (.ref (ad Z (100))), some (.int (s)), some (.int (hasN c.1 (hMc h))), some (.int (nI u2)), some (.int (nI e2)), some (.int (nI z2)), some (.int (nI w)), o7, some (.int (nI u2)), some (.int (nI e2)), some (.int (nI k))] [] G5 := by
                          intro k0
                          induction k0 using Nat.strongRecOn with
                          | _ k0 ih =>
                            intro k G5 hk0 hkk hfB h82
                            refine r_iload10 (pc := 225) C dX9_plan_225 ?_
                            refine r_iconst (pc := 227) (v := nI 4) C dX9_plan_227 (by decide) ?_
                            refine r_icmp_ge (pc := 228) 251 C dX9_plan_228 (by decide) (fun c228 => ?_) (fun c228 => ?_)
                            · obtain rfl : k = 4 := by have := (nI_leI (by omega) (by omega)).mp c228; omega
                              refine r_iinc6 (pc := 251) (nI 1) C dX9_plan_251 (by decide) rfl ?_
                              rw [nI_add w 1]
                              refine r_goto (pc := 254) 54 C dX9_plan_254 (by decide) ?_
                              exact ihW (256 - (w + 1)) (by omega) (w + 1) _ _ _ _ _ _ _ _ rfl (by omega) ⟨Fr.trans n1 (hfB.mono (fun q h => Or.inr (Or.inr h))), fun q a b d => by rw [hfB.1 100 (by decide)]; exact n2 q a b d, fun i hi k hk => by rw [mmF_fr hfB (by decide +kernel)]; exact n3 i hi k hk, n4⟩ (Or.inr ⟨u2, e2, z2, rfl, rfl, rfl, q1, q2, q3, by rw [hnew]; exact q4, by rw [hnew]; exact q5, fun k hk => by rw [h82 k hk, n5 k hk, hnew]; unfold wkRow; rw [if_pos hk]⟩)
                            · have hkb : k < 4 := by
                                rcases Nat.lt_or_ge k 4 with h | h
                                · exact h
                                · exact absurd (nI_le h (by omega)) c228
                              refine r_aload0 (pc := 231) C dX9_plan_231 ?_
                              refine gX9_203 (pc := 232) C dX9_plan_232 ?_
                              refine r_iload10 (pc := 235) C dX9_plan_235 ?_
                              refine r_aload0 (pc := 237) C dX9_plan_237 ?_
                              refine gX9_95 (pc := 238) C dX9_plan_238 ?_
                              refine r_iload10 (pc := 241) C dX9_plan_241 ?_
                              refine r_iald (pc := 243) (_) C dX9_plan_243 aM40 (rfl) (by omega) ?_
                              refine r_eqi (y := G4.1 40 k) (by rw [hfB.1 40 (by decide)]) ?_
                              refine r_iast (pc := 244) (_) C dX9_plan_244 aM82 (rfl) (by omega) ?_
                              refine r_iinc10 (pc := 245) (nI 1) C dX9_plan_245 (by decide) rfl ?_
                              rw [nI_add k 1]
                              refine r_goto (pc := 248) 225 C dX9_plan_248 (by decide) ?_
                              exact ih (4 - (k + 1)) (by omega) (k + 1) _ rfl (by omega) (hfB.sI rfl) (fun j hj => by
                                rw [sI_s]
                                by_cases e : j = k
                                · subst e; rw [upd_s]
                                · rw [upd_o e]; exact h82 j (by omega))
                        exact loopB _ 0 G4 rfl (by omega) Fr.refl (fun j hj => absurd hj (Nat.not_lt_zero j))
                      · refine r_iload8 (pc := 171) C dX9_plan_171 ?_
                        refine r_iload3 (pc := 173) C dX9_plan_173 ?_
                        refine r_icmp_lt (pc := 174) 251 C dX9_plan_174 (by decide) (fun c174 => ?_) (fun c174 => ?_)
                        · refine r_iinc6 (pc := 251) (nI 1) C dX9_plan_251 (by decide) rfl ?_
                          rw [nI_add w 1]
                          refine r_goto (pc := 254) 54 C dX9_plan_254 (by decide) ?_
                          have hold : plN h s c (w + 1) = ((ctR (hW h (wkRow w s (hWk h) 4)) (plN h s c w).1 300), (plN h s c w).2) := by
                            rw [plN_good i4 hbad, if_neg (by rw [q4c, b7]; exact fun q => absurd ((nI_ltI (by have := cst_lt (u := u2) (mc := hMc h) hM8 q2 q3; omega) (by have := cst_lt (u := u) (mc := hMc h) hM8 b5 b6; omega)).mp q) (by rw [cst_cmp q1 b4 q2 b5 q3 b6]; exact fun q => q (Or.inl ((nI_ltI (by omega) (by omega)).mp c174))))]
                          exact ihW (256 - (w + 1)) (by omega) (w + 1) _ _ _ _ _ _ _ _ rfl (by omega) ⟨n1, n2, n3, n4⟩ (Or.inr ⟨u, e, z, rfl, rfl, rfl, b4, b5, b6, by rw [hold]; exact b7, by rw [hold]; exact b8, fun k hk => by rw [n6, hold]; exact b9 k hk⟩)
                        · refine r_iload8 (pc := 177) C dX9_plan_177 ?_
                          refine r_iload3 (pc := 179) C dX9_plan_179 ?_
                          refine r_icmp_ne (pc := 180) 209 C dX9_plan_180 (by decide) (fun c180 => ?_) (fun c180 => ?_)
                          · refine r_iload8 (pc := 209) C dX9_plan_209 ?_
                            refine r_istore3 (pc := 211) C dX9_plan_211 rfl ?_
                            refine r_iload9 (pc := 212) C dX9_plan_212 ?_
                            refine r_istore4 (pc := 214) C dX9_plan_214 rfl ?_
                            refine r_aload0 (pc := 216) C dX9_plan_216 ?_
                            refine gX9_350 (pc := 217) C dX9_plan_217 ?_
                            refine r_eqi (y := nI z2) q6 ?_
                            refine r_istore5 (pc := 220) C dX9_plan_220 rfl ?_
                            refine r_iconst (pc := 222) (v := nI 0) C dX9_plan_222 (by decide) ?_
                            refine r_istore10 (pc := 223) C dX9_plan_223 rfl ?_
                            have hnew : plN h s c (w + 1) = ((ctR (hW h (wkRow w s (hWk h) 4)) (plN h s c w).1 300), w, costF (hMc h) (ctR (hW h (wkRow w s (hWk h) 4)) (plN h s c w).1 300), endF (hMc h) (ctR (hW h (wkRow w s (hWk h) 4)) (plN h s c w).1 300)) := by
                              rw [plN_good i4 hbad, if_pos (by rw [q4c, b7]; exact nI_lt ((cst_cmp q1 b4 q2 b5 q3 b6).mpr (fun q => q.elim (fun q => c174 (nI_lt q (by omega))) (fun q => c180 (by rw [q.1])))) (by have := cst_lt (u := u) (mc := hMc h) hM8 b5 b6; omega))]
                            have q4 := q4c
                            have q5 := q5c
                            have loopB : ∀ (k0 : Nat) (k : Nat) (G5 : gS), k0 = 4 - k → k ≤ 4 → Fr (fun q => q = 82) G4 G5 → (∀ j, j < k → G5.1 82 j = G4.1 40 j) → WW Z (qi (fun r G' => r = (if nI 300 ≤ (plN h s c 256).2.2.2 then -1 else (plN h s c 256).2.2.2) ∧ Fr plG G G' ∧ (∀ q, q ≠ 52 → q ≠ 53 → q ≠ 66 → G'.1 100 q = G.1 100 q) ∧ G'.1 100 53 = nI 0 ∧ (∀ k, k < 4 → G'.1 40 k = wkRow (plN h s c 256).2.1 s (hWk h) 4 k) ∧ (∀ i, i < hMc h → ∀ k, k < 3 → mmF G' i k = (plN h s c 256).1.1 i k))) 225 [some (.ref (ad Z (100))), some (.int (s)), some (.int (hasN c.1 (hMc h))), some (.int (nI u2)), some (.int (nI e2)), some (.int (nI z2)), some (.int (nI w)), o7, some (.int (nI u2)), some (.int (nI e2)), some (.int (nI k))] [] G5 := by
                              intro k0
                              induction k0 using Nat.strongRecOn with
                              | _ k0 ih =>
                                intro k G5 hk0 hkk hfB h82
                                refine r_iload10 (pc := 225) C dX9_plan_225 ?_
                                refine r_iconst (pc := 227) (v := nI 4) C dX9_plan_227 (by decide) ?_
                                refine r_icmp_ge (pc := 228) 251 C dX9_plan_228 (by decide) (fun c228 => ?_) (fun c228 => ?_)
                                · obtain rfl : k = 4 := by have := (nI_leI (by omega) (by omega)).mp c228; omega
                                  refine r_iinc6 (pc := 251) (nI 1) C dX9_plan_251 (by decide) rfl ?_
                                  rw [nI_add w 1]
                                  refine r_goto (pc := 254) 54 C dX9_plan_254 (by decide) ?_
                                  exact ihW (256 - (w + 1)) (by omega) (w + 1) _ _ _ _ _ _ _ _ rfl (by omega) ⟨Fr.trans n1 (hfB.mono (fun q h => Or.inr (Or.inr h))), fun q a b d => by rw [hfB.1 100 (by decide)]; exact n2 q a b d, fun i hi k hk => by rw [mmF_fr hfB (by decide +kernel)]; exact n3 i hi k hk, n4⟩ (Or.inr ⟨u2, e2, z2, rfl, rfl, rfl, q1, q2, q3, by rw [hnew]; exact q4, by rw [hnew]; exact q5, fun k hk => by rw [h82 k hk, n5 k hk, hnew]; unfold wkRow; rw [if_pos hk]⟩)
                                · have hkb : k < 4 := by
                                    rcases Nat.lt_or_ge k 4 with h | h
                                    · exact h
                                    · exact absurd (nI_le h (by omega)) c228
                                  refine r_aload0 (pc := 231) C dX9_plan_231 ?_
                                  refine gX9_203 (pc := 232) C dX9_plan_232 ?_
                                  refine r_iload10 (pc := 235) C dX9_plan_235 ?_
                                  refine r_aload0 (pc := 237) C dX9_plan_237 ?_
                                  refine gX9_95 (pc := 238) C dX9_plan_238 ?_
                                  refine r_iload10 (pc := 241) C dX9_plan_241 ?_
                                  refine r_iald (pc := 243) (_) C dX9_plan_243 aM40 (rfl) (by omega) ?_
                                  refine r_eqi (y := G4.1 40 k) (by rw [hfB.1 40 (by decide)]) ?_
                                  refine r_iast (pc := 244) (_) C dX9_plan_244 aM82 (rfl) (by omega) ?_
                                  refine r_iinc10 (pc := 245) (nI 1) C dX9_plan_245 (by decide) rfl ?_
                                  rw [nI_add k 1]
                                  refine r_goto (pc := 248) 225 C dX9_plan_248 (by decide) ?_
                                  exact ih (4 - (k + 1)) (by omega) (k + 1) _ rfl (by omega) (hfB.sI rfl) (fun j hj => by
                                    rw [sI_s]
                                    by_cases e : j = k
                                    · subst e; rw [upd_s]
                                    · rw [upd_o e]; exact h82 j (by omega))
                            exact loopB _ 0 G4 rfl (by omega) Fr.refl (fun j hj => absurd hj (Nat.not_lt_zero j))
                          · refine r_iload9 (pc := 183) C dX9_plan_183 ?_
                            refine r_iload4 (pc := 185) C dX9_plan_185 ?_
                            refine r_icmp_gt (pc := 187) 251 C dX9_plan_187 (by decide) (fun c187 => ?_) (fun c187 => ?_)
                            · refine r_iinc6 (pc := 251) (nI 1) C dX9_plan_251 (by decide) rfl ?_
                              rw [nI_add w 1]
                              refine r_goto (pc := 254) 54 C dX9_plan_254 (by decide) ?_
                              have hold : plN h s c (w + 1) = ((ctR (hW h (wkRow w s (hWk h) 4)) (plN h s c w).1 300), (plN h s c w).2) := by
                                rw [plN_good i4 hbad, if_neg (by rw [q4c, b7]; exact fun q => absurd ((nI_ltI (by have := cst_lt (u := u2) (mc := hMc h) hM8 q2 q3; omega) (by have := cst_lt (u := u) (mc := hMc h) hM8 b5 b6; omega)).mp q) (by rw [cst_cmp q1 b4 q2 b5 q3 b6]; exact fun q => q (Or.inr ⟨(nI_eq (by omega) (by omega)).mp c180, Or.inl ((nI_ltI (by omega) (by omega)).mp c187)⟩)))]
                              exact ihW (256 - (w + 1)) (by omega) (w + 1) _ _ _ _ _ _ _ _ rfl (by omega) ⟨n1, n2, n3, n4⟩ (Or.inr ⟨u, e, z, rfl, rfl, rfl, b4, b5, b6, by rw [hold]; exact b7, by rw [hold]; exact b8, fun k hk => by rw [n6, hold]; exact b9 k hk⟩)
                            · refine r_iload9 (pc := 190) C dX9_plan_190 ?_
                              refine r_iload4 (pc := 192) C dX9_plan_192 ?_
                              refine r_icmp_ne (pc := 194) 209 C dX9_plan_194 (by decide) (fun c194 => ?_) (fun c194 => ?_)
                              · refine r_iload8 (pc := 209) C dX9_plan_209 ?_
                                refine r_istore3 (pc := 211) C dX9_plan_211 rfl ?_
                                refine r_iload9 (pc := 212) C dX9_plan_212 ?_
                                refine r_istore4 (pc := 214) C dX9_plan_214 rfl ?_
                                refine r_aload0 (pc := 216) C dX9_plan_216 ?_
                                refine gX9_350 (pc := 217) C dX9_plan_217 ?_
                                refine r_eqi (y := nI z2) q6 ?_
                                refine r_istore5 (pc := 220) C dX9_plan_220 rfl ?_
                                refine r_iconst (pc := 222) (v := nI 0) C dX9_plan_222 (by decide) ?_
                                refine r_istore10 (pc := 223) C dX9_plan_223 rfl ?_
                                have hnew : plN h s c (w + 1) = ((ctR (hW h (wkRow w s (hWk h) 4)) (plN h s c w).1 300), w, costF (hMc h) (ctR (hW h (wkRow w s (hWk h) 4)) (plN h s c w).1 300), endF (hMc h) (ctR (hW h (wkRow w s (hWk h) 4)) (plN h s c w).1 300)) := by
                                  rw [plN_good i4 hbad, if_pos (by rw [q4c, b7]; exact nI_lt ((cst_cmp q1 b4 q2 b5 q3 b6).mpr (fun q => q.elim (fun q => c174 (nI_lt q (by omega))) (fun q => q.2.elim (fun q => c187 (nI_lt q (by omega))) (fun q => c194 (by rw [q.1]))))) (by have := cst_lt (u := u) (mc := hMc h) hM8 b5 b6; omega))]
                                have q4 := q4c
                                have q5 := q5c
                                have loopB : ∀ (k0 : Nat) (k : Nat) (G5 : gS), k0 = 4 - k → k ≤ 4 → Fr (fun q => q = 82) G4 G5 → (∀ j, j < k → G5.1 82 j = G4.1 40 j) → WW Z (qi (fun r G' => r = (if nI 300 ≤ (plN h s c 256).2.2.2 then -1 else (plN h s c 256).2.2.2) ∧ Fr plG G G' ∧ (∀ q, q ≠ 52 → q ≠ 53 → q ≠ 66 → G'.1 100 q = G.1 100 q) ∧ G'.1 100 53 = nI 0 ∧ (∀ k, k < 4 → G'.1 40 k = wkRow (plN h s c 256).2.1 s (hWk h) 4 k) ∧ (∀ i, i < hMc h → ∀ k, k < 3 → mmF G' i k = (plN h s c 256).1.1 i k))) 225 [some (.ref (ad Z (100))), some (.int (s)), some (.int (hasN c.1 (hMc h))), some (.int (nI u2)), some (.int (nI e2)), some (.int (nI z2)), some (.int (nI w)), o7, some (.int (nI u2)), some (.int (nI e2)), some (.int (nI k))] [] G5 := by
                                  intro k0
                                  induction k0 using Nat.strongRecOn with
                                  | _ k0 ih =>
                                    intro k G5 hk0 hkk hfB h82
                                    refine r_iload10 (pc := 225) C dX9_plan_225 ?_
                                    refine r_iconst (pc := 227) (v := nI 4) C dX9_plan_227 (by decide) ?_
                                    refine r_icmp_ge (pc := 228) 251 C dX9_plan_228 (by decide) (fun c228 => ?_) (fun c228 => ?_)
                                    · obtain rfl : k = 4 := by have := (nI_leI (by omega) (by omega)).mp c228; omega
                                      refine r_iinc6 (pc := 251) (nI 1) C dX9_plan_251 (by decide) rfl ?_
                                      rw [nI_add w 1]
                                      refine r_goto (pc := 254) 54 C dX9_plan_254 (by decide) ?_
                                      exact ihW (256 - (w + 1)) (by omega) (w + 1) _ _ _ _ _ _ _ _ rfl (by omega) ⟨Fr.trans n1 (hfB.mono (fun q h => Or.inr (Or.inr h))), fun q a b d => by rw [hfB.1 100 (by decide)]; exact n2 q a b d, fun i hi k hk => by rw [mmF_fr hfB (by decide +kernel)]; exact n3 i hi k hk, n4⟩ (Or.inr ⟨u2, e2, z2, rfl, rfl, rfl, q1, q2, q3, by rw [hnew]; exact q4, by rw [hnew]; exact q5, fun k hk => by rw [h82 k hk, n5 k hk, hnew]; unfold wkRow; rw [if_pos hk]⟩)
                                    · have hkb : k < 4 := by
                                        rcases Nat.lt_or_ge k 4 with h | h
                                        · exact h
                                        · exact absurd (nI_le h (by omega)) c228
                                      refine r_aload0 (pc := 231) C dX9_plan_231 ?_
                                      refine gX9_203 (pc := 232) C dX9_plan_232 ?_
                                      refine r_iload10 (pc := 235) C dX9_plan_235 ?_
                                      refine r_aload0 (pc := 237) C dX9_plan_237 ?_
                                      refine gX9_95 (pc := 238) C dX9_plan_238 ?_
                                      refine r_iload10 (pc := 241) C dX9_plan_241 ?_
                                      refine r_iald (pc := 243) (_) C dX9_plan_243 aM40 (rfl) (by omega) ?_
                                      refine r_eqi (y := G4.1 40 k) (by rw [hfB.1 40 (by decide)]) ?_
                                      refine r_iast (pc := 244) (_) C dX9_plan_244 aM82 (rfl) (by omega) ?_
                                      refine r_iinc10 (pc := 245) (nI 1) C dX9_plan_245 (by decide) rfl ?_
                                      rw [nI_add k 1]
                                      refine r_goto (pc := 248) 225 C dX9_plan_248 (by decide) ?_
                                      exact ih (4 - (k + 1)) (by omega) (k + 1) _ rfl (by omega) (hfB.sI rfl) (fun j hj => by
                                        rw [sI_s]
                                        by_cases e : j = k
                                        · subst e; rw [upd_s]
                                        · rw [upd_o e]; exact h82 j (by omega))
                                exact loopB _ 0 G4 rfl (by omega) Fr.refl (fun j hj => absurd hj (Nat.not_lt_zero j))
                              · refine r_aload0 (pc := 197) C dX9_plan_197 ?_
                                refine gX9_350 (pc := 198) C dX9_plan_198 ?_
                                refine r_eqi (y := nI z2) q6 ?_
                                refine r_iload5 (pc := 201) C dX9_plan_201 ?_
                                refine r_icmp_lt (pc := 203) 209 C dX9_plan_203 (by decide) (fun c203 => ?_) (fun c203 => ?_)
                                · refine r_iload8 (pc := 209) C dX9_plan_209 ?_
                                  refine r_istore3 (pc := 211) C dX9_plan_211 rfl ?_
                                  refine r_iload9 (pc := 212) C dX9_plan_212 ?_
                                  refine r_istore4 (pc := 214) C dX9_plan_214 rfl ?_
                                  refine r_aload0 (pc := 216) C dX9_plan_216 ?_
                                  refine gX9_350 (pc := 217) C dX9_plan_217 ?_
                                  refine r_eqi (y := nI z2) q6 ?_
                                  refine r_istore5 (pc := 220) C dX9_plan_220 rfl ?_
                                  refine r_iconst (pc := 222) (v := nI 0) C dX9_plan_222 (by decide) ?_
                                  refine r_istore10 (pc := 223) C dX9_plan_223 rfl ?_
                                  have hnew : plN h s c (w + 1) = ((ctR (hW h (wkRow w s (hWk h) 4)) (plN h s c w).1 300), w, costF (hMc h) (ctR (hW h (wkRow w s (hWk h) 4)) (plN h s c w).1 300), endF (hMc h) (ctR (hW h (wkRow w s (hWk h) 4)) (plN h s c w).1 300)) := by
                                    rw [plN_good i4 hbad, if_pos (by rw [q4c, b7]; exact nI_lt ((cst_cmp q1 b4 q2 b5 q3 b6).mpr (fun q => q.elim (fun q => c174 (nI_lt q (by omega))) (fun q => q.2.elim (fun q => c187 (nI_lt q (by omega))) (fun q => absurd ((nI_ltI (by omega) (by omega)).mp c203) (by omega))))) (by have := cst_lt (u := u) (mc := hMc h) hM8 b5 b6; omega))]
                                  have q4 := q4c
                                  have q5 := q5c
                                  have loopB : ∀ (k0 : Nat) (k : Nat) (G5 : gS), k0 = 4 - k → k ≤ 4 → Fr (fun q => q = 82) G4 G5 → (∀ j, j < k → G5.1 82 j = G4.1 40 j) → WW Z (qi (fun r G' => r = (if nI 300 ≤ (plN h s c 256).2.2.2 then -1 else (plN h s c 256).2.2.2) ∧ Fr plG G G' ∧ (∀ q, q ≠ 52 → q ≠ 53 → q ≠ 66 → G'.1 100 q = G.1 100 q) ∧ G'.1 100 53 = nI 0 ∧ (∀ k, k < 4 → G'.1 40 k = wkRow (plN h s c 256).2.1 s (hWk h) 4 k) ∧ (∀ i, i < hMc h → ∀ k, k < 3 → mmF G' i k = (plN h s c 256).1.1 i k))) 225 [some (.ref (ad Z (100))), some (.int (s)), some (.int (hasN c.1 (hMc h))), some (.int (nI u2)), some (.int (nI e2)), some (.int (nI z2)), some (.int (nI w)), o7, some (.int (nI u2)), some (.int (nI e2)), some (.int (nI k))] [] G5 := by
                                    intro k0
                                    induction k0 using Nat.strongRecOn with
                                    | _ k0 ih =>
                                      intro k G5 hk0 hkk hfB h82
                                      refine r_iload10 (pc := 225) C dX9_plan_225 ?_
                                      refine r_iconst (pc := 227) (v := nI 4) C dX9_plan_227 (by decide) ?_
                                      refine r_icmp_ge (pc := 228) 251 C dX9_plan_228 (by decide) (fun c228 => ?_) (fun c228 => ?_)
                                      · obtain rfl : k = 4 := by have := (nI_leI (by omega) (by omega)).mp c228; omega
                                        refine r_iinc6 (pc := 251) (nI 1) C dX9_plan_251 (by decide) rfl ?_
                                        rw [nI_add w 1]
                                        refine r_goto (pc := 254) 54 C dX9_plan_254 (by decide) ?_
                                        exact ihW (256 - (w + 1)) (by omega) (w + 1) _ _ _ _ _ _ _ _ rfl (by omega) ⟨Fr.trans n1 (hfB.mono (fun q h => Or.inr (Or.inr h))), fun q a b d => by rw [hfB.1 100 (by decide)]; exact n2 q a b d, fun i hi k hk => by rw [mmF_fr hfB (by decide +kernel)]; exact n3 i hi k hk, n4⟩ (Or.inr ⟨u2, e2, z2, rfl, rfl, rfl, q1, q2, q3, by rw [hnew]; exact q4, by rw [hnew]; exact q5, fun k hk => by rw [h82 k hk, n5 k hk, hnew]; unfold wkRow; rw [if_pos hk]⟩)
                                      · have hkb : k < 4 := by
                                          rcases Nat.lt_or_ge k 4 with h | h
                                          · exact h
                                          · exact absurd (nI_le h (by omega)) c228
                                        refine r_aload0 (pc := 231) C dX9_plan_231 ?_
                                        refine gX9_203 (pc := 232) C dX9_plan_232 ?_
                                        refine r_iload10 (pc := 235) C dX9_plan_235 ?_
                                        refine r_aload0 (pc := 237) C dX9_plan_237 ?_
                                        refine gX9_95 (pc := 238) C dX9_plan_238 ?_
                                        refine r_iload10 (pc := 241) C dX9_plan_241 ?_
                                        refine r_iald (pc := 243) (_) C dX9_plan_243 aM40 (rfl) (by omega) ?_
                                        refine r_eqi (y := G4.1 40 k) (by rw [hfB.1 40 (by decide)]) ?_
                                        refine r_iast (pc := 244) (_) C dX9_plan_244 aM82 (rfl) (by omega) ?_
                                        refine r_iinc10 (pc := 245) (nI 1) C dX9_plan_245 (by decide) rfl ?_
                                        rw [nI_add k 1]
                                        refine r_goto (pc := 248) 225 C dX9_plan_248 (by decide) ?_
                                        exact ih (4 - (k + 1)) (by omega) (k + 1) _ rfl (by omega) (hfB.sI rfl) (fun j hj => by
                                          rw [sI_s]
                                          by_cases e : j = k
                                          · subst e; rw [upd_s]
                                          · rw [upd_o e]; exact h82 j (by omega))
                                  exact loopB _ 0 G4 rfl (by omega) Fr.refl (fun j hj => absurd hj (Nat.not_lt_zero j))
                                · refine r_goto (pc := 206) 251 C dX9_plan_206 (by decide) ?_
                                  refine r_iinc6 (pc := 251) (nI 1) C dX9_plan_251 (by decide) rfl ?_
                                  rw [nI_add w 1]
                                  refine r_goto (pc := 254) 54 C dX9_plan_254 (by decide) ?_
                                  have hold : plN h s c (w + 1) = ((ctR (hW h (wkRow w s (hWk h) 4)) (plN h s c w).1 300), (plN h s c w).2) := by
                                    rw [plN_good i4 hbad, if_neg (by rw [q4c, b7]; exact fun q => absurd ((nI_ltI (by have := cst_lt (u := u2) (mc := hMc h) hM8 q2 q3; omega) (by have := cst_lt (u := u) (mc := hMc h) hM8 b5 b6; omega)).mp q) (by rw [cst_cmp q1 b4 q2 b5 q3 b6]; exact fun q => q (Or.inr ⟨(nI_eq (by omega) (by omega)).mp c180, Or.inr ⟨(nI_eq (by omega) (by omega)).mp c194, (nI_leI (by omega) (by omega)).mp (Int32.not_lt.mp c203)⟩⟩)))]
                                  exact ihW (256 - (w + 1)) (by omega) (w + 1) _ _ _ _ _ _ _ _ rfl (by omega) ⟨n1, n2, n3, n4⟩ (Or.inr ⟨u, e, z, rfl, rfl, rfl, b4, b5, b6, by rw [hold]; exact b7, by rw [hold]; exact b8, fun k hk => by rw [n6, hold]; exact b9 k hk⟩)
                    refine r_aload0 (pc := 140) C dX9_plan_140 ?_
                    refine r_iconst (pc := 141) (v := nI 0) C dX9_plan_141 (by decide) ?_
                    refine pX9_290 (pc := 142) C dX9_plan_142 rfl rfl ?_
                    refine r_aload0 (pc := 145) C dX9_plan_145 ?_
                    have hg2 : goH (sI G2 100 53 (nI 0)) (hW h (wkRow w s (hWk h) 4)) fc wd (plN h s c w).1 := ⟨hm.wk (S := plG) (Fr.trans i1 ((hf.mono (fun q h => Or.inr (Or.inl h))).sI (Or.inl (by unfold gnS; simp)))) relS_pl (fun q a b d => by rw [sI_s, upd_o b, hf.1 100 (by decide)]; exact i2 q a b d) (fun k hk => by rw [sI_o (by decide)]; exact hw40 k hk), hh, hx3, i4.kok hk, fun i hi k hk => by rw [mmF_o (by decide), mmF_fr hf (by decide +kernel)]; exact i3 i hi k hk, Or.inl (by rw [sI_s, upd_s]; rfl)⟩
                    refine r_callVi (pc := 146) C rfl dX9_plan_146 kX9_394 gF9 jM (tX9_up Z.1 C.w hg2) rfl rfl (Nat.le_of_ble_eq_true rfl) (by decide) (fun x146 G146 h146 => ?_)
                    obtain ⟨f146, d146, r146⟩ := h146
                    subst r146
                    refine r_callSi (pc := 149) C rfl dX9_plan_149 kX9_397 (tX9_bits Z.1 C.w) rfl rfl (Nat.le_of_ble_eq_true rfl) (by decide) (fun x149 G149 h149 => ?_)
                    obtain ⟨r149, h149b⟩ := h149
                    have h149b := h149b.symm
                    subst h149b
                    refine r_eqi (y := nI (upC (ctR (hW h (wkRow w s (hWk h) 4)) (plN h s c w).1 300).1 (hMc h))) (r149.trans (bs_up hM8)) ?_
                    refine r_istore8 (pc := 152) C dX9_plan_152 rfl ?_
                    refine r_aload0 (pc := 154) C dX9_plan_154 ?_
                    have hg3 : goH G146 (hW h (wkRow w s (hWk h) 4)) fc wd (plN h s c w).1 := ⟨f146.rel hg2.1, hh, hx3, i4.kok hk, fun i hi k hk => by
                      rw [(d146.2.2.2.2 i hi).1 k (by omega) (by omega) (by omega)]
                      have := K3_run (hW h (wkRow w s (hWk h) 4)) (F := (plN h s c w).1.1) (c := (plN h s c w).1) (fun i => k3.refl) 300 i
                      rcases (show k = 0 ∨ k = 1 ∨ k = 2 by omega) with rfl | rfl | rfl
                      · exact this.1
                      · exact this.2.1
                      · exact this.2.2, Or.inr d146⟩
                    refine r_callVi (pc := 155) C rfl dX9_plan_155 kX9_400 gF9 jM (tX9_ends Z.1 C.w hg3) rfl rfl (Nat.le_of_ble_eq_true rfl) (by decide) (fun x155 G155 h155 => ?_)
                    obtain ⟨f155, d155, r155⟩ := h155
                    rw [enR_ref] at r155
                    refine r_istore9 (pc := 158) C dX9_plan_158 rfl ?_
                    refine r_iload9 (pc := 160) C dX9_plan_160 ?_
                    refine r_iconst (pc := 162) (v := (-1)) C dX9_plan_162 (by decide) ?_
                    refine r_icmp_ne (pc := 163) 171 C dX9_plan_163 (by decide) (fun c163 => ?_) (fun c163 => ?_)
                    · have hen : ¬ enR (hW h (wkRow w s (hWk h) 4)) (plN h s c w).1 = 300 := fun q => c163 (by rw [r155, if_pos q])
                      have ev : x155 = nI (enR (hW h (wkRow w s (hWk h) 4)) (plN h s c w).1) := by rw [r155, if_neg hen]
                      subst ev
                      obtain ⟨z2, hz2, hz3⟩ := snt_n (h := hW h (wkRow w s (hWk h) 4)) hM8 (plN h s c w).1 300
                      have hK2 := K3_run (hW h (wkRow w s (hWk h) 4)) (F := c.1) (c := (plN h s c w).1) i4 300
                      exact cmp _ _ (upC (ctR (hW h (wkRow w s (hWk h) 4)) (plN h s c w).1 300).1 (hMc h)) _ z2 G155 (Fr.trans (Fr.trans (Fr.trans i1 ((hf.mono (fun q h => Or.inr (Or.inl h))).sI (Or.inl (by unfold gnS; simp)))) (f146.1.mono (fun q h => Or.inl h))) (f155.1.mono (fun q h => Or.inl h))) (fun q a b d => by rw [f155.2 q a b d, f146.2 q a b d, sI_s, upd_o b, hf.1 100 (by decide)]; exact i2 q a b d) (fun i hi k hk => by rw [plN_1 i4 hbad]; exact (d155.2.2.2.2 i hi).1 k (by omega) (by omega) (by omega)) (by rw [plN_1 i4 hbad]; exact hK2) (fun k hk => by rw [f155.1.1 40 (by unfold gnS sMM; decide), f146.1.1 40 (by unfold gnS sMM; decide), sI_o (by decide)]; exact hw40 k hk) (by rw [f155.1.1 82 (by unfold gnS sMM; decide), f146.1.1 82 (by unfold gnS sMM; decide), sI_o (by decide), hf.1 82 (by decide)]) (upC_le hM8) (enR_le _ _) (by omega) (cst_n (h := hW h (wkRow w s (hWk h) 4)) hh (i4.kok hk) hz2) (enR_cls (h := hW h (wkRow w s (hWk h) 4)) hh (i4.kok hk)) (d155.2.1.trans hz2)
                    · refine r_sipush (pc := 166) (v := nI 300) C dX9_plan_166 (by decide) ?_
                      refine r_istore9 (pc := 169) C dX9_plan_169 rfl ?_
                      have hen : enR (hW h (wkRow w s (hWk h) 4)) (plN h s c w).1 = 300 := by
                        by_cases q : enR (hW h (wkRow w s (hWk h) 4)) (plN h s c w).1 = 300
                        · exact q
                        · rw [r155, if_neg q] at c163
                          exact absurd c163 (nI_m1 (by have := enR_le (hW h (wkRow w s (hWk h) 4)) (plN h s c w).1; omega))
                      obtain ⟨z2, hz2, hz3⟩ := snt_n (h := hW h (wkRow w s (hWk h) 4)) hM8 (plN h s c w).1 300
                      have hK2 := K3_run (hW h (wkRow w s (hWk h) 4)) (F := c.1) (c := (plN h s c w).1) i4 300
                      exact cmp _ _ (upC (ctR (hW h (wkRow w s (hWk h) 4)) (plN h s c w).1 300).1 (hMc h)) 300 z2 G155 (Fr.trans (Fr.trans (Fr.trans i1 ((hf.mono (fun q h => Or.inr (Or.inl h))).sI (Or.inl (by unfold gnS; simp)))) (f146.1.mono (fun q h => Or.inl h))) (f155.1.mono (fun q h => Or.inl h))) (fun q a b d => by rw [f155.2 q a b d, f146.2 q a b d, sI_s, upd_o b, hf.1 100 (by decide)]; exact i2 q a b d) (fun i hi k hk => by rw [plN_1 i4 hbad]; exact (d155.2.2.2.2 i hi).1 k (by omega) (by omega) (by omega)) (by rw [plN_1 i4 hbad]; exact hK2) (fun k hk => by rw [f155.1.1 40 (by unfold gnS sMM; decide), f146.1.1 40 (by unfold gnS sMM; decide), sI_o (by decide)]; exact hw40 k hk) (by rw [f155.1.1 82 (by unfold gnS sMM; decide), f146.1.1 82 (by unfold gnS sMM; decide), sI_o (by decide), hf.1 82 (by decide)]) (upC_le hM8) (Nat.le_refl _) (by omega) (by have := cst_n (h := hW h (wkRow w s (hWk h) 4)) hh (i4.kok hk) hz2; rw [hen] at this; exact this) (by have := enR_cls (h := hW h (wkRow w s (hWk h) 4)) hh (i4.kok hk); rw [hen] at this; exact this) (d155.2.1.trans hz2)
                  · have hbad : badW (hMc h) c.1 w 4 = true := by
                      have := bI_z.mp (hy ▸ c134)
                      simpa using this
                    refine r_goto (pc := 137) 251 C dX9_plan_137 (by decide) ?_
                    refine r_iinc6 (pc := 251) (nI 1) C dX9_plan_251 (by decide) rfl ?_
                    rw [nI_add w 1]
                    refine r_goto (pc := 254) 54 C dX9_plan_254 (by decide) ?_
                    have hsame := plN_bad (s := s) i4 hbad
                    refine ihW (256 - (w + 1)) (by omega) (w + 1) _ _ _ _ _ _ _ _ rfl (by omega) ⟨Fr.trans i1 (hf.mono (fun q h => Or.inr (Or.inl h))), fun q a b d => by rw [hf.1 100 (by decide)]; exact i2 q a b d, fun i hi k hk => by rw [hsame, mmF_fr hf (by decide +kernel)]; exact i3 i hi k hk, by rw [hsame]; exact i4⟩ ?_
                    rcases hB with ⟨hw0, -⟩ | ⟨u, e, z, b1, b2, b3, b4, b5, b6, b7, b8, b9⟩
                    · subst hw0; rw [badW_0] at hbad; cases hbad
                    · exact Or.inr ⟨u, e, z, b1, b2, b3, b4, b5, b6, by rw [hsame]; exact b7, by rw [hsame]; exact b8, fun k hk => by rw [hsame, hf.1 82 (by decide)]; exact b9 k hk⟩
                · have hkb : k < 4 := by
                    rcases Nat.lt_or_ge k 4 with h | h
                    · exact h
                    · exact absurd (nI_le h (by omega)) c71
                  refine r_iload6 (pc := 74) C dX9_plan_74 ?_
                  refine r_bipush (pc := 76) (v := nI 6) C dX9_plan_76 (by decide) ?_
                  refine r_iconst (pc := 78) (v := nI 2) C dX9_plan_78 (by decide) ?_
                  refine r_iload8 (pc := 79) C dX9_plan_79 ?_
                  refine r_imul (pc := 81) C dX9_plan_81 ?_
                  refine r_eqi (pk_mul 2 k) ?_
                  refine r_isub (pc := 82) C dX9_plan_82 ?_
                  refine r_ishr (pc := 83) C dX9_plan_83 ?_
                  refine r_iconst (pc := 84) (v := nI 3) C dX9_plan_84 (by decide) ?_
                  refine r_iand (pc := 85) C dX9_plan_85 ?_
                  refine r_eqi (y := nI (stp w k)) (stp_eq hwb hkb) ?_
                  refine r_istore9 (pc := 86) C dX9_plan_86 rfl ?_
                  refine r_aload0 (pc := 88) C dX9_plan_88 ?_
                  refine gX9_95 (pc := 89) C dX9_plan_89 ?_
                  refine r_iload8 (pc := 92) C dX9_plan_92 ?_
                  refine r_iload9 (pc := 94) C dX9_plan_94 ?_
                  refine r_iload1 (pc := 96) C dX9_plan_96 ?_
                  refine r_imul (pc := 97) C dX9_plan_97 ?_
                  refine r_iast (pc := 98) (_) C dX9_plan_98 aM40 (rfl) (by omega) ?_
                  have hw40 : ∀ j, j < k + 1 → (sI G2 40 k (nI (stp w k) * s)).1 40 j = nI (stp w j) * s := fun j hj => by
                    rw [sI_s]
                    by_cases e : j = k
                    · subst e; rw [upd_s]
                    · rw [upd_o e]; exact hk40 j (by omega)
                  refine r_iload7 (pc := 99) C dX9_plan_99 ?_
                  refine r_if_eq (pc := 101) 123 C dX9_plan_101 (by decide) (fun c101 => ?_) (fun c101 => ?_)
                  · refine r_iconst (pc := 123) (v := nI 0) C dX9_plan_123 (by decide) ?_
                    refine r_istore7 (pc := 124) C dX9_plan_124 rfl ?_
                    refine r_iinc8 (pc := 126) (nI 1) C dX9_plan_126 (by decide) rfl ?_
                    rw [nI_add k 1]
                    refine r_goto (pc := 129) 68 C dX9_plan_129 (by decide) ?_
                    exact ih (4 - (k + 1)) (by omega) (k + 1) _ _ _ rfl (by omega) (hf.sI rfl) hw40 (by
                      have z : badW (hMc h) c.1 w k = true := by
                        have := bI_z.mp (hy ▸ c101)
                        simpa using this
                      show nI 0 = bI (!(badW (hMc h) c.1 w k || (decide (stp w k ≠ 0) && !hasK (hMc h) c.1 (nI k))))
                      rw [z]; rfl)
                  · refine r_iload9 (pc := 104) C dX9_plan_104 ?_
                    refine r_if_eq (pc := 106) 119 C dX9_plan_106 (by decide) (fun c106 => ?_) (fun c106 => ?_)
                    · refine r_iconst (pc := 119) (v := nI 1) C dX9_plan_119 (by decide) ?_
                      refine r_goto (pc := 120) 124 C dX9_plan_120 (by decide) ?_
                      refine r_istore7 (pc := 124) C dX9_plan_124 rfl ?_
                      refine r_iinc8 (pc := 126) (nI 1) C dX9_plan_126 (by decide) rfl ?_
                      rw [nI_add k 1]
                      refine r_goto (pc := 129) 68 C dX9_plan_129 (by decide) ?_
                      exact ih (4 - (k + 1)) (by omega) (k + 1) _ _ _ rfl (by omega) (hf.sI rfl) hw40 (by
                        have z : badW (hMc h) c.1 w k = false := by
                          have := bI_n.mp (hy ▸ c101)
                          simpa using this
                        show nI 1 = bI (!(badW (hMc h) c.1 w k || (decide (stp w k ≠ 0) && !hasK (hMc h) c.1 (nI k))))
                        rw [z, (nI_eq (b := 0) (by have := stp_lt w k; omega) (by decide)).mp c106]; rfl)
                    · refine r_iload2 (pc := 109) C dX9_plan_109 ?_
                      refine r_iload8 (pc := 110) C dX9_plan_110 ?_
                      refine r_ishr (pc := 112) C dX9_plan_112 ?_
                      refine r_iconst (pc := 113) (v := nI 1) C dX9_plan_113 (by decide) ?_
                      refine r_iand (pc := 114) C dX9_plan_114 ?_
                      refine r_eqi (y := bI (hasK (hMc h) c.1 (nI k))) (by rw [bt_sar _ (by omega), hasN_bt hkb hk]) ?_
                      refine r_iconst (pc := 115) (v := nI 1) C dX9_plan_115 (by decide) ?_
                      refine r_icmp_ne (pc := 116) 123 C dX9_plan_116 (by decide) (fun c116 => ?_) (fun c116 => ?_)
                      · refine r_iconst (pc := 123) (v := nI 0) C dX9_plan_123 (by decide) ?_
                        refine r_istore7 (pc := 124) C dX9_plan_124 rfl ?_
                        refine r_iinc8 (pc := 126) (nI 1) C dX9_plan_126 (by decide) rfl ?_
                        rw [nI_add k 1]
                        refine r_goto (pc := 129) 68 C dX9_plan_129 (by decide) ?_
                        exact ih (4 - (k + 1)) (by omega) (k + 1) _ _ _ rfl (by omega) (hf.sI rfl) hw40 (by
                          have z : badW (hMc h) c.1 w k = false := by
                            have := bI_n.mp (hy ▸ c101)
                            simpa using this
                          show nI 0 = bI (!(badW (hMc h) c.1 w k || (decide (stp w k ≠ 0) && !hasK (hMc h) c.1 (nI k))))
                          have z2 : hasK (hMc h) c.1 (nI k) = false := by
                            cases q : hasK (hMc h) c.1 (nI k) with
                            | false => rfl
                            | true => rw [q] at c116; exact absurd rfl c116
                          rw [z, z2, decide_eq_true (show stp w k ≠ 0 from fun q => c106 (by rw [q]; rfl))]; rfl)
                      · refine r_iconst (pc := 119) (v := nI 1) C dX9_plan_119 (by decide) ?_
                        refine r_goto (pc := 120) 124 C dX9_plan_120 (by decide) ?_
                        refine r_istore7 (pc := 124) C dX9_plan_124 rfl ?_
                        refine r_iinc8 (pc := 126) (nI 1) C dX9_plan_126 (by decide) rfl ?_
                        rw [nI_add k 1]
                        refine r_goto (pc := 129) 68 C dX9_plan_129 (by decide) ?_
                        exact ih (4 - (k + 1)) (by omega) (k + 1) _ _ _ rfl (by omega) (hf.sI rfl) hw40 (by
                          have z : badW (hMc h) c.1 w k = false := by
                            have := bI_n.mp (hy ▸ c101)
                            simpa using this
                          show nI 1 = bI (!(badW (hMc h) c.1 w k || (decide (stp w k ≠ 0) && !hasK (hMc h) c.1 (nI k))))
                          have z2 : hasK (hMc h) c.1 (nI k) = true := by
                            cases q : hasK (hMc h) c.1 (nI k) with
                            | true => rfl
                            | false => rw [q] at c116; exact absurd c116 (by decide)
                          rw [z, z2, Bool.not_true, Bool.and_false]; rfl)
            refine r_iconst (pc := 62) (v := nI 1) C dX9_plan_62 (by decide) ?_
            refine r_istore7 (pc := 63) C dX9_plan_63 rfl ?_
            refine r_iconst (pc := 65) (v := nI 0) C dX9_plan_65 (by decide) ?_
            refine r_istore8 (pc := 66) C dX9_plan_66 rfl ?_
            exact loopK _ 0 (nI 1) _ G1 rfl (by omega) Fr.refl (fun j hj => absurd hj (Nat.not_lt_zero j)) rfl
      have loopH : ∀ (k0 : Nat) (k : Nat), k0 = hMc h - k → k ≤ hMc h → WW Z (qi (fun r G' => r = (if nI 300 ≤ (plN h s c 256).2.2.2 then -1 else (plN h s c 256).2.2.2) ∧ Fr plG G G' ∧ (∀ q, q ≠ 52 → q ≠ 53 → q ≠ 66 → G'.1 100 q = G.1 100 q) ∧ G'.1 100 53 = nI 0 ∧ (∀ k, k < 4 → G'.1 40 k = wkRow (plN h s c 256).2.1 s (hWk h) 4 k) ∧ (∀ i, i < hMc h → ∀ k, k < 3 → mmF G' i k = (plN h s c 256).1.1 i k))) 18 [some (.ref (ad Z (100))), some (.int (s)), some (.int (hasN c.1 k)), some (.int (nI k)), none, none, none, none, none, none, none] [] G := by
        intro k0
        induction k0 using Nat.strongRecOn with
        | _ k0 ih =>
          intro k hk0 hkk
          refine r_iload3 (pc := 18) C dX9_plan_18 ?_
          refine r_aload0 (pc := 19) C dX9_plan_19 ?_
          refine gX9_317 (pc := 20) C dX9_plan_20 ?_
          refine r_eqi (y := nI (hMc h)) hm.1 ?_
          refine r_icmp_ge (pc := 23) 43 C dX9_plan_23 (by decide) (fun c23 => ?_) (fun c23 => ?_)
          · obtain rfl : k = hMc h := by have := (nI_leI (by omega) (by omega)).mp c23; omega
            refine r_iconst (pc := 43) (v := (-1)) C dX9_plan_43 (by decide) ?_
            refine r_istore3 (pc := 44) C dX9_plan_44 rfl ?_
            refine r_iconst (pc := 45) (v := nI 0) C dX9_plan_45 (by decide) ?_
            refine r_istore4 (pc := 46) C dX9_plan_46 rfl ?_
            refine r_iconst (pc := 48) (v := nI 0) C dX9_plan_48 (by decide) ?_
            refine r_istore5 (pc := 49) C dX9_plan_49 rfl ?_
            refine r_iconst (pc := 51) (v := nI 0) C dX9_plan_51 (by decide) ?_
            refine r_istore6 (pc := 52) C dX9_plan_52 rfl ?_
            exact loopW _ 0 (-1) (nI 0) (nI 0) none none none none G rfl (by omega) ⟨Fr.refl, fun _ _ _ _ => rfl, h3, fun i => k3.refl⟩ (Or.inl ⟨rfl, rfl, rfl, rfl⟩)
          · have hkb : k < hMc h := by
              rcases Nat.lt_or_ge k (hMc h) with h | h
              · exact h
              · exact absurd (nI_le h (by omega)) c23
            have hk8 : k < 8 := by omega
            refine r_iload2 (pc := 26) C dX9_plan_26 ?_
            refine r_iconst (pc := 27) (v := nI 1) C dX9_plan_27 (by decide) ?_
            refine r_aload0 (pc := 28) C dX9_plan_28 ?_
            refine gX9_86 (pc := 29) C dX9_plan_29 ?_
            refine r_iload3 (pc := 32) C dX9_plan_32 ?_
            refine r_iald (pc := 33) (_) C dX9_plan_33 aM37 (rfl) (by omega) ?_
            refine r_eqi (y := c.1 k 0) ((mg37 hk8).trans (h3 k hkb 0 (by decide))) ?_
            refine r_ishl (pc := 34) C dX9_plan_34 ?_
            refine r_ior (pc := 35) C dX9_plan_35 ?_
            refine r_istore2 (pc := 36) C dX9_plan_36 rfl ?_
            refine r_iinc3 (pc := 37) (nI 1) C dX9_plan_37 (by decide) rfl ?_
            rw [nI_add k 1]
            refine r_goto (pc := 40) 18 C dX9_plan_40 (by decide) ?_
            rw [show hasN c.1 k ||| (nI 1 <<< (c.1 k 0 &&& 31)) = hasN c.1 (k + 1) from rfl]
            exact ih (hMc h - (k + 1)) (by omega) (k + 1) rfl (by omega)
      refine r_iconst (pc := 14) (v := nI 0) C dX9_plan_14 (by decide) ?_
      refine r_istore2 (pc := 15) C dX9_plan_15 rfl ?_
      refine r_iconst (pc := 16) (v := nI 0) C dX9_plan_16 (by decide) ?_
      refine r_istore3 (pc := 17) C dX9_plan_17 rfl ?_
      exact loopH _ 0 rfl (by omega)
    · refine r_bipush (pc := 11) (v := (-2)) C dX9_plan_11 (by decide) ?_
      exact r_ireturn (pc := 13) C dX9_plan_13 (by rw [if_neg (fun z => c8 (Int32.not_lt.mp z.2))]; exact ⟨rfl, rfl⟩)
