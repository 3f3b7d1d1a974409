/-! the reference: a TICK's steps for one MACHINE -/
theorem row_ext {f g : Nat → Int32} (h : ∀ k, k < 16 → f k = g k) (h2 : ∀ k, 16 ≤ k → f k = g k) : f = g := by
  funext k
  rcases Nat.lt_or_ge k 16 with hk | hk
  · exact h k hk
  · exact h2 k hk
theorem mLs_eq (f : Nat → Int32) (v : Int32) : mClr (upd (upd (upd f 3 (nI 0)) 7 (nI 0)) 15 v) = upd (mClear (mEnter (nI 0) f)) 15 v := by
  refine row_ext (fun k hk => ?_) (fun k hk => ?_)
  · rcases (show k = 0 ∨ k = 1 ∨ k = 2 ∨ k = 3 ∨ k = 4 ∨ k = 5 ∨ k = 6 ∨ k = 7 ∨ k = 8 ∨ k = 9 ∨ k = 10 ∨ k = 11 ∨ k = 12 ∨ k = 13 ∨ k = 14 ∨ k = 15 by omega) with rfl | rfl | rfl | rfl | rfl | rfl | rfl | rfl | rfl | rfl | rfl | rfl | rfl | rfl | rfl | rfl <;> rfl
  · simp only [mClr, mClear, mEnter]
    repeat rw [upd_o (by omega)]
theorem mBg_eq (f : Nat → Int32) (t b : Int32) : upd (upd (mClr (upd (upd f 3 (nI 1)) 11 b)) 13 t) 7 (nI 0) = upd (upd (mClear (mEnter (nI 1) f)) 11 b) 13 t := by
  refine row_ext (fun k hk => ?_) (fun k hk => ?_)
  · rcases (show k = 0 ∨ k = 1 ∨ k = 2 ∨ k = 3 ∨ k = 4 ∨ k = 5 ∨ k = 6 ∨ k = 7 ∨ k = 8 ∨ k = 9 ∨ k = 10 ∨ k = 11 ∨ k = 12 ∨ k = 13 ∨ k = 14 ∨ k = 15 by omega) with rfl | rfl | rfl | rfl | rfl | rfl | rfl | rfl | rfl | rfl | rfl | rfl | rfl | rfl | rfl | rfl <;> rfl
  · simp only [mClr, mClear, mEnter]
    repeat rw [upd_o (by omega)]
theorem mIn_eq (f : Nat → Int32) (t : Int32) : upd (upd (upd f 5 (nI 0)) 14 t) 3 (nI 3) = mInst t f := by
  refine row_ext (fun k hk => ?_) (fun k hk => ?_)
  · rcases (show k = 0 ∨ k = 1 ∨ k = 2 ∨ k = 3 ∨ k = 4 ∨ k = 5 ∨ k = 6 ∨ k = 7 ∨ k = 8 ∨ k = 9 ∨ k = 10 ∨ k = 11 ∨ k = 12 ∨ k = 13 ∨ k = 14 ∨ k = 15 by omega) with rfl | rfl | rfl | rfl | rfl | rfl | rfl | rfl | rfl | rfl | rfl | rfl | rfl | rfl | rfl | rfl <;> rfl
  · simp only [mInst]
    repeat rw [upd_o (by omega)]
theorem mRs_eq (f : Nat → Int32) (y t c : Int32) : mRescue y (upd (upd (upd f 5 (nI 0)) 14 t) 12 c) = upd (mRescue y f) 14 t := by
  refine row_ext (fun k hk => ?_) (fun k hk => ?_)
  · rcases (show k = 0 ∨ k = 1 ∨ k = 2 ∨ k = 3 ∨ k = 4 ∨ k = 5 ∨ k = 6 ∨ k = 7 ∨ k = 8 ∨ k = 9 ∨ k = 10 ∨ k = 11 ∨ k = 12 ∨ k = 13 ∨ k = 14 ∨ k = 15 by omega) with rfl | rfl | rfl | rfl | rfl | rfl | rfl | rfl | rfl | rfl | rfl | rfl | rfl | rfl | rfl | rfl <;> rfl
  · simp only [mRescue, mEnter]
    repeat rw [upd_o (by omega)]
theorem mFe_eq (f : Nat → Int32) (a t c : Int32) : upd (upd (upd (upd (upd (upd f 5 (nI 0)) 14 t) 12 c) 4 a) 3 (nI 2)) 7 (nI 0) = mFetch a c t f := by
  refine row_ext (fun k hk => ?_) (fun k hk => ?_)
  · rcases (show k = 0 ∨ k = 1 ∨ k = 2 ∨ k = 3 ∨ k = 4 ∨ k = 5 ∨ k = 6 ∨ k = 7 ∨ k = 8 ∨ k = 9 ∨ k = 10 ∨ k = 11 ∨ k = 12 ∨ k = 13 ∨ k = 14 ∨ k = 15 by omega) with rfl | rfl | rfl | rfl | rfl | rfl | rfl | rfl | rfl | rfl | rfl | rfl | rfl | rfl | rfl | rfl <;> rfl
  · simp only [mFetch, mEnter]
    repeat rw [upd_o (by omega)]
/-- two rows alike, but that the TICK since when may differ where it says nothing -/
def rE (f g : Nat → Int32) : Prop := g = f ∨ ((f 3 ≠ nI 2 ∧ f 3 ≠ nI 3) ∧ ∃ v, g = upd f 14 v)
theorem rE.refl {f : Nat → Int32} : rE f f := Or.inl rfl
theorem rE.o {f g : Nat → Int32} (h : rE f g) {k : Nat} (hk : k ≠ 14) : g k = f k := by
  rcases h with rfl | ⟨-, v, rfl⟩
  · rfl
  · exact upd_o hk
theorem rE.e {f g : Nat → Int32} (h : rE f g) (h3 : f 3 = nI 2 ∨ f 3 = nI 3) : g = f := by
  rcases h with rfl | ⟨⟨h1, h2⟩, -⟩
  · rfl
  · rcases h3 with e | e
    · exact absurd e h1
    · exact absurd e h2
/-- what the reference needs of a row -/
def rN (f : Nat → Int32) : Prop := (f 3 ≠ nI 5 → f 7 = nI 0 ∧ (f 8 = nI (cN (f 8)) ∧ cN (f 8) ≤ 4) ∧ (f 9 = nI (cN (f 9)) ∧ cN (f 9) ≤ 3) ∧ (f 10 = nI (cN (f 10)) ∧ cN (f 10) ≤ 11)) ∧ (f 3 = nI 2 → f 12 = nI (cN (f 12)) ∧ cN (f 12) ≤ 3)
theorem cnt_ne {x : Int32} {b : Nat} (h : x = nI (cN x)) (hb : cN x ≤ b) (hB : b < 1000) (hn : ¬ x + nI 1 = nI (b + 1)) : x + nI 1 < nI (b + 1) := by
  rw [h, nI_add] at hn ⊢
  have : ¬ cN x + 1 = b + 1 := fun e => hn (by rw [e])
  exact nI_lt (by omega) (by omega)
theorem cnt_eq {x : Int32} {b : Nat} (hn : x + nI 1 = nI (b + 1)) : ¬ x + nI 1 < nI (b + 1) := by rw [hn]; exact Int32.lt_irrefl
set_option maxHeartbeats 4000000 in
set_option maxRecDepth 100000 in
theorem tX9_spoil (Y : gY) (hY : Y.2.2.2 = wM) {G : gS} {fc n : Nat} {f b t : Int32} (hfc : G.1 100 41 = nI fc) (hf6 : fc ≤ 6) (hbl : ∀ f, f < fc → G.1 42 f = nI (cN (G.1 42 f)) ∧ cN (G.1 42 f) ≤ 12) (hf : G.1 100 45 = nI n) (hn : n ≤ 200) : ∀ l : Launch, gM Y l yX9_spoil cX9_spoil 4 (some .int) (1, 21) [.ref (Y.2.1 (100)), .int (f), .int (b), .int (t)] G (qi (fun r G' => if n < 200 ∧ (¬ f < 0 ∧ ¬ G.1 100 41 ≤ f ∧ ¬ b < 0 ∧ ¬ G.1 42 f.toNatClampNeg ≤ b) ∧ belB t (nI 300) = true then (r = nI n ∧ G' = sI (sI (sI G 49 (300 * (12 * cN f + cN b) + cN t) (nI 1)) 100 45 (nI (n + 1))) 100 53 (nI 0)) else (r = -1 ∧ G' = G))) := by
  intro l
  refine gM_of hY rfl (Nat.le_of_ble_eq_true rfl) [some (.ref (Y.2.1 (100))), some (.int (f)), some (.int (b)), some (.int (t))] rfl rfl ?_
  rintro Z rfl C
  refine r_aload0 (pc := 0) C dX9_spoil_0 ?_
  refine gX9_326 (pc := 1) C dX9_spoil_1 ?_
  refine r_eqi hf ?_
  refine r_sipush (pc := 4) (v := nI 200) C dX9_spoil_4 (by decide) ?_
  refine r_icmp_eq (pc := 7) 39 C dX9_spoil_7 (by decide) (fun c7 => ?_) (fun c7 => ?_)
  · have d7 : n = 200 := (nI_eq (by omega) (by decide)).mp c7
    refine r_iconst (pc := 39) (v := (-1)) C dX9_spoil_39 (by decide) ?_
    exact r_ireturn (pc := 40) C dX9_spoil_40 (by rw [if_neg (fun h => absurd h.1 (by omega))]; exact ⟨rfl, rfl⟩)
  · have d7 : n < 200 := by
      rcases Nat.lt_or_ge n 200 with h | h
      · exact h
      · exact absurd (by rw [show n = 200 by omega]) c7
    refine r_aload0 (pc := 10) C dX9_spoil_10 ?_
    refine r_iload1 (pc := 11) C dX9_spoil_11 ?_
    refine r_callVi (pc := 12) C rfl dX9_spoil_12 kX9_336 gF9 jM (tX9_isFile Z.1 C.w) rfl rfl (Nat.le_of_ble_eq_true rfl) (by decide) (fun x12 G12 h12 => ?_)
    obtain ⟨rfl, h12b⟩ := h12
    have h12b := h12b.symm
    subst h12b
    refine r_eqi (y := bI (belB f (nI fc))) (by rw [hfc]) ?_
    refine r_if_eq (pc := 15) 39 C dX9_spoil_15 (by decide) (fun c15 => ?_) (fun c15 => ?_)
    · refine r_iconst (pc := 39) (v := (-1)) C dX9_spoil_39 (by decide) ?_
      exact r_ireturn (pc := 40) C dX9_spoil_40 (by rw [if_neg (fun h => by have z := bI_z.mp c15; rw [belB, decide_eq_false_iff_not] at z; exact z ⟨h.2.1.1, by rw [← hfc]; exact h.2.1.2.1⟩)]; exact ⟨rfl, rfl⟩)
    · have hfb := bI_n.mp c15
      obtain ⟨i, hi, rfl⟩ := belB_t hfb (by omega)
      refine r_iload2 (pc := 18) C dX9_spoil_18 ?_
      refine r_if_lt (pc := 19) 39 C dX9_spoil_19 (by decide) (fun c19 => ?_) (fun c19 => ?_)
      · refine r_iconst (pc := 39) (v := (-1)) C dX9_spoil_39 (by decide) ?_
        exact r_ireturn (pc := 40) C dX9_spoil_40 (by rw [if_neg (fun h => h.2.1.2.2.1 c19)]; exact ⟨rfl, rfl⟩)
      · refine r_iload2 (pc := 22) C dX9_spoil_22 ?_
        refine r_aload0 (pc := 23) C dX9_spoil_23 ?_
        refine gX9_98 (pc := 24) C dX9_spoil_24 ?_
        refine r_iload1 (pc := 27) C dX9_spoil_27 ?_
        refine r_iald (pc := 28) (_) C dX9_spoil_28 aM42 (rfl) (by omega) ?_
        refine r_icmp_ge (pc := 29) 39 C dX9_spoil_29 (by decide) (fun c29 => ?_) (fun c29 => ?_)
        · refine r_iconst (pc := 39) (v := (-1)) C dX9_spoil_39 (by decide) ?_
          exact r_ireturn (pc := 40) C dX9_spoil_40 (by rw [if_neg (fun h => h.2.1.2.2.2 (by rw [nI_clamp (by omega)]; exact c29))]; exact ⟨rfl, rfl⟩)
        · refine r_iload3 (pc := 32) C dX9_spoil_32 ?_
          refine r_callSi (pc := 33) C rfl dX9_spoil_33 kX9_323 (tX9_isTick Z.1 C.w) rfl rfl (Nat.le_of_ble_eq_true rfl) (by decide) (fun x33 G33 h33 => ?_)
          obtain ⟨rfl, h33b⟩ := h33
          have h33b := h33b.symm
          subst h33b
          refine r_if_ne (pc := 36) 41 C dX9_spoil_36 (by decide) (fun c36 => ?_) (fun c36 => ?_)
          · obtain ⟨x, hx, rfl⟩ := belB_t (bI_n.mp c36) (by decide)
            obtain ⟨j, hj, rfl⟩ := nI_of c19
            have hj12 : j < 12 := by
              obtain ⟨b1, b2⟩ := hbl i hi
              rw [b1] at c29
              have : ¬ cN (G.1 42 i) ≤ j := fun h => c29 (nI_le h hj)
              omega
            refine r_aload0 (pc := 41) C dX9_spoil_41 ?_
            refine gX9_113 (pc := 42) C dX9_spoil_42 ?_
            refine r_sipush (pc := 45) (v := nI 300) C dX9_spoil_45 (by decide) ?_
            refine r_bipush (pc := 48) (v := nI 12) C dX9_spoil_48 (by decide) ?_
            refine r_iload1 (pc := 50) C dX9_spoil_50 ?_
            refine r_imul (pc := 51) C dX9_spoil_51 ?_
            refine r_eqi (pk_mul 12 i) ?_
            refine r_iload2 (pc := 52) C dX9_spoil_52 ?_
            refine r_iadd (pc := 53) C dX9_spoil_53 ?_
            refine r_eqi (nI_add _ _) ?_
            refine r_imul (pc := 54) C dX9_spoil_54 ?_
            refine r_eqi (pk_mul _ _) ?_
            refine r_iload3 (pc := 55) C dX9_spoil_55 ?_
            refine r_iadd (pc := 56) C dX9_spoil_56 ?_
            refine r_eqi (nI_add _ _) ?_
            refine r_iconst (pc := 57) (v := nI 1) C dX9_spoil_57 (by decide) ?_
            refine r_zast (pc := 58) (_) C dX9_spoil_58 aM49 (rfl) (by omega) (rfl) ?_
            refine r_aload0 (pc := 59) C dX9_spoil_59 ?_
            refine r_callVi (pc := 60) C rfl dX9_spoil_60 kX9_332 gF9 jM (tX9_fact Z.1 C.w (n := n) (by rw [sI_o (by decide)]; exact hf)) rfl rfl (Nat.le_of_ble_eq_true rfl) (by decide) (fun x60 G60 h60 => ?_)
            exact r_ireturn (pc := 63) C dX9_spoil_63 (by
  rw [if_pos ⟨d7, ⟨nI_pos (by omega), by rw [hfc]; exact nI_ge hi (by omega), c19, by rw [nI_clamp (by omega)]; exact c29⟩, bI_n.mp c36⟩, cN_nI (by omega), cN_nI (by omega), cN_nI (by omega)]
  exact h60)
          · refine r_iconst (pc := 39) (v := (-1)) C dX9_spoil_39 (by decide) ?_
            exact r_ireturn (pc := 40) C dX9_spoil_40 (by rw [if_neg (fun h => by rw [bI_z.mp c36] at h; cases h.2.2)]; exact ⟨rfl, rfl⟩)
set_option maxHeartbeats 4000000 in
set_option maxRecDepth 100000 in
theorem tX9_down (Y : gY) (hY : Y.2.2.2 = wM) {G : gS} {n : Nat} {k a b : Int32} (hf : G.1 100 45 = nI n) (hn : n ≤ 200) : ∀ l : Launch, gM Y l yX9_down cX9_down 5 (some .int) (1, 20) [.ref (Y.2.1 (100)), .int (k), .int (a), .int (b)] G (qi (fun r G' => if n < 200 ∧ belB k (nI 2) = true ∧ belB a b = true ∧ ¬ nI 300 < b then (r = nI n ∧ ∃ G1, Fr (fun q => q = 48) G G1 ∧ G' = sI (sI G1 100 45 (nI (n + 1))) 100 53 (nI 0) ∧ ∀ q, G1.1 48 q = if 300 * cN k + cN a ≤ q ∧ q < 300 * cN k + cN b then nI 1 else G.1 48 q) else (r = -1 ∧ G' = G))) := by
  intro l
  refine gM_of hY rfl (Nat.le_of_ble_eq_true rfl) [some (.ref (Y.2.1 (100))), some (.int (k)), some (.int (a)), some (.int (b)), none] rfl rfl ?_
  rintro Z rfl C
  refine r_aload0 (pc := 0) C dX9_down_0 ?_
  refine gX9_326 (pc := 1) C dX9_down_1 ?_
  refine r_eqi hf ?_
  refine r_sipush (pc := 4) (v := nI 200) C dX9_down_4 (by decide) ?_
  refine r_icmp_eq (pc := 7) 35 C dX9_down_7 (by decide) (fun c7 => ?_) (fun c7 => ?_)
  · have d7 : n = 200 := (nI_eq (by omega) (by decide)).mp c7
    refine r_iconst (pc := 35) (v := (-1)) C dX9_down_35 (by decide) ?_
    exact r_ireturn (pc := 36) C dX9_down_36 (by rw [if_neg (fun h => absurd h.1 (by omega))]; exact ⟨rfl, rfl⟩)
  · have d7 : n < 200 := by
      rcases Nat.lt_or_ge n 200 with h | h
      · exact h
      · exact absurd (by rw [show n = 200 by omega]) c7
    refine r_iload1 (pc := 10) C dX9_down_10 ?_
    refine r_if_lt (pc := 11) 35 C dX9_down_11 (by decide) (fun c11 => ?_) (fun c11 => ?_)
    · refine r_iconst (pc := 35) (v := (-1)) C dX9_down_35 (by decide) ?_
      exact r_ireturn (pc := 36) C dX9_down_36 (by rw [if_neg (fun h => ((belB_m (b := 1) (by decide)).mp h.2.1).1 c11)]; exact ⟨rfl, rfl⟩)
    · refine r_iload1 (pc := 14) C dX9_down_14 ?_
      refine r_iconst (pc := 15) (v := nI 1) C dX9_down_15 (by decide) ?_
      refine r_icmp_gt (pc := 16) 35 C dX9_down_16 (by decide) (fun c16 => ?_) (fun c16 => ?_)
      · refine r_iconst (pc := 35) (v := (-1)) C dX9_down_35 (by decide) ?_
        exact r_ireturn (pc := 36) C dX9_down_36 (by rw [if_neg (fun h => ((belB_m (b := 1) (by decide)).mp h.2.1).2 c16)]; exact ⟨rfl, rfl⟩)
      · refine r_iload2 (pc := 19) C dX9_down_19 ?_
        refine r_if_lt (pc := 20) 35 C dX9_down_20 (by decide) (fun c20 => ?_) (fun c20 => ?_)
        · refine r_iconst (pc := 35) (v := (-1)) C dX9_down_35 (by decide) ?_
          exact r_ireturn (pc := 36) C dX9_down_36 (by rw [if_neg (fun h => (of_decide_eq_true h.2.2.1).1 c20)]; exact ⟨rfl, rfl⟩)
        · refine r_iload2 (pc := 23) C dX9_down_23 ?_
          refine r_iload3 (pc := 24) C dX9_down_24 ?_
          refine r_icmp_ge (pc := 25) 35 C dX9_down_25 (by decide) (fun c25 => ?_) (fun c25 => ?_)
          · refine r_iconst (pc := 35) (v := (-1)) C dX9_down_35 (by decide) ?_
            exact r_ireturn (pc := 36) C dX9_down_36 (by rw [if_neg (fun h => (of_decide_eq_true h.2.2.1).2 c25)]; exact ⟨rfl, rfl⟩)
          · refine r_iload3 (pc := 28) C dX9_down_28 ?_
            refine r_sipush (pc := 29) (v := nI 300) C dX9_down_29 (by decide) ?_
            refine r_icmp_le (pc := 32) 37 C dX9_down_32 (by decide) (fun c32 => ?_) (fun c32 => ?_)
            · have hcond : n < 200 ∧ belB k (nI 2) = true ∧ belB a b = true ∧ ¬ nI 300 < b := ⟨d7, (belB_m (b := 1) (by decide)).mpr ⟨c11, c16⟩, decide_eq_true ⟨c20, c25⟩, Int32.not_lt.mpr c32⟩
              obtain ⟨k, hk, rfl⟩ := belB_t hcond.2.1 (by decide)
              obtain ⟨a, ha, rfl⟩ := nI_of c20
              obtain ⟨b, hb, rfl⟩ := nI_of (x := b) (fun h => c25 (Int32.le_of_lt (Int32.lt_of_lt_of_le h (Int32.not_lt.mp c20))))
              have hb3 : b ≤ 300 := (nI_leI hb (by decide)).mp c32
              have hab : a < b := by
                rcases Nat.lt_or_ge a b with h | h
                · exact h
                · exact absurd (nI_le h ha) c25
              have loop : ∀ (k0 : Nat) (x : Nat) (G1 : gS), k0 = b - x → a ≤ x → x ≤ b → Fr (fun q => q = 48) G G1 → (∀ q, G1.1 48 q = if 300 * k + a ≤ q ∧ q < 300 * k + x then nI 1 else G.1 48 q) → WW Z (qi (fun r G' => if n < 200 ∧ belB (nI k) (nI 2) = true ∧ belB (nI a) (nI b) = true ∧ ¬ nI 300 < nI b then (r = nI n ∧ ∃ G1, Fr (fun q => q = 48) G G1 ∧ G' = sI (sI G1 100 45 (nI (n + 1))) 100 53 (nI 0) ∧ ∀ q, G1.1 48 q = if 300 * cN (nI k) + cN (nI a) ≤ q ∧ q < 300 * cN (nI k) + cN (nI b) then nI 1 else G.1 48 q) else (r = -1 ∧ G' = G))) 40 [some (.ref (ad Z (100))), some (.int (nI k)), some (.int (nI a)), some (.int (nI b)), some (.int (nI x))] [] G1 := by
                intro k0
                induction k0 using Nat.strongRecOn with
                | _ k0 ih =>
                  intro x G1 hk0 hax hxb0 hfr hdn
                  refine r_iload4 (pc := 40) C dX9_down_40 ?_
                  refine r_iload3 (pc := 42) C dX9_down_42 ?_
                  refine r_icmp_ge (pc := 43) 66 C dX9_down_43 (by decide) (fun c43 => ?_) (fun c43 => ?_)
                  · obtain rfl : x = b := by have := (nI_leI (by omega) (by omega)).mp c43; omega
                    refine r_aload0 (pc := 66) C dX9_down_66 ?_
                    refine r_callVi (pc := 67) C rfl dX9_down_67 kX9_332 gF9 jM (tX9_fact Z.1 C.w (n := n) (by rw [hfr.1 100 (by decide)]; exact hf)) rfl rfl (Nat.le_of_ble_eq_true rfl) (by decide) (fun x67 G67 h67 => ?_)
                    obtain ⟨rfl, rfl⟩ := h67
                    exact r_ireturn (pc := 70) C dX9_down_70 (by
                    rw [if_pos hcond, cN_nI (by omega), cN_nI (by omega), cN_nI (by omega)]
                    exact ⟨rfl, G1, hfr, rfl, hdn⟩)
                  · have hxb : x < b := by
                      rcases Nat.lt_or_ge x b with h | h
                      · exact h
                      · exact absurd (nI_le h (by omega)) c43
                    refine r_aload0 (pc := 46) C dX9_down_46 ?_
                    refine gX9_110 (pc := 47) C dX9_down_47 ?_
                    refine r_sipush (pc := 50) (v := nI 300) C dX9_down_50 (by decide) ?_
                    refine r_iload1 (pc := 53) C dX9_down_53 ?_
                    refine r_imul (pc := 54) C dX9_down_54 ?_
                    refine r_eqi (pk_mul 300 k) ?_
                    refine r_iload4 (pc := 55) C dX9_down_55 ?_
                    refine r_iadd (pc := 57) C dX9_down_57 ?_
                    refine r_eqi (nI_add _ _) ?_
                    refine r_iconst (pc := 58) (v := nI 1) C dX9_down_58 (by decide) ?_
                    refine r_zast (pc := 59) (_) C dX9_down_59 aM48 (rfl) (by omega) (rfl) ?_
                    have hdn2 : ∀ q, (sI G1 48 (300 * k + x) (nI 1)).1 48 q = if 300 * k + a ≤ q ∧ q < 300 * k + (x + 1) then nI 1 else G.1 48 q := by
                      intro q
                      rw [sI_s]
                      by_cases e : q = 300 * k + x
                      · subst e; rw [upd_s, if_pos (by omega)]
                      · rw [upd_o e, hdn q]
                        by_cases e2 : 300 * k + a ≤ q ∧ q < 300 * k + x
                        · rw [if_pos e2, if_pos (by omega)]
                        · rw [if_neg e2, if_neg (by omega)]
                    refine r_iinc4 (pc := 60) (nI 1) C dX9_down_60 (by decide) rfl ?_
                    rw [nI_add]
                    refine r_goto (pc := 63) 40 C dX9_down_63 (by decide) ?_
                    exact ih (b - (x + 1)) (by omega) (x + 1) _ rfl (by omega) (by omega) (hfr.sI rfl) hdn2
              refine r_iload2 (pc := 37) C dX9_down_37 ?_
              refine r_istore4 (pc := 38) C dX9_down_38 rfl ?_
              exact loop _ a G rfl (Nat.le_refl a) (by omega) Fr.refl (fun q => (if_neg (by omega)).symm)
            · refine r_iconst (pc := 35) (v := (-1)) C dX9_down_35 (by decide) ?_
              exact r_ireturn (pc := 36) C dX9_down_36 (by rw [if_neg (fun h => c32 (Int32.not_lt.mp h.2.2.2))]; exact ⟨rfl, rfl⟩)
set_option maxHeartbeats 4000000 in
set_option maxRecDepth 100000 in
theorem tX9_powers (Y : gY) (hY : Y.2.2.2 = wM) {G : gS} {i t : Nat} {cut : Bool} (hi : i < 8) (ht : t < 300) (hcut : G.1 47 (300 * i + t) = bI cut) (hk : mmF G i 0 = nI (kN (mmF G i)) ∧ kN (mmF G i) < 4) (h7 : mmF G i 3 = nI 0 → mmF G i 7 = nI 0) : ∀ l : Launch, gM Y l yX9_powers cX9_powers 3 none (1, 21) [.ref (Y.2.1 (100)), .int (nI i), .int (nI t)] G (qv (fun G' => Fr sMM G G' ∧ mmF G' = va_up (mmF G) i (pw1 cut (G.1 40 (kN (mmF G i))) (nI t) (mmF G i)))) := by
  intro l
  refine gM_of hY rfl (Nat.le_of_ble_eq_true rfl) [some (.ref (Y.2.1 (100))), some (.int (nI i)), some (.int (nI t))] rfl rfl ?_
  rintro Z rfl C
  refine r_aload0 (pc := 0) C dX9_powers_0 ?_
  refine gX9_107 (pc := 1) C dX9_powers_1 ?_
  refine r_sipush (pc := 4) (v := nI 300) C dX9_powers_4 (by decide) ?_
  refine r_iload1 (pc := 7) C dX9_powers_7 ?_
  refine r_imul (pc := 8) C dX9_powers_8 ?_
  refine r_eqi (pk_mul 300 i) ?_
  refine r_iload2 (pc := 9) C dX9_powers_9 ?_
  refine r_iadd (pc := 10) C dX9_powers_10 ?_
  refine r_eqi (nI_add _ _) ?_
  refine r_zald (pc := 11) (_) C dX9_powers_11 aM47 (rfl) (by omega) ?_
  refine r_eqi hcut ?_
  refine r_if_eq (pc := 12) 43 C dX9_powers_12 (by decide) (fun c12 => ?_) (fun c12 => ?_)
  · have d12 : cut = false := bI_z.mp c12
    subst d12
    refine r_aload0 (pc := 43) C dX9_powers_43 ?_
    refine gX9_158 (pc := 44) C dX9_powers_44 ?_
    refine r_iload1 (pc := 47) C dX9_powers_47 ?_
    refine r_iald (pc := 48) (_) C dX9_powers_48 aM67 (rfl) (by omega) ?_
    refine r_eqi (mg67 hi) ?_
    refine r_if_ne (pc := 49) 77 C dX9_powers_49 (by decide) (fun c49 => ?_) (fun c49 => ?_)
    · exact r_return (pc := 77) C dX9_powers_77 (⟨Fr.refl, by unfold pw1; rw [if_neg (by decide), if_neg (fun h => c49 h.1), va_up_id]⟩)
    · refine r_iload2 (pc := 52) C dX9_powers_52 ?_
      refine r_aload0 (pc := 53) C dX9_powers_53 ?_
      refine gX9_161 (pc := 54) C dX9_powers_54 ?_
      refine r_iload1 (pc := 57) C dX9_powers_57 ?_
      refine r_iald (pc := 58) (_) C dX9_powers_58 aM68 (rfl) (by omega) ?_
      refine r_eqi (mg68 hi) ?_
      refine r_icmp_lt (pc := 59) 77 C dX9_powers_59 (by decide) (fun c59 => ?_) (fun c59 => ?_)
      · exact r_return (pc := 77) C dX9_powers_77 (⟨Fr.refl, by unfold pw1; rw [if_neg (by decide), if_neg (fun h => h.2.1 c59), va_up_id]⟩)
      · refine r_iload2 (pc := 62) C dX9_powers_62 ?_
        refine r_aload0 (pc := 63) C dX9_powers_63 ?_
        refine gX9_95 (pc := 64) C dX9_powers_64 ?_
        refine r_aload0 (pc := 67) C dX9_powers_67 ?_
        refine gX9_86 (pc := 68) C dX9_powers_68 ?_
        refine r_iload1 (pc := 71) C dX9_powers_71 ?_
        refine r_iald (pc := 72) (_) C dX9_powers_72 aM37 (rfl) (by omega) ?_
        refine r_eqi (y := nI (kN (mmF G i))) ((mg37 hi).trans hk.1) ?_
        refine r_iald (pc := 73) (_) C dX9_powers_73 aM40 (rfl) (hk.2) ?_
        refine r_icmp_ge (pc := 74) 78 C dX9_powers_74 (by decide) (fun c74 => ?_) (fun c74 => ?_)
        · refine r_aload0 (pc := 78) C dX9_powers_78 ?_
          refine gX9_158 (pc := 79) C dX9_powers_79 ?_
          refine r_iload1 (pc := 82) C dX9_powers_82 ?_
          refine r_iconst (pc := 83) (v := nI 1) C dX9_powers_83 (by decide) ?_
          refine r_iast (pc := 84) (_) C dX9_powers_84 aM67 (rfl) (by omega) ?_
          refine r_aload0 (pc := 85) C dX9_powers_85 ?_
          refine gX9_191 (pc := 86) C dX9_powers_86 ?_
          refine r_iload1 (pc := 89) C dX9_powers_89 ?_
          refine r_dup2 (pc := 90) C dX9_powers_90 rfl rfl ?_
          refine r_iald (pc := 91) (_) C dX9_powers_91 aM78 (rfl) (by omega) ?_
          refine r_eqi (y := mmF G i 11) (by rw [sI_o (by decide)]; exact mg78 hi) ?_
          refine r_iconst (pc := 92) (v := nI 1) C dX9_powers_92 (by decide) ?_
          refine r_iadd (pc := 93) C dX9_powers_93 ?_
          refine r_iast (pc := 94) (_) C dX9_powers_94 aM78 (rfl) (by omega) ?_
          refine r_aload0 (pc := 95) C dX9_powers_95 ?_
          refine r_iload1 (pc := 96) C dX9_powers_96 ?_
          refine r_callVv (pc := 97) C rfl dX9_powers_97 kX9_353 gF9 jM (tX9_clears Z.1 C.w hi) rfl rfl (Nat.le_of_ble_eq_true rfl) (by decide) (fun G97 h97 => ?_)
          obtain ⟨f97, m97⟩ := h97
          refine r_aload0 (pc := 100) C dX9_powers_100 ?_
          refine gX9_164 (pc := 101) C dX9_powers_101 ?_
          refine r_iload1 (pc := 104) C dX9_powers_104 ?_
          refine r_iload2 (pc := 105) C dX9_powers_105 ?_
          refine r_iast (pc := 106) (_) C dX9_powers_106 aM69 (rfl) (by omega) ?_
          exact r_return (pc := 107) C dX9_powers_107 (by
  refine ⟨(Fr.trans ((Fr.refl.sI sM67).sI sM78) f97).sI sM69, ?_⟩
  rw [mm69 hi, m97, mm78 hi, mm67 hi]
  simp only [va_up_self, bx_uu]
  unfold pw1
  rw [if_neg (by decide), if_pos ⟨c49, c59, Int32.not_lt.mpr c74⟩, mBegin, ← mBg_eq]
  congr 1
  refine (upd_id ?_).symm
  show mmF G i 7 = nI 0
  exact h7 c49)
        · exact r_return (pc := 77) C dX9_powers_77 (⟨Fr.refl, by unfold pw1; rw [if_neg (by decide), if_neg (fun h => c74 (Int32.not_lt.mp h.2.2)), va_up_id]⟩)
  · have d12 : cut = true := bI_n.mp c12
    subst d12
    refine r_aload0 (pc := 15) C dX9_powers_15 ?_
    refine gX9_158 (pc := 16) C dX9_powers_16 ?_
    refine r_iload1 (pc := 19) C dX9_powers_19 ?_
    refine r_iconst (pc := 20) (v := nI 0) C dX9_powers_20 (by decide) ?_
    refine r_iast (pc := 21) (_) C dX9_powers_21 aM67 (rfl) (by omega) ?_
    refine r_aload0 (pc := 22) C dX9_powers_22 ?_
    refine gX9_179 (pc := 23) C dX9_powers_23 ?_
    refine r_iload1 (pc := 26) C dX9_powers_26 ?_
    refine r_iconst (pc := 27) (v := nI 0) C dX9_powers_27 (by decide) ?_
    refine r_iast (pc := 28) (_) C dX9_powers_28 aM74 (rfl) (by omega) ?_
    refine r_aload0 (pc := 29) C dX9_powers_29 ?_
    refine gX9_161 (pc := 30) C dX9_powers_30 ?_
    refine r_iload1 (pc := 33) C dX9_powers_33 ?_
    refine r_iload2 (pc := 34) C dX9_powers_34 ?_
    refine r_iconst (pc := 35) (v := nI 3) C dX9_powers_35 (by decide) ?_
    refine r_iadd (pc := 36) C dX9_powers_36 ?_
    refine r_iast (pc := 37) (_) C dX9_powers_37 aM68 (rfl) (by omega) ?_
    refine r_aload0 (pc := 38) C dX9_powers_38 ?_
    refine r_iload1 (pc := 39) C dX9_powers_39 ?_
    refine r_callVv (pc := 40) C rfl dX9_powers_40 kX9_353 gF9 jM (tX9_clears Z.1 C.w hi) rfl rfl (Nat.le_of_ble_eq_true rfl) (by decide) (fun G40 h40 => ?_)
    obtain ⟨f40, m40⟩ := h40
    have e40 : mmF G40 = va_up (mmF G) i (mLose (nI t) (mmF G i)) := by
      rw [m40, mm68 hi, mm74 hi, mm67 hi]
      simp only [va_up_self, bx_uu]
      rw [mLs_eq]
      rfl
    have g40 : Fr sMM G G40 := Fr.trans (((Fr.refl.sI sM67).sI sM74).sI sM68) f40
    refine r_aload0 (pc := 43) C dX9_powers_43 ?_
    refine gX9_158 (pc := 44) C dX9_powers_44 ?_
    refine r_iload1 (pc := 47) C dX9_powers_47 ?_
    refine r_iald (pc := 48) (_) C dX9_powers_48 aM67 (rfl) (by omega) ?_
    refine r_eqi (y := nI 0) (by rw [mg67 hi, e40, va_up_self]; rfl) ?_
    refine r_if_ne (pc := 49) 77 C dX9_powers_49 (by decide) (fun c49 => ?_) (fun c49 => ?_)
    · exact absurd c49 (by decide)
    refine r_iload2 (pc := 52) C dX9_powers_52 ?_
    refine r_aload0 (pc := 53) C dX9_powers_53 ?_
    refine gX9_161 (pc := 54) C dX9_powers_54 ?_
    refine r_iload1 (pc := 57) C dX9_powers_57 ?_
    refine r_iald (pc := 58) (_) C dX9_powers_58 aM68 (rfl) (by omega) ?_
    refine r_eqi (y := nI (t + 3)) (by rw [mg68 hi, e40, va_up_self, ← nI_add]; rfl) ?_
    refine r_icmp_lt (pc := 59) 77 C dX9_powers_59 (by decide) (fun c59 => ?_) (fun c59 => ?_)
    rotate_left
    · exact absurd c59 (fun h => h (nI_lt (by omega) (by omega)))
    exact r_return (pc := 77) C dX9_powers_77 (⟨g40, by rw [e40]; rfl⟩)
set_option maxHeartbeats 4000000 in
set_option maxRecDepth 100000 in
theorem tX9_gets (Y : gY) (hY : Y.2.2.2 = wM) {G : gS} {i t : Nat} {got lost wr : Bool} {fc : Int32} {bl nx : Nat → Int32} (hi : i < 8) (ht : t < 300) (h2 : mmF G i 3 = nI 2) (hrn : rN (mmF G i)) (hfb : mmF G i 4 = nI (cN (mmF G i 4)) ∧ cN (mmF G i 4) < 6 ∧ mmF G i 5 = nI (cN (mmF G i 5)) ∧ cN (mmF G i 5) < 12) (hgot : G.1 80 (blkN (mmF G i)) = bI got) (hlost : G.1 46 (300 * i + t) = bI lost) (hwr : G.1 49 (300 * blkN (mmF G i) + t) = bI wr) (hfc : G.1 100 41 = fc) (hbl : G.1 42 (cN (mmF G i 4)) = bl (cN (mmF G i 4))) (hnx : G.1 43 (cN (mmF G i 4)) = nx (cN (mmF G i 4))) : ∀ l : Launch, gM Y l yX9_gets cX9_gets 5 none (1, 22) [.ref (Y.2.1 (100)), .int (nI i), .int (nI t)] G (qv (fun G' => Fr sMM G G' ∧ ∃ g, mmF G' = va_up (mmF G) i g ∧ rE (rcvF fc bl nx (nI t) got lost wr (mmF G i)) g)) := by
  intro l
  refine gM_of hY rfl (Nat.le_of_ble_eq_true rfl) [some (.ref (Y.2.1 (100))), some (.int (nI i)), some (.int (nI t)), none, none] rfl rfl ?_
  rintro Z rfl C
  obtain ⟨o1, o2, o3, o4⟩ := hfb
  obtain ⟨q7, -, q9, q10⟩ := hrn.1 (by rw [h2]; decide)
  have q12 := hrn.2 h2
  have hb72 : blkN (mmF G i) < 72 := by unfold blkN; omega
  refine r_bipush (pc := 0) (v := nI 12) C dX9_gets_0 (by decide) ?_
  refine r_aload0 (pc := 2) C dX9_gets_2 ?_
  refine gX9_167 (pc := 3) C dX9_gets_3 ?_
  refine r_iload1 (pc := 6) C dX9_gets_6 ?_
  refine r_iald (pc := 7) (_) C dX9_gets_7 aM70 (rfl) (by omega) ?_
  refine r_eqi (y := nI (cN (mmF G i 4))) ((mg70 hi).trans o1) ?_
  refine r_imul (pc := 8) C dX9_gets_8 ?_
  refine r_eqi (pk_mul 12 _) ?_
  refine r_aload0 (pc := 9) C dX9_gets_9 ?_
  refine gX9_170 (pc := 10) C dX9_gets_10 ?_
  refine r_iload1 (pc := 13) C dX9_gets_13 ?_
  refine r_iald (pc := 14) (_) C dX9_gets_14 aM71 (rfl) (by omega) ?_
  refine r_eqi (y := nI (cN (mmF G i 5))) ((mg71 hi).trans o3) ?_
  refine r_iadd (pc := 15) C dX9_gets_15 ?_
  refine r_eqi (y := nI (blkN (mmF G i))) (nI_add _ _) ?_
  refine r_istore3 (pc := 16) C dX9_gets_16 rfl ?_
  refine r_aload0 (pc := 17) C dX9_gets_17 ?_
  refine gX9_197 (pc := 18) C dX9_gets_18 ?_
  refine r_iload3 (pc := 21) C dX9_gets_21 ?_
  refine r_zald (pc := 22) (_) C dX9_gets_22 aM80 (rfl) (hb72) ?_
  refine r_eqi hgot ?_
  refine r_if_eq (pc := 23) 41 C dX9_gets_23 (by decide) (fun c23 => ?_) (fun c23 => ?_)
  · refine r_aload0 (pc := 41) C dX9_gets_41 ?_
    refine gX9_188 (pc := 42) C dX9_gets_42 ?_
    refine r_iload1 (pc := 45) C dX9_gets_45 ?_
    refine r_dup2 (pc := 46) C dX9_gets_46 rfl rfl ?_
    refine r_iald (pc := 47) (_) C dX9_gets_47 aM77 (rfl) (by omega) ?_
    refine r_eqi (mg77 hi) ?_
    refine r_iconst (pc := 48) (v := nI 1) C dX9_gets_48 (by decide) ?_
    refine r_iadd (pc := 49) C dX9_gets_49 ?_
    refine r_iast (pc := 50) (_) C dX9_gets_50 aM77 (rfl) (by omega) ?_
    refine r_aload0 (pc := 51) C dX9_gets_51 ?_
    refine gX9_188 (pc := 52) C dX9_gets_52 ?_
    refine r_iload1 (pc := 55) C dX9_gets_55 ?_
    refine r_iald (pc := 56) (_) C dX9_gets_56 aM77 (rfl) (by omega) ?_
    refine r_eqi (y := mmF G i 10 + nI 1) (by rw [sI_s, upd_s]) ?_
    refine r_bipush (pc := 57) (v := nI 12) C dX9_gets_57 (by decide) ?_
    refine r_icmp_ne (pc := 59) 68 C dX9_gets_59 (by decide) (fun c59 => ?_) (fun c59 => ?_)
    · exact r_return (pc := 68) C dX9_gets_68 (⟨Fr.refl.sI sM77, _, mm77 hi, Or.inl (by rw [rcvF, if_pos (by rw [bI_z.mp c23]; rfl), mNone, if_pos (cnt_ne q10.1 q10.2 (by decide) c59)])⟩)
    · refine r_aload0 (pc := 62) C dX9_gets_62 ?_
      refine r_iload1 (pc := 63) C dX9_gets_63 ?_
      refine r_iconst (pc := 64) (v := nI 4) C dX9_gets_64 (by decide) ?_
      refine r_callVv (pc := 65) C rfl dX9_gets_65 kX9_378 gF9 jM (tX9_rescue Z.1 C.w hi) rfl rfl (Nat.le_of_ble_eq_true rfl) (by decide) (fun G65 h65 => ?_)
      obtain ⟨f65, m65⟩ := h65
      exact r_return (pc := 68) C dX9_gets_68 (⟨Fr.trans (Fr.refl.sI sM77) f65, _, by rw [m65, mm77 hi, va_up_self, bx_uu], Or.inl (by rw [rcvF, if_pos (by rw [bI_z.mp c23]; rfl), mNone, if_neg (cnt_eq c59)])⟩)
  · refine r_aload0 (pc := 26) C dX9_gets_26 ?_
    refine gX9_104 (pc := 27) C dX9_gets_27 ?_
    refine r_sipush (pc := 30) (v := nI 300) C dX9_gets_30 (by decide) ?_
    refine r_iload1 (pc := 33) C dX9_gets_33 ?_
    refine r_imul (pc := 34) C dX9_gets_34 ?_
    refine r_eqi (pk_mul 300 i) ?_
    refine r_iload2 (pc := 35) C dX9_gets_35 ?_
    refine r_iadd (pc := 36) C dX9_gets_36 ?_
    refine r_eqi (nI_add _ _) ?_
    refine r_zald (pc := 37) (_) C dX9_gets_37 aM46 (rfl) (by omega) ?_
    refine r_eqi hlost ?_
    refine r_if_eq (pc := 38) 69 C dX9_gets_38 (by decide) (fun c38 => ?_) (fun c38 => ?_)
    · refine r_aload0 (pc := 69) C dX9_gets_69 ?_
      refine gX9_113 (pc := 70) C dX9_gets_70 ?_
      refine r_sipush (pc := 73) (v := nI 300) C dX9_gets_73 (by decide) ?_
      refine r_iload3 (pc := 76) C dX9_gets_76 ?_
      refine r_imul (pc := 77) C dX9_gets_77 ?_
      refine r_eqi (pk_mul 300 _) ?_
      refine r_iload2 (pc := 78) C dX9_gets_78 ?_
      refine r_iadd (pc := 79) C dX9_gets_79 ?_
      refine r_eqi (nI_add _ _) ?_
      refine r_zald (pc := 80) (_) C dX9_gets_80 aM49 (rfl) (by unfold blkN at hb72 ⊢; omega) ?_
      refine r_eqi hwr ?_
      refine r_if_eq (pc := 81) 111 C dX9_gets_81 (by decide) (fun c81 => ?_) (fun c81 => ?_)
      · have d23 : got = true := bI_n.mp c23
        have d38 : lost = false := bI_z.mp c38
        have d81 : wr = false := bI_z.mp c81
        subst d23 d38 d81
        refine r_aload0 (pc := 111) C dX9_gets_111 ?_
        refine gX9_188 (pc := 112) C dX9_gets_112 ?_
        refine r_iload1 (pc := 115) C dX9_gets_115 ?_
        refine r_iconst (pc := 116) (v := nI 0) C dX9_gets_116 (by decide) ?_
        refine r_iast (pc := 117) (_) C dX9_gets_117 aM77 (rfl) (by omega) ?_
        refine r_aload0 (pc := 118) C dX9_gets_118 ?_
        refine gX9_170 (pc := 119) C dX9_gets_119 ?_
        refine r_iload1 (pc := 122) C dX9_gets_122 ?_
        refine r_dup2 (pc := 123) C dX9_gets_123 rfl rfl ?_
        refine r_iald (pc := 124) (_) C dX9_gets_124 aM71 (rfl) (by omega) ?_
        refine r_eqi (y := mmF G i 5) (by rw [sI_o (by decide)]; exact mg71 hi) ?_
        refine r_iconst (pc := 125) (v := nI 1) C dX9_gets_125 (by decide) ?_
        refine r_iadd (pc := 126) C dX9_gets_126 ?_
        refine r_iast (pc := 127) (_) C dX9_gets_127 aM71 (rfl) (by omega) ?_
        refine r_aload0 (pc := 128) C dX9_gets_128 ?_
        refine gX9_170 (pc := 129) C dX9_gets_129 ?_
        refine r_iload1 (pc := 132) C dX9_gets_132 ?_
        refine r_iald (pc := 133) (_) C dX9_gets_133 aM71 (rfl) (by omega) ?_
        refine r_eqi (y := mmF G i 5 + nI 1) (by rw [sI_s, upd_s]) ?_
        refine r_aload0 (pc := 134) C dX9_gets_134 ?_
        refine gX9_98 (pc := 135) C dX9_gets_135 ?_
        refine r_aload0 (pc := 138) C dX9_gets_138 ?_
        refine gX9_167 (pc := 139) C dX9_gets_139 ?_
        refine r_iload1 (pc := 142) C dX9_gets_142 ?_
        refine r_iald (pc := 143) (_) C dX9_gets_143 aM70 (rfl) (by omega) ?_
        refine r_eqi (y := nI (cN (mmF G i 4))) (by rw [sI_o (by decide), sI_o (by decide)]; exact (mg70 hi).trans o1) ?_
        refine r_iald (pc := 144) (_) C dX9_gets_144 aM42 (rfl) (by omega) ?_
        refine r_eqi (y := G.1 42 (cN (mmF G i 4))) (by rw [sI_o (by decide), sI_o (by decide)]) ?_
        refine r_icmp_ge (pc := 145) 149 C dX9_gets_145 (by decide) (fun c145 => ?_) (fun c145 => ?_)
        · refine r_aload0 (pc := 149) C dX9_gets_149 ?_
          refine gX9_101 (pc := 150) C dX9_gets_150 ?_
          refine r_aload0 (pc := 153) C dX9_gets_153 ?_
          refine gX9_167 (pc := 154) C dX9_gets_154 ?_
          refine r_iload1 (pc := 157) C dX9_gets_157 ?_
          refine r_iald (pc := 158) (_) C dX9_gets_158 aM70 (rfl) (by omega) ?_
          refine r_eqi (y := nI (cN (mmF G i 4))) (by rw [sI_o (by decide), sI_o (by decide)]; exact (mg70 hi).trans o1) ?_
          refine r_iald (pc := 159) (_) C dX9_gets_159 aM43 (rfl) (by omega) ?_
          refine r_eqi (y := nx (cN (mmF G i 4))) (by rw [sI_o (by decide), sI_o (by decide)]; exact hnx) ?_
          refine r_istore4 (pc := 160) C dX9_gets_160 rfl ?_
          refine r_aload0 (pc := 162) C dX9_gets_162 ?_
          refine gX9_170 (pc := 163) C dX9_gets_163 ?_
          refine r_iload1 (pc := 166) C dX9_gets_166 ?_
          refine r_iconst (pc := 167) (v := nI 0) C dX9_gets_167 (by decide) ?_
          refine r_iast (pc := 168) (_) C dX9_gets_168 aM71 (rfl) (by omega) ?_
          refine r_aload0 (pc := 169) C dX9_gets_169 ?_
          refine gX9_173 (pc := 170) C dX9_gets_170 ?_
          refine r_iload1 (pc := 173) C dX9_gets_173 ?_
          refine r_iload2 (pc := 174) C dX9_gets_174 ?_
          refine r_iconst (pc := 175) (v := nI 1) C dX9_gets_175 (by decide) ?_
          refine r_iadd (pc := 176) C dX9_gets_176 ?_
          refine r_iast (pc := 177) (_) C dX9_gets_177 aM72 (rfl) (by omega) ?_
          refine r_iload4 (pc := 178) C dX9_gets_178 ?_
          refine r_iconst (pc := 180) (v := (-1)) C dX9_gets_180 (by decide) ?_
          refine r_icmp_ne (pc := 181) 192 C dX9_gets_181 (by decide) (fun c181 => ?_) (fun c181 => ?_)
          · refine r_aload0 (pc := 192) C dX9_gets_192 ?_
            refine gX9_194 (pc := 193) C dX9_gets_193 ?_
            refine r_iload1 (pc := 196) C dX9_gets_196 ?_
            refine r_dup2 (pc := 197) C dX9_gets_197 rfl rfl ?_
            refine r_iald (pc := 198) (_) C dX9_gets_198 aM79 (rfl) (by omega) ?_
            refine r_eqi (y := mmF G i 12) (by rw [sI_o (by decide), sI_o (by decide), sI_o (by decide), sI_o (by decide)]; exact mg79 hi) ?_
            refine r_iconst (pc := 199) (v := nI 1) C dX9_gets_199 (by decide) ?_
            refine r_iadd (pc := 200) C dX9_gets_200 ?_
            refine r_iast (pc := 201) (_) C dX9_gets_201 aM79 (rfl) (by omega) ?_
            refine r_aload0 (pc := 202) C dX9_gets_202 ?_
            refine gX9_194 (pc := 203) C dX9_gets_203 ?_
            refine r_iload1 (pc := 206) C dX9_gets_206 ?_
            refine r_iald (pc := 207) (_) C dX9_gets_207 aM79 (rfl) (by omega) ?_
            refine r_eqi (y := mmF G i 12 + nI 1) (by rw [sI_s, upd_s]) ?_
            refine r_iconst (pc := 208) (v := nI 4) C dX9_gets_208 (by decide) ?_
            refine r_icmp_eq (pc := 209) 221 C dX9_gets_209 (by decide) (fun c209 => ?_) (fun c209 => ?_)
            · refine r_aload0 (pc := 221) C dX9_gets_221 ?_
              refine r_iload1 (pc := 222) C dX9_gets_222 ?_
              refine r_iconst (pc := 223) (v := nI 5) C dX9_gets_223 (by decide) ?_
              refine r_callVv (pc := 224) C rfl dX9_gets_224 kX9_378 gF9 jM (tX9_rescue Z.1 C.w hi) rfl rfl (Nat.le_of_ble_eq_true rfl) (by decide) (fun G224 h224 => ?_)
              obtain ⟨f224, m224⟩ := h224
              refine r_goto (pc := 227) 238 C dX9_gets_227 (by decide) ?_
              exact r_return (pc := 238) C dX9_gets_238 (by
  have hne : ¬ nx (cN (mmF G i 4)) = -1 := c181
  have hcnd : nI 4 ≤ upd (upd (mmF G i) 10 (nI 0)) 5 (mmF G i 5 + nI 1) 12 + nI 1 ∨ fc ≤ nx (cN (mmF G i 4)) := Or.inl (by show nI 4 ≤ mmF G i 12 + nI 1; rw [c209]; exact Int32.le_refl _)
  refine ⟨Fr.trans (((((Fr.refl.sI sM77).sI sM71).sI sM71).sI sM72).sI sM79) f224, _, by rw [m224, mm79 hi, mm72 hi, mm71 hi, mm71 hi, mm77 hi]; simp only [va_up_self, bx_uu]; rfl, Or.inr ?_⟩
  rw [rcvF, if_neg (by decide), if_neg (by decide), if_neg (by rw [← hbl]; exact Int32.not_lt.mpr c145), goF, if_neg hne, if_pos hcnd]
  refine ⟨⟨by show nI 5 ≠ nI 2; decide, by show nI 5 ≠ nI 3; decide⟩, nI t + nI 1, ?_⟩
  exact mRs_eq (upd (upd (mmF G i) 10 (nI 0)) 5 (mmF G i 5 + nI 1)) (nI 5) (nI t + nI 1) (mmF G i 12 + nI 1))
            · refine r_iload4 (pc := 212) C dX9_gets_212 ?_
              refine r_aload0 (pc := 214) C dX9_gets_214 ?_
              refine gX9_320 (pc := 215) C dX9_gets_215 ?_
              refine r_eqi (y := fc) (by rw [sI_o (by decide), sI_o (by decide), sI_o (by decide), sI_o (by decide), sI_o (by decide)]; exact hfc) ?_
              refine r_icmp_lt (pc := 218) 230 C dX9_gets_218 (by decide) (fun c218 => ?_) (fun c218 => ?_)
              · refine r_aload0 (pc := 230) C dX9_gets_230 ?_
                refine gX9_167 (pc := 231) C dX9_gets_231 ?_
                refine r_iload1 (pc := 234) C dX9_gets_234 ?_
                refine r_iload4 (pc := 235) C dX9_gets_235 ?_
                refine r_iast (pc := 237) (_) C dX9_gets_237 aM70 (rfl) (by omega) ?_
                exact r_return (pc := 238) C dX9_gets_238 (by
  have hne : ¬ nx (cN (mmF G i 4)) = -1 := c181
  have hcnd : ¬ (nI 4 ≤ upd (upd (mmF G i) 10 (nI 0)) 5 (mmF G i 5 + nI 1) 12 + nI 1 ∨ fc ≤ nx (cN (mmF G i 4))) := fun h => h.elim (fun h => Int32.not_lt.mpr h (cnt_ne q12.1 q12.2 (by decide) c209)) (fun h => Int32.not_lt.mpr h c218)
  refine ⟨(((((Fr.refl.sI sM77).sI sM71).sI sM71).sI sM72).sI sM79).sI sM70, _, by rw [mm70 hi, mm79 hi, mm72 hi, mm71 hi, mm71 hi, mm77 hi]; simp only [va_up_self, bx_uu]; rfl, Or.inl ?_⟩
  rw [rcvF, if_neg (by decide), if_neg (by decide), if_neg (by rw [← hbl]; exact Int32.not_lt.mpr c145), goF, if_neg hne, if_neg hcnd]
  show _ = mFetch (nx (cN (mmF G i 4))) (mmF G i 12 + nI 1) (nI t + nI 1) (upd (upd (mmF G i) 10 (nI 0)) 5 (mmF G i 5 + nI 1))
  rw [← mFe_eq (upd (upd (mmF G i) 10 (nI 0)) 5 (mmF G i 5 + nI 1))]
  rw [upd_id (f := upd _ 3 (nI 2)) (k := 7) (by show mmF G i 7 = nI 0; exact q7), upd_id (k := 3) (by show mmF G i 3 = nI 2; exact h2)])
              · refine r_aload0 (pc := 221) C dX9_gets_221 ?_
                refine r_iload1 (pc := 222) C dX9_gets_222 ?_
                refine r_iconst (pc := 223) (v := nI 5) C dX9_gets_223 (by decide) ?_
                refine r_callVv (pc := 224) C rfl dX9_gets_224 kX9_378 gF9 jM (tX9_rescue Z.1 C.w hi) rfl rfl (Nat.le_of_ble_eq_true rfl) (by decide) (fun G224 h224 => ?_)
                obtain ⟨f224, m224⟩ := h224
                refine r_goto (pc := 227) 238 C dX9_gets_227 (by decide) ?_
                exact r_return (pc := 238) C dX9_gets_238 (by
  have hne : ¬ nx (cN (mmF G i 4)) = -1 := c181
  have hcnd : nI 4 ≤ upd (upd (mmF G i) 10 (nI 0)) 5 (mmF G i 5 + nI 1) 12 + nI 1 ∨ fc ≤ nx (cN (mmF G i 4)) := Or.inr (Int32.not_lt.mp c218)
  refine ⟨Fr.trans (((((Fr.refl.sI sM77).sI sM71).sI sM71).sI sM72).sI sM79) f224, _, by rw [m224, mm79 hi, mm72 hi, mm71 hi, mm71 hi, mm77 hi]; simp only [va_up_self, bx_uu]; rfl, Or.inr ?_⟩
  rw [rcvF, if_neg (by decide), if_neg (by decide), if_neg (by rw [← hbl]; exact Int32.not_lt.mpr c145), goF, if_neg hne, if_pos hcnd]
  refine ⟨⟨by show nI 5 ≠ nI 2; decide, by show nI 5 ≠ nI 3; decide⟩, nI t + nI 1, ?_⟩
  exact mRs_eq (upd (upd (mmF G i) 10 (nI 0)) 5 (mmF G i 5 + nI 1)) (nI 5) (nI t + nI 1) (mmF G i 12 + nI 1))
          · refine r_aload0 (pc := 184) C dX9_gets_184 ?_
            refine gX9_158 (pc := 185) C dX9_gets_185 ?_
            refine r_iload1 (pc := 188) C dX9_gets_188 ?_
            refine r_iconst (pc := 189) (v := nI 3) C dX9_gets_189 (by decide) ?_
            refine r_iast (pc := 190) (_) C dX9_gets_190 aM67 (rfl) (by omega) ?_
            exact r_return (pc := 191) C dX9_gets_191 (⟨((((Fr.refl.sI sM77).sI sM71).sI sM71).sI sM72).sI sM67, _, by rw [mm67 hi, mm72 hi, mm71 hi, mm71 hi, mm77 hi]; simp only [va_up_self, bx_uu]; rfl, Or.inl (by
  rw [rcvF, if_neg (by decide), if_neg (by decide), if_neg (by rw [← hbl]; exact Int32.not_lt.mpr c145), goF, if_pos c181]
  exact mIn_eq (upd (upd (mmF G i) 10 (nI 0)) 5 (mmF G i 5 + nI 1)) (nI t + nI 1))⟩)
        · exact r_return (pc := 148) C dX9_gets_148 (⟨(Fr.refl.sI sM77).sI sM71, _, by rw [mm71 hi, mm77 hi, va_up_self, bx_uu], Or.inl (by rw [rcvF, if_neg (by decide), if_neg (by decide), if_pos (by rw [← hbl]; exact Int32.not_le.mp c145)])⟩)
      · have d23 : got = true := bI_n.mp c23
        have d38 : lost = false := bI_z.mp c38
        have d81 : wr = true := bI_n.mp c81
        subst d23 d38 d81
        refine r_aload0 (pc := 84) C dX9_gets_84 ?_
        refine gX9_185 (pc := 85) C dX9_gets_85 ?_
        refine r_iload1 (pc := 88) C dX9_gets_88 ?_
        refine r_dup2 (pc := 89) C dX9_gets_89 rfl rfl ?_
        refine r_iald (pc := 90) (_) C dX9_gets_90 aM76 (rfl) (by omega) ?_
        refine r_eqi (mg76 hi) ?_
        refine r_iconst (pc := 91) (v := nI 1) C dX9_gets_91 (by decide) ?_
        refine r_iadd (pc := 92) C dX9_gets_92 ?_
        refine r_iast (pc := 93) (_) C dX9_gets_93 aM76 (rfl) (by omega) ?_
        refine r_aload0 (pc := 94) C dX9_gets_94 ?_
        refine gX9_185 (pc := 95) C dX9_gets_95 ?_
        refine r_iload1 (pc := 98) C dX9_gets_98 ?_
        refine r_iald (pc := 99) (_) C dX9_gets_99 aM76 (rfl) (by omega) ?_
        refine r_eqi (y := mmF G i 9 + nI 1) (by rw [sI_s, upd_s]) ?_
        refine r_iconst (pc := 100) (v := nI 4) C dX9_gets_100 (by decide) ?_
        refine r_icmp_ne (pc := 101) 110 C dX9_gets_101 (by decide) (fun c101 => ?_) (fun c101 => ?_)
        · exact r_return (pc := 110) C dX9_gets_110 (⟨Fr.refl.sI sM76, _, mm76 hi, Or.inl (by rw [rcvF, if_neg (by decide), if_pos rfl, mWrong, if_pos (cnt_ne q9.1 q9.2 (by decide) c101)])⟩)
        · refine r_aload0 (pc := 104) C dX9_gets_104 ?_
          refine r_iload1 (pc := 105) C dX9_gets_105 ?_
          refine r_iconst (pc := 106) (v := nI 3) C dX9_gets_106 (by decide) ?_
          refine r_callVv (pc := 107) C rfl dX9_gets_107 kX9_378 gF9 jM (tX9_rescue Z.1 C.w hi) rfl rfl (Nat.le_of_ble_eq_true rfl) (by decide) (fun G107 h107 => ?_)
          obtain ⟨f107, m107⟩ := h107
          exact r_return (pc := 110) C dX9_gets_110 (⟨Fr.trans (Fr.refl.sI sM76) f107, _, by rw [m107, mm76 hi, va_up_self, bx_uu], Or.inl (by rw [rcvF, if_neg (by decide), if_pos rfl, mWrong, if_neg (cnt_eq c101)])⟩)
    · refine r_aload0 (pc := 41) C dX9_gets_41 ?_
      refine gX9_188 (pc := 42) C dX9_gets_42 ?_
      refine r_iload1 (pc := 45) C dX9_gets_45 ?_
      refine r_dup2 (pc := 46) C dX9_gets_46 rfl rfl ?_
      refine r_iald (pc := 47) (_) C dX9_gets_47 aM77 (rfl) (by omega) ?_
      refine r_eqi (mg77 hi) ?_
      refine r_iconst (pc := 48) (v := nI 1) C dX9_gets_48 (by decide) ?_
      refine r_iadd (pc := 49) C dX9_gets_49 ?_
      refine r_iast (pc := 50) (_) C dX9_gets_50 aM77 (rfl) (by omega) ?_
      refine r_aload0 (pc := 51) C dX9_gets_51 ?_
      refine gX9_188 (pc := 52) C dX9_gets_52 ?_
      refine r_iload1 (pc := 55) C dX9_gets_55 ?_
      refine r_iald (pc := 56) (_) C dX9_gets_56 aM77 (rfl) (by omega) ?_
      refine r_eqi (y := mmF G i 10 + nI 1) (by rw [sI_s, upd_s]) ?_
      refine r_bipush (pc := 57) (v := nI 12) C dX9_gets_57 (by decide) ?_
      refine r_icmp_ne (pc := 59) 68 C dX9_gets_59 (by decide) (fun c59 => ?_) (fun c59 => ?_)
      · exact r_return (pc := 68) C dX9_gets_68 (⟨Fr.refl.sI sM77, _, mm77 hi, Or.inl (by rw [rcvF, if_pos (by rw [bI_n.mp c38, Bool.or_true]), mNone, if_pos (cnt_ne q10.1 q10.2 (by decide) c59)])⟩)
      · refine r_aload0 (pc := 62) C dX9_gets_62 ?_
        refine r_iload1 (pc := 63) C dX9_gets_63 ?_
        refine r_iconst (pc := 64) (v := nI 4) C dX9_gets_64 (by decide) ?_
        refine r_callVv (pc := 65) C rfl dX9_gets_65 kX9_378 gF9 jM (tX9_rescue Z.1 C.w hi) rfl rfl (Nat.le_of_ble_eq_true rfl) (by decide) (fun G65 h65 => ?_)
        obtain ⟨f65, m65⟩ := h65
        exact r_return (pc := 68) C dX9_gets_68 (⟨Fr.trans (Fr.refl.sI sM77) f65, _, by rw [m65, mm77 hi, va_up_self, bx_uu], Or.inl (by rw [rcvF, if_pos (by rw [bI_n.mp c38, Bool.or_true]), mNone, if_neg (cnt_eq c59)])⟩)
def kpM (i t : Nat) (G : gS) : gS := (sI (sI (sI (sI (sI (sI (sI (sI (sI (sI G 54 (300 * i + t) (G.1 67 i)) 55 (300 * i + t) (G.1 70 i)) 56 (300 * i + t) (G.1 71 i)) 57 (300 * i + t) (G.1 73 i)) 58 (300 * i + t) (G.1 74 i)) 59 (300 * i + t) (G.1 75 i)) 60 (300 * i + t) (G.1 76 i)) 61 (300 * i + t) (G.1 77 i)) 62 (300 * i + t) (G.1 78 i)) 63 (300 * i + t) (G.1 79 i))
set_option maxHeartbeats 4000000 in
set_option maxRecDepth 100000 in
theorem tX9_keeps (Y : gY) (hY : Y.2.2.2 = wM) {G : gS} {i t : Nat} (hi : i < 8) (ht : t < 300) : ∀ l : Launch, gM Y l yX9_keeps cX9_keeps 4 none (0, 0) [.ref (Y.2.1 (100)), .int (nI i), .int (nI t)] G (qv (fun G' => G' = kpM i t G)) := by
  intro l
  refine gM_of hY rfl (Nat.le_of_ble_eq_true rfl) [some (.ref (Y.2.1 (100))), some (.int (nI i)), some (.int (nI t)), none] rfl rfl ?_
  rintro Z rfl C
  refine r_sipush (pc := 0) (v := nI 300) C dX9_keeps_0 (by decide) ?_
  refine r_iload1 (pc := 3) C dX9_keeps_3 ?_
  refine r_imul (pc := 4) C dX9_keeps_4 ?_
  refine r_eqi (pk_mul 300 i) ?_
  refine r_iload2 (pc := 5) C dX9_keeps_5 ?_
  refine r_iadd (pc := 6) C dX9_keeps_6 ?_
  refine r_eqi (nI_add _ _) ?_
  refine r_istore3 (pc := 7) C dX9_keeps_7 rfl ?_
  refine r_aload0 (pc := 8) C dX9_keeps_8 ?_
  refine gX9_122 (pc := 9) C dX9_keeps_9 ?_
  refine r_iload3 (pc := 12) C dX9_keeps_12 ?_
  refine r_aload0 (pc := 13) C dX9_keeps_13 ?_
  refine gX9_158 (pc := 14) C dX9_keeps_14 ?_
  refine r_iload1 (pc := 17) C dX9_keeps_17 ?_
  refine r_iald (pc := 18) (_) C dX9_keeps_18 aM67 (rfl) (by omega) ?_
  refine r_iast (pc := 19) (_) C dX9_keeps_19 aM54 (rfl) (by omega) ?_
  refine r_aload0 (pc := 20) C dX9_keeps_20 ?_
  refine gX9_125 (pc := 21) C dX9_keeps_21 ?_
  refine r_iload3 (pc := 24) C dX9_keeps_24 ?_
  refine r_aload0 (pc := 25) C dX9_keeps_25 ?_
  refine gX9_167 (pc := 26) C dX9_keeps_26 ?_
  refine r_iload1 (pc := 29) C dX9_keeps_29 ?_
  refine r_iald (pc := 30) (_) C dX9_keeps_30 aM70 (rfl) (by omega) ?_
  refine r_eqi (y := G.1 70 i) (by rw [sI_o (by decide)]) ?_
  refine r_iast (pc := 31) (_) C dX9_keeps_31 aM55 (rfl) (by omega) ?_
  refine r_aload0 (pc := 32) C dX9_keeps_32 ?_
  refine gX9_128 (pc := 33) C dX9_keeps_33 ?_
  refine r_iload3 (pc := 36) C dX9_keeps_36 ?_
  refine r_aload0 (pc := 37) C dX9_keeps_37 ?_
  refine gX9_170 (pc := 38) C dX9_keeps_38 ?_
  refine r_iload1 (pc := 41) C dX9_keeps_41 ?_
  refine r_iald (pc := 42) (_) C dX9_keeps_42 aM71 (rfl) (by omega) ?_
  refine r_eqi (y := G.1 71 i) (by rw [sI_o (by decide), sI_o (by decide)]) ?_
  refine r_iast (pc := 43) (_) C dX9_keeps_43 aM56 (rfl) (by omega) ?_
  refine r_aload0 (pc := 44) C dX9_keeps_44 ?_
  refine gX9_131 (pc := 45) C dX9_keeps_45 ?_
  refine r_iload3 (pc := 48) C dX9_keeps_48 ?_
  refine r_aload0 (pc := 49) C dX9_keeps_49 ?_
  refine gX9_176 (pc := 50) C dX9_keeps_50 ?_
  refine r_iload1 (pc := 53) C dX9_keeps_53 ?_
  refine r_iald (pc := 54) (_) C dX9_keeps_54 aM73 (rfl) (by omega) ?_
  refine r_eqi (y := G.1 73 i) (by rw [sI_o (by decide), sI_o (by decide), sI_o (by decide)]) ?_
  refine r_iast (pc := 55) (_) C dX9_keeps_55 aM57 (rfl) (by omega) ?_
  refine r_aload0 (pc := 56) C dX9_keeps_56 ?_
  refine gX9_134 (pc := 57) C dX9_keeps_57 ?_
  refine r_iload3 (pc := 60) C dX9_keeps_60 ?_
  refine r_aload0 (pc := 61) C dX9_keeps_61 ?_
  refine gX9_179 (pc := 62) C dX9_keeps_62 ?_
  refine r_iload1 (pc := 65) C dX9_keeps_65 ?_
  refine r_iald (pc := 66) (_) C dX9_keeps_66 aM74 (rfl) (by omega) ?_
  refine r_eqi (y := G.1 74 i) (by rw [sI_o (by decide), sI_o (by decide), sI_o (by decide), sI_o (by decide)]) ?_
  refine r_iast (pc := 67) (_) C dX9_keeps_67 aM58 (rfl) (by omega) ?_
  refine r_aload0 (pc := 68) C dX9_keeps_68 ?_
  refine gX9_137 (pc := 69) C dX9_keeps_69 ?_
  refine r_iload3 (pc := 72) C dX9_keeps_72 ?_
  refine r_aload0 (pc := 73) C dX9_keeps_73 ?_
  refine gX9_182 (pc := 74) C dX9_keeps_74 ?_
  refine r_iload1 (pc := 77) C dX9_keeps_77 ?_
  refine r_iald (pc := 78) (_) C dX9_keeps_78 aM75 (rfl) (by omega) ?_
  refine r_eqi (y := G.1 75 i) (by rw [sI_o (by decide), sI_o (by decide), sI_o (by decide), sI_o (by decide), sI_o (by decide)]) ?_
  refine r_iast (pc := 79) (_) C dX9_keeps_79 aM59 (rfl) (by omega) ?_
  refine r_aload0 (pc := 80) C dX9_keeps_80 ?_
  refine gX9_140 (pc := 81) C dX9_keeps_81 ?_
  refine r_iload3 (pc := 84) C dX9_keeps_84 ?_
  refine r_aload0 (pc := 85) C dX9_keeps_85 ?_
  refine gX9_185 (pc := 86) C dX9_keeps_86 ?_
  refine r_iload1 (pc := 89) C dX9_keeps_89 ?_
  refine r_iald (pc := 90) (_) C dX9_keeps_90 aM76 (rfl) (by omega) ?_
  refine r_eqi (y := G.1 76 i) (by rw [sI_o (by decide), sI_o (by decide), sI_o (by decide), sI_o (by decide), sI_o (by decide), sI_o (by decide)]) ?_
  refine r_iast (pc := 91) (_) C dX9_keeps_91 aM60 (rfl) (by omega) ?_
  refine r_aload0 (pc := 92) C dX9_keeps_92 ?_
  refine gX9_143 (pc := 93) C dX9_keeps_93 ?_
  refine r_iload3 (pc := 96) C dX9_keeps_96 ?_
  refine r_aload0 (pc := 97) C dX9_keeps_97 ?_
  refine gX9_188 (pc := 98) C dX9_keeps_98 ?_
  refine r_iload1 (pc := 101) C dX9_keeps_101 ?_
  refine r_iald (pc := 102) (_) C dX9_keeps_102 aM77 (rfl) (by omega) ?_
  refine r_eqi (y := G.1 77 i) (by rw [sI_o (by decide), sI_o (by decide), sI_o (by decide), sI_o (by decide), sI_o (by decide), sI_o (by decide), sI_o (by decide)]) ?_
  refine r_iast (pc := 103) (_) C dX9_keeps_103 aM61 (rfl) (by omega) ?_
  refine r_aload0 (pc := 104) C dX9_keeps_104 ?_
  refine gX9_146 (pc := 105) C dX9_keeps_105 ?_
  refine r_iload3 (pc := 108) C dX9_keeps_108 ?_
  refine r_aload0 (pc := 109) C dX9_keeps_109 ?_
  refine gX9_191 (pc := 110) C dX9_keeps_110 ?_
  refine r_iload1 (pc := 113) C dX9_keeps_113 ?_
  refine r_iald (pc := 114) (_) C dX9_keeps_114 aM78 (rfl) (by omega) ?_
  refine r_eqi (y := G.1 78 i) (by rw [sI_o (by decide), sI_o (by decide), sI_o (by decide), sI_o (by decide), sI_o (by decide), sI_o (by decide), sI_o (by decide), sI_o (by decide)]) ?_
  refine r_iast (pc := 115) (_) C dX9_keeps_115 aM62 (rfl) (by omega) ?_
  refine r_aload0 (pc := 116) C dX9_keeps_116 ?_
  refine gX9_149 (pc := 117) C dX9_keeps_117 ?_
  refine r_iload3 (pc := 120) C dX9_keeps_120 ?_
  refine r_aload0 (pc := 121) C dX9_keeps_121 ?_
  refine gX9_194 (pc := 122) C dX9_keeps_122 ?_
  refine r_iload1 (pc := 125) C dX9_keeps_125 ?_
  refine r_iald (pc := 126) (_) C dX9_keeps_126 aM79 (rfl) (by omega) ?_
  refine r_eqi (y := G.1 79 i) (by rw [sI_o (by decide), sI_o (by decide), sI_o (by decide), sI_o (by decide), sI_o (by decide), sI_o (by decide), sI_o (by decide), sI_o (by decide), sI_o (by decide)]) ?_
  refine r_iast (pc := 127) (_) C dX9_keeps_127 aM63 (rfl) (by omega) ?_
  exact r_return (pc := 128) C dX9_keeps_128 (rfl)
set_option maxHeartbeats 4000000 in
set_option maxRecDepth 100000 in
theorem tX9_isDone (Y : gY) (hY : Y.2.2.2 = wM) {G : gS} {mc t : Nat} (hmc : G.1 100 36 = nI mc) (hm8 : mc ≤ 8) (ht : t < 300) : ∀ l : Launch, gM Y l yX9_isDone cX9_isDone 3 (some .boolean) (0, 0) [.ref (Y.2.1 (100)), .int (nI t)] G (qi (fun r G' => r = bI (!anyN (fun i => decide (G.1 54 (300 * i + t) < nI 4)) mc) ∧ G' = G)) := by
  intro l
  refine gM_of hY rfl (Nat.le_of_ble_eq_true rfl) [some (.ref (Y.2.1 (100))), some (.int (nI t)), none] rfl rfl ?_
  rintro Z rfl C
  have loop : ∀ (k0 : Nat) (k : Nat), k0 = mc - k → k ≤ mc → anyN (fun i => decide (G.1 54 (300 * i + t) < nI 4)) k = false → WW Z (qi (fun r G' => r = bI (!anyN (fun i => decide (G.1 54 (300 * i + t) < nI 4)) mc) ∧ G' = G)) 2 [some (.ref (ad Z (100))), some (.int (nI t)), some (.int (nI k))] [] G := by
    intro k0
    induction k0 using Nat.strongRecOn with
    | _ k0 ih =>
      intro k hk0 hk hb
      refine r_iload2 (pc := 2) C dX9_isDone_2 ?_
      refine r_aload0 (pc := 3) C dX9_isDone_3 ?_
      refine gX9_317 (pc := 4) C dX9_isDone_4 ?_
      refine r_eqi hmc ?_
      refine r_icmp_ge (pc := 7) 34 C dX9_isDone_7 (by decide) (fun c7 => ?_) (fun c7 => ?_)
      · obtain rfl : k = mc := by have := (nI_leI (by omega) (by omega)).mp c7; omega
        refine r_iconst (pc := 34) (v := nI 1) C dX9_isDone_34 (by decide) ?_
        exact r_zreturn (pc := 35) C dX9_isDone_35 (rfl) (⟨by rw [hb]; rfl, rfl⟩)
      · have hk8 : k < mc := by
          rcases Nat.lt_or_ge k mc with h | h
          · exact h
          · exact absurd (nI_le h (by omega)) c7
        refine r_aload0 (pc := 10) C dX9_isDone_10 ?_
        refine gX9_122 (pc := 11) C dX9_isDone_11 ?_
        refine r_sipush (pc := 14) (v := nI 300) C dX9_isDone_14 (by decide) ?_
        refine r_iload2 (pc := 17) C dX9_isDone_17 ?_
        refine r_imul (pc := 18) C dX9_isDone_18 ?_
        refine r_eqi (pk_mul 300 k) ?_
        refine r_iload1 (pc := 19) C dX9_isDone_19 ?_
        refine r_iadd (pc := 20) C dX9_isDone_20 ?_
        refine r_eqi (nI_add _ _) ?_
        refine r_iald (pc := 21) (_) C dX9_isDone_21 aM54 (rfl) (by omega) ?_
        refine r_iconst (pc := 22) (v := nI 4) C dX9_isDone_22 (by decide) ?_
        refine r_icmp_ge (pc := 23) 28 C dX9_isDone_23 (by decide) (fun c23 => ?_) (fun c23 => ?_)
        · refine r_iinc2 (pc := 28) (nI 1) C dX9_isDone_28 (by decide) rfl ?_
          rw [nI_add]
          refine r_goto (pc := 31) 2 C dX9_isDone_31 (by decide) ?_
          exact ih (mc - (k + 1)) (by omega) (k + 1) rfl (by omega) (anyN_f hb (decide_eq_false (Int32.not_lt.mpr c23)))
        · refine r_iconst (pc := 26) (v := nI 0) C dX9_isDone_26 (by decide) ?_
          exact r_zreturn (pc := 27) C dX9_isDone_27 (rfl) (⟨by rw [anyN_t (p := fun i => decide (G.1 54 (300 * i + t) < nI 4)) (x := k) (decide_eq_true (Int32.not_le.mp c23)) hk8]; rfl, rfl⟩)
  refine r_iconst (pc := 0) (v := nI 0) C dX9_isDone_0 (by decide) ?_
  refine r_istore2 (pc := 1) C dX9_isDone_1 rfl ?_
  exact loop _ 0 rfl (by omega) rfl
