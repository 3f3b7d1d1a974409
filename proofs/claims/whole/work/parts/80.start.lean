/-! the law's entry -/
theorem tb1 {w : Cond} (h : w ∈ tables_1_1) : w ∈ lw_tbl := List.mem_append_right _ (List.mem_append_left _ h)
theorem tb2 {w : Cond} (h : w ∈ tables_1_2) : w ∈ lw_tbl := List.mem_append_right _ (List.mem_append_right _ (List.mem_append_left _ h))
theorem tb3 {w : Cond} (h : w ∈ tables_1_3) : w ∈ lw_tbl := List.mem_append_right _ (List.mem_append_right _ (List.mem_append_right _ (List.mem_append_left _ h)))
theorem tb4 {w : Cond} (h : w ∈ tables_1_4) : w ∈ lw_tbl := List.mem_append_right _ (List.mem_append_right _ (List.mem_append_right _ (List.mem_append_right _ (List.mem_append_left _ h))))
theorem tb5 {w : Cond} (h : w ∈ tables_1_5) : w ∈ lw_tbl := List.mem_append_right _ (List.mem_append_right _ (List.mem_append_right _ (List.mem_append_right _ (List.mem_append_right _ (List.mem_append_left _ h)))))
theorem tb6 {w : Cond} (h : w ∈ tables_1_6) : w ∈ lw_tbl := List.mem_append_right _ (List.mem_append_right _ (List.mem_append_right _ (List.mem_append_right _ (List.mem_append_right _ (List.mem_append_right _ (h))))))
theorem gZi_of {args : Array Value} {s : State} {A : Nat → Prop} (n : String) (f : List Int32) (hn : f.length < 2 ^ 31) (hl : (Cond.laysStatic "BootHall" n "[I").before args s = true) (hini : (Cond.initialized "BootHall").before args s = true) (harr : (Cond.arrayOf (.static "BootHall" n "[I") .int).before args s = true) (hlen : (Cond.eq (.length (.static "BootHall" n "[I")) (.int (Int32.ofNat f.length))).before args s = true) (hel : ∀ j, j < f.length → (Cond.eq (.elem (.static "BootHall" n "[I") (.int (Int32.ofNat j))) (.int (f.getD j 0))).before args s = true) (hA : ∀ a : Nat, a < s.heap.size → ¬ A a) : gZi n f A s s.heap := by
  obtain ⟨t, h1, h2⟩ := va_Tof (f := fun j => .int (f.getD j 0)) hn harr (va_eqt hlen) (fun j hj => va_eqt (hel j hj)) hA
  exact ⟨t, va_Zof hl hini h1 hA, h2⟩
theorem gZl_of {args : Array Value} {s : State} {A : Nat → Prop} (n : String) (f : List Int64) (hn : f.length < 2 ^ 31) (hl : (Cond.laysStatic "BootHall" n "[J").before args s = true) (hini : (Cond.initialized "BootHall").before args s = true) (harr : (Cond.arrayOf (.static "BootHall" n "[J") .long).before args s = true) (hlen : (Cond.eq (.length (.static "BootHall" n "[J")) (.int (Int32.ofNat f.length))).before args s = true) (hel : ∀ j, j < f.length → (Cond.eq (.elem (.static "BootHall" n "[J") (.int (Int32.ofNat j))) (.long (f.getD j 0))).before args s = true) (hA : ∀ a : Nat, a < s.heap.size → ¬ A a) : gZl n f A s s.heap := by
  obtain ⟨t, h1, h2⟩ := va_Tof (f := fun j => .long (f.getD j 0)) hn harr (va_eqt hlen) (fun j hj => va_eqtl (hel j hj)) hA
  exact ⟨t, va_Zof hl hini h1 hA, h2⟩
theorem law_Z {args : Array Value} {s : State} (hts : ∀ w ∈ lw_tbl, w.before args s = true) (hgv : (Jvm.Cond.and given_1 narrow_1).before args s = true) : gZ (fun q => s.heap.size ≤ q) s s.heap := by
  have hs := flat_of_before _ hgv
  have hA : ∀ a : Nat, a < s.heap.size → ¬ s.heap.size ≤ a := fun a h => Nat.not_le.mpr h
  have htWd : ∀ j, j < 12 → Cond.eq (.elem (.static "BootHall" "WORDS" "[J") (.int (Int32.ofNat j))) (.long (tWd.getD j 0)) ∈ flatC (Jvm.Cond.and given_1 narrow_1) := by decide +kernel
  have htWs : ∀ j, j < 12 → Cond.eq (.elem (.static "BootHall" "WORD_SORTS" "[I") (.int (Int32.ofNat j))) (.int (tWs.getD j 0)) ∈ flatC (Jvm.Cond.and given_1 narrow_1) := by decide +kernel
  have htWv : ∀ j, j < 12 → Cond.eq (.elem (.static "BootHall" "WORD_VALUES" "[I") (.int (Int32.ofNat j))) (.int (tWv.getD j 0)) ∈ flatC (Jvm.Cond.and given_1 narrow_1) := by decide +kernel
  have htOr : ∀ j, j < 10 → Cond.eq (.elem (.static "BootHall" "OPERATOR_RANKS" "[I") (.int (Int32.ofNat j))) (.int (tOr.getD j 0)) ∈ flatC (Jvm.Cond.and given_1 narrow_1) := by decide +kernel
  have htSh : ∀ j, j < 11 → Cond.eq (.elem (.static "BootHall" "SHIFTS" "[I") (.int (Int32.ofNat j))) (.int (tSh.getD j 0)) ∈ flatC (Jvm.Cond.and given_1 narrow_1) := by decide +kernel
  exact ⟨gZl_of "WORDS" tWd (by decide) (hts _ (tb2 (List.mem_of_getElem? (i := 141) (by decide +kernel)))) (hts _ (tb1 (List.mem_of_getElem? (i := 1) (by decide +kernel)))) (hs _ (by decide +kernel)) (hs _ (by decide +kernel)) (fun j hj => hs _ (htWd j hj)) hA, gZi_of "WORD_SORTS" tWs (by decide) (hts _ (tb2 (List.mem_of_getElem? (i := 143) (by decide +kernel)))) (hts _ (tb1 (List.mem_of_getElem? (i := 1) (by decide +kernel)))) (hs _ (by decide +kernel)) (hs _ (by decide +kernel)) (fun j hj => hs _ (htWs j hj)) hA, gZi_of "WORD_VALUES" tWv (by decide) (hts _ (tb2 (List.mem_of_getElem? (i := 145) (by decide +kernel)))) (hts _ (tb1 (List.mem_of_getElem? (i := 1) (by decide +kernel)))) (hs _ (by decide +kernel)) (hs _ (by decide +kernel)) (fun j hj => hs _ (htWv j hj)) hA, gZi_of "OPERATOR_RANKS" tOr (by decide) (hts _ (tb2 (List.mem_of_getElem? (i := 214) (by decide +kernel)))) (hts _ (tb1 (List.mem_of_getElem? (i := 1) (by decide +kernel)))) (hs _ (by decide +kernel)) (hs _ (by decide +kernel)) (fun j hj => hs _ (htOr j hj)) hA, gZi_of "SHIFTS" tSh (by decide) (hts _ (tb3 (List.mem_of_getElem? (i := 222) (by decide +kernel)))) (hts _ (tb1 (List.mem_of_getElem? (i := 1) (by decide +kernel)))) (hs _ (by decide +kernel)) (hs _ (by decide +kernel)) (fun j hj => hs _ (htSh j hj)) hA⟩
theorem law_N {args : Array Value} {s : State} (hts : ∀ w ∈ lw_tbl, w.before args s = true) : gNw s := by
  refine ⟨fun q hq => ?_, va_Nw.of rfl (hts _ (tb3 (List.mem_of_getElem? (i := 30) (by decide +kernel))))⟩
  simp only [gNF, List.mem_cons, List.not_mem_nil, or_false] at hq
  rcases hq with rfl | rfl | rfl | rfl | rfl
  · exact va_Nw.of rfl (hts _ (tb2 (List.mem_of_getElem? (i := 140) (by decide +kernel))))
  · exact va_Nw.of rfl (hts _ (tb2 (List.mem_of_getElem? (i := 142) (by decide +kernel))))
  · exact va_Nw.of rfl (hts _ (tb2 (List.mem_of_getElem? (i := 144) (by decide +kernel))))
  · exact va_Nw.of rfl (hts _ (tb2 (List.mem_of_getElem? (i := 213) (by decide +kernel))))
  · exact va_Nw.of rfl (hts _ (tb3 (List.mem_of_getElem? (i := 221) (by decide +kernel))))
theorem law_O {args : Array Value} {s : State} (hts : ∀ w ∈ lw_tbl, w.before args s = true) : nAO s := by
  refine ⟨va_AO.of (hts _ (tb1 (List.mem_of_getElem? (i := 46) (by decide +kernel)))), va_AO.of (hts _ (tb1 (List.mem_of_getElem? (i := 70) (by decide +kernel)))), fun q hq => ?_⟩
  simp only [nNL, List.mem_cons, List.not_mem_nil, or_false] at hq
  rcases hq with rfl | rfl | rfl | rfl | rfl
  · exact va_Nw.of rfl (hts _ (tb1 (List.mem_of_getElem? (i := 24) (by decide +kernel))))
  · exact va_Nw.of rfl (hts _ (tb1 (List.mem_of_getElem? (i := 49) (by decide +kernel))))
  · exact va_Nw.of rfl (hts _ (tb1 (List.mem_of_getElem? (i := 72) (by decide +kernel))))
  · exact va_Nw.of rfl (hts _ (tb1 (List.mem_of_getElem? (i := 141) (by decide +kernel))))
  · exact va_Nw.of rfl (hts _ (tb1 (List.mem_of_getElem? (i := 223) (by decide +kernel))))
theorem law_K {args : Array Value} {s : State} (hts : ∀ w ∈ lw_tbl, w.before args s = true) : ∃ (D : va_G) (cA : Nat → ClassId), va_K D vwCl (gT cA) s := by
  have hg : ∀ w ∈ lw_g, w.before args s = true := fun w hw => hts w (List.mem_filter.mp hw).1
  have h : ∀ c : Nat, ∃ x : ClassId × (Nat → Nat), ∀ q, vwCl[c]? = some q → u_Kn s q.1 q.2.1 q.2.2 x.1 x.2 := by
    intro c
    by_cases hc : c < 10
    · rcases (show c = 0 ∨ c = 1 ∨ c = 2 ∨ c = 3 ∨ c = 4 ∨ c = 5 ∨ c = 6 ∨ c = 7 ∨ c = 8 ∨ c = 9 by omega) with rfl | rfl | rfl | rfl | rfl | rfl | rfl | rfl | rfl | rfl
      · obtain ⟨cC, iS, hk⟩ := u_known hg gF0.2.1 (hg _ it_X0)
        exact ⟨(cC, iS), fun q hq => by obtain rfl := Option.some.inj (gF0.1.symm.trans hq); exact hk⟩
      · obtain ⟨cC, iS, hk⟩ := u_known hg gF1.2.1 (hg _ it_X1)
        exact ⟨(cC, iS), fun q hq => by obtain rfl := Option.some.inj (gF1.1.symm.trans hq); exact hk⟩
      · obtain ⟨cC, iS, hk⟩ := u_known hg gF2.2.1 (hg _ it_X2)
        exact ⟨(cC, iS), fun q hq => by obtain rfl := Option.some.inj (gF2.1.symm.trans hq); exact hk⟩
      · obtain ⟨cC, iS, hk⟩ := u_known hg gF3.2.1 (hg _ it_X3)
        exact ⟨(cC, iS), fun q hq => by obtain rfl := Option.some.inj (gF3.1.symm.trans hq); exact hk⟩
      · obtain ⟨cC, iS, hk⟩ := u_known hg gF4.2.1 (hg _ it_X4)
        exact ⟨(cC, iS), fun q hq => by obtain rfl := Option.some.inj (gF4.1.symm.trans hq); exact hk⟩
      · obtain ⟨cC, iS, hk⟩ := u_known hg gF5.2.1 (hg _ it_X5)
        exact ⟨(cC, iS), fun q hq => by obtain rfl := Option.some.inj (gF5.1.symm.trans hq); exact hk⟩
      · obtain ⟨cC, iS, hk⟩ := u_known hg gF6.2.1 (hg _ it_X6)
        exact ⟨(cC, iS), fun q hq => by obtain rfl := Option.some.inj (gF6.1.symm.trans hq); exact hk⟩
      · obtain ⟨cC, iS, hk⟩ := u_known hg gF7.2.1 (hg _ it_X7)
        exact ⟨(cC, iS), fun q hq => by obtain rfl := Option.some.inj (gF7.1.symm.trans hq); exact hk⟩
      · obtain ⟨cC, iS, hk⟩ := u_known hg gF8.2.1 (hg _ it_X8)
        exact ⟨(cC, iS), fun q hq => by obtain rfl := Option.some.inj (gF8.1.symm.trans hq); exact hk⟩
      · obtain ⟨cC, iS, hk⟩ := u_known hg gF9.2.1 (hg _ it_X9)
        exact ⟨(cC, iS), fun q hq => by obtain rfl := Option.some.inj (gF9.1.symm.trans hq); exact hk⟩
    · exact ⟨(0, fun _ => 0), fun q hq => absurd (List.getElem?_eq_some_iff.mp hq).1 (fun z => hc z)⟩
  obtain ⟨c0, k0, m0, x0, y0, z0⟩ := Cond.arrayClass_spec (hg _ ac_int)
  obtain ⟨c1, k1, m1, x1, y1, z1⟩ := Cond.arrayClass_spec (hg _ ac_boolean)
  obtain ⟨c2, k2, m2, x2, y2, z2⟩ := Cond.arrayClass_spec (hg _ ac_byte)
  obtain ⟨c3, k3, m3, x3, y3, z3⟩ := Cond.arrayClass_spec (hg _ ac_long)
  obtain ⟨m4, c4, k4, w4, -, y4, z4, x4⟩ := Cond.arrayOver_spec (n := "BootHall$Machine") (hts (.arrayOver (.object "BootHall$Machine")) (tb1 (List.mem_of_getElem? (i := 46) (by decide +kernel))))
  obtain ⟨m5, c5, k5, w5, -, y5, z5, x5⟩ := Cond.arrayOver_spec (n := "BootHall$Rules") (hts (.arrayOver (.object "BootHall$Rules")) (tb1 (List.mem_of_getElem? (i := 70) (by decide +kernel))))
  refine ⟨(fun c => (Classical.choose (h c)).1, fun c => (Classical.choose (h c)).2), fun t => match t with | 0 => c0 | 1 => c1 | 2 => c2 | 3 => c3 | 4 => c4 | _ => c5, fun c q hq => Classical.choose_spec (h c) q hq, fun k q hk => ?_⟩
  have hl : k < 6 := (List.getElem?_eq_some_iff.mp hk).1
  rcases (show k = 0 ∨ k = 1 ∨ k = 2 ∨ k = 3 ∨ k = 4 ∨ k = 5 by omega) with rfl | rfl | rfl | rfl | rfl | rfl
  · cases hk
    exact ⟨fun n z => ⟨fun k h => (by cases h), k0, y0, m0, z0⟩, x0⟩
  · cases hk
    exact ⟨fun n z => ⟨fun k h => (by cases h), k1, y1, m1, z1⟩, x1⟩
  · cases hk
    exact ⟨fun n z => ⟨fun k h => (by cases h), k2, y2, m2, z2⟩, x2⟩
  · cases hk
    exact ⟨fun n z => ⟨fun k h => (by cases h), k3, y3, m3, z3⟩, x3⟩
  · cases hk
    exact ⟨fun n z => ⟨fun k h => (by cases h), k4, y4, m4, z4⟩, k4, m4, y4, z4, w4, x4⟩
  · cases hk
    exact ⟨fun n z => ⟨fun k h => (by cases h), k5, y5, m5, z5⟩, k5, m5, y5, z5, w5, x5⟩
theorem law_RR : RR GC0 GM0 := by
  refine rr_start nI_0.symm nI_0.symm rfl (fun _ _ => nI_0.symm) nI_0.symm (fun _ _ => nI_0.symm) (fun _ _ => rfl) (fun j hj => ?_) (fun _ _ => rfl) rfl rfl nI_0.symm (fun _ => nI_0.symm) rfl nI_0.symm nI_0.symm rfl nI_0.symm nI_0.symm nI_0.symm rfl (fun _ _ => nI_0.symm) (fun _ _ => ⟨nI_0.symm, nI_0.symm⟩) (fun _ _ => nI_0.symm) (fun _ _ => nI_0.symm) (fun _ _ => nI_0.symm) (fun _ _ => nI_0.symm) (fun k hk => ?_)
  · rcases (show j = 0 ∨ j = 1 ∨ j = 2 by omega) with rfl | rfl | rfl <;> exact ⟨nI_0.symm, nI_0.symm⟩
  · rcases (show k = 0 ∨ k = 1 ∨ k = 2 ∨ k = 3 ∨ k = 4 ∨ k = 5 ∨ k = 6 ∨ k = 7 ∨ k = 8 ∨ k = 9 ∨ k = 10 ∨ k = 11 by omega) with rfl | rfl | rfl | rfl | rfl | rfl | rfl | rfl | rfl | rfl | rfl | rfl <;> rfl
set_option maxHeartbeats 4000000 in
set_option maxRecDepth 100000 in
/-- from the entry, for every script of at most 3072 ints, the law comes to its end with true -/
theorem whole_start {p : Program} {e : Env} {s : State} {m : MethodId} {below : List Frame} {meth : Method} {c : Code} (l : Launch) {b L : Nat} {xs : Nat → Int32} (hL : L ≤ 3072) (C0 : lw_At p s m meth c b L xs) : W p l e room_1 s m #[Value.ref b] below meth c s.heap [] 0 0 (lw_Z below #[Value.ref b] s) (entryFrame m ([Value.ref b] : List Value).toArray 4) := by
  obtain ⟨hx, hb, hret, hml, hown, hts, hX, hbl, hlk, hgv⟩ := C0
  obtain ⟨D, cA, hK⟩ := law_K hts
  have hl := lv_entry [Value.ref b] (n := 4) (Nat.le_of_ble_eq_true rfl)
  rw [lg_entry_eq]
  generalize (lg_sl [Value.ref b] ++ List.replicate (4 - (lg_sl [Value.ref b]).length) Slot.unset).toArray = la at hl ⊢
  have hl : lh la [some (.ref b), none, none, none] := hl
  have key : ∀ Z : nO, Z = (D, cA, (p, l, e, s, m, #[Value.ref b], below, meth, c), room_1, (fun q => s.heap.size ≤ q), lw_Z below #[Value.ref b] s) → NW Z 0 [some (.ref b), none, none, none] [] [] 0 0 := by
    intro Z hZe
    have C : nC Z cL_law RL meth.name 4 room_1 := by
      subst hZe
      exact ⟨⟨hx, hb⟩, rfl, ⟨hml, hown⟩, fun w hw => hts w (List.mem_filter.mp hw).1, hK, fun q h => h, rfl, law_Z hts hgv, law_N hts, law_O hts⟩
    have X : lX Z b L xs := by
      subst hZe
      exact ⟨hX, hbl, Nat.not_le.mpr hbl⟩
    have E : lE Z b := by
      subst hZe
      exact ⟨rfl, rfl, rfl, hret, hlk, fun q h => h⟩
    clear hZe
    refine n_new0 (pc := 0) (ty := tyX8) (fs := [.null, .null, .null, .null, .int 0])  (k' := 1) (n' := 5) C dL_law_0 gF8 tyX8_ok cl_L_7 it_X8 inRX8 rfl ⟨rfl, by decide⟩ ⟨rfl, by decide⟩ (fun q0 => ?_)
    refine n_dup (pc := 3) C dL_law_3 rfl ?_
    refine n_callI (pc := 4) (w0 := []) (k' := 51) (n' := 7548) C rfl dL_law_4 kL_9 imX8_init rfl (nX8_init Z.1 Z.2.1 q0) rfl rfl (Nat.le_of_ble_eq_true rfl) ⟨rfl, rfl⟩ (by decide) ⟨rfl, by decide⟩ ⟨rfl, by decide⟩ (fun w4 h4 => ?_)
    obtain ⟨adC, hq0, rfl⟩ := h4
    subst hq0
    refine n_ws (ws' := gw (Z.1, adC, Z.2.1, wC) GC0) rfl ?_
    refine n_astore1 (pc := 7) C dL_law_7 rfl ?_
    refine n_new0 (pc := 8) (ty := tyX9) (fs := [.int 0, .null, .int 0, .null, .int 0, .null, .null, .null, .null, .null, .int 0, .int 0, .int 0, .int 0, .int 0, .int 0, .int 0, .int 0, .null, .int 0, .null, .null, .null, .null, .null, .null, .null, .null, .null, .null, .null, .int 0, .null, .null, .null, .int 0, .int 0, .null, .null, .null, .null, .int 0, .null, .null, .int 0, .int 0, .null, .null, .null, .null, .null, .null, .int 0, .int 0, .null, .null, .null, .null, .null, .null, .null, .null, .null, .null, .null, .null, .int 0, .null, .null, .null, .null, .null, .null, .null, .null, .null, .null, .null, .null, .null, .null, .null, .null])  (k' := 52) (n' := 7631) C dL_law_8 gF9 tyX9_ok cl_L_10 it_X9 inRX9 rfl ⟨rfl, by decide⟩ ⟨rfl, by decide⟩ (fun q8 => ?_)
    refine n_dup (pc := 11) C dL_law_11 rfl ?_
    refine n_callI (pc := 12) (k' := 114) (n' := 73740) C rfl dL_law_12 kL_12 imX9_init rfl (nX9_init Z.1 Z.2.1 q8) rfl rfl (Nat.le_of_ble_eq_true rfl) ⟨rfl, rfl⟩ (by decide) ⟨rfl, by decide⟩ ⟨rfl, by decide⟩ (fun w12 h12 => ?_)
    obtain ⟨adM, hq8, rfl⟩ := h12
    subst hq8
    refine n_ws (ws' := gw (Z.1, adC, Z.2.1, wC) GC0 ++ (gw (Z.1, adM, Z.2.1, wM) GM0 ++ [])) (by rw [List.append_nil]) ?_
    refine n_astore2 (pc := 15) C dL_law_15 rfl ?_
    refine n_iconst (pc := 16) (v := nI 0) C dL_law_16 (by decide) ?_
    refine n_istore3 (pc := 17) C dL_law_17 rfl ?_
    exact law_loop (YC := (Z.1, adC, Z.2.1, wC)) (YM := (Z.1, adM, Z.2.1, wM)) hL C X E ⟨rfl, rfl, rfl⟩ ⟨rfl, rfl, rfl⟩ L 0 GC0 GM0 rfl (Nat.zero_le _) law_RR
  exact key _ rfl s.heap [] la (fun k q h => by cases h) ⟨fun i j p q h => (by cases h), fun k q h => (by cases h)⟩ va_S.rf hl
