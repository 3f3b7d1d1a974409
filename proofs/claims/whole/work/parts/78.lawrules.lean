/-! the law's own frame: the script, the two worlds side by side, its end -/
def lX (Z : nO) (b L : Nat) (xs : Nat → Int32) : Prop :=
  match Z with
  | (_, _, (_, _, _, s, _, _, _, _, _), _, A, _) => va_X b L xs s s.heap ∧ b < s.heap.size ∧ ¬ A b
def lE (Z : nO) (b : Nat) : Prop :=
  match Z with
  | (_, _, (_, _, _, s, _, args, below, meth, _), R, A, Q) => args = #[Value.ref b] ∧ R = room_1 ∧ Q = lw_Z below #[Value.ref b] s ∧ meth.sig.returnType = ret ∧ meth.locks = false ∧ ∀ q, A q → s.heap.size ≤ q
section R
variable {Z : nO} {cc : ByteArray} {own nm : String} {nL : Nat} {R0 : Room} {pc : Nat} {ls : List (Option Value)} {st : List Value} {ws tl : va_W} {k n : Nat}
theorem n_sld {b L : Nat} {xs : Nat → Int32} {x : Int32} (j : Nat) (C : nC Z cc own nm nL R0) (X : lX Z b L xs) (d : decode cc pc = .ok (.iaload, 1)) (hx : x = nI j) (hj : j < L) (hL : L < 2 ^ 31) (kk : NW Z (pc + 1) ls (.int (xs j) :: st) ws k n) : NW Z pc ls (.int x :: .ref b :: st) ws k n := by
  obtain ⟨D, cA, ⟨p, l, e, s, m, args, below, meth, c⟩, R, A, Q⟩ := Z
  obtain ⟨⟨hx', hb⟩, -⟩ := C
  obtain ⟨x1, x2, x3⟩ := X
  intro H locs la hP hD hS hlh
  subst hx
  refine va_sld hx' hb x1 x2 x3 hS (vp_in_nI hj hL) d ?_
  rw [nI_clamp (by omega)]
  exact kk H locs la hP hD hS hlh
theorem n_slen {b L : Nat} {xs : Nat → Int32} (C : nC Z cc own nm nL R0) (X : lX Z b L xs) (d : decode cc pc = .ok (.arraylength, 1)) (kk : NW Z (pc + 1) ls (.int (nI L) :: st) ws k n) : NW Z pc ls (.ref b :: st) ws k n := by
  obtain ⟨D, cA, ⟨p, l, e, s, m, args, below, meth, c⟩, R, A, Q⟩ := Z
  obtain ⟨⟨hx', hb⟩, -⟩ := C
  obtain ⟨x1, x2, x3⟩ := X
  intro H locs la hP hD hS hlh
  exact va_slen hx' hb x1 x2 x3 hS d (kk H locs la hP hD hS hlh)
/-- a call of a method of one of the two, by its contract over its own world -/
theorem n_callG {w0 w2 : va_W} {w : gU} {Y : gY} {G : gS} {r ci N idx ny nn : Nat} {fs : Nat → Nat × Nat} {T : u_T} {y : MethodName} {cy : ByteArray} {rty : Option FieldType} {rmc : Nat × Nat} {As st0 : List Value} {Pi : Int32 → gS → Prop} (C : nC Z cc own nm nL R0) (hlen : ls.length = nL) (d : decode cc pc = .ok (.invokevirtual idx, 3)) (hk : gKV own idx y cy ny rty nn) (hF : gF ci y.cls T N) (hw : Y.2.2.2 = w) (hJ : gJ w r ci N fs) (hY : Y.1 = Z.1 ∧ Y.2.2.1 = Z.2.1) (hM : ∀ l, gM Y l y cy ny rty rmc (.ref (Y.2.1 r) :: As) G (qi Pi)) (hst : As.reverse ++ .ref (Y.2.1 r) :: st = st0) (hn : As.length = nn) (hcat : (st.map fun v => v.category).sum ≤ 8) (hrm : rmc.1 + 1 ≤ R0.frames ∧ 8 + (ny + 11) + rmc.2 ≤ R0.locals) (hk2 : k ≤ R0.cells) (hn2 : n ≤ R0.slots) (kk : ∀ x G', Pi x G' → NW Z (pc + 3) ls (.int x :: st) (w0 ++ (gw Y G' ++ w2)) k n) : NW Z pc ls st0 (w0 ++ (gw Y G ++ w2)) k n := by
  obtain ⟨D, cA, ⟨p, l, e, s, m, args, below, meth, c⟩, R, A, Q⟩ := Z
  obtain ⟨⟨hx, hb⟩, hnm, ⟨hml, hown⟩, hts, hK, hA, rfl, hZ, hN, hO⟩ := C
  obtain ⟨Y1, ad0, Y3, Y4⟩ := Y
  obtain ⟨e1, e2⟩ := hY
  dsimp only at e1 e2
  subst e1
  subst e2
  intro H locs la hP hD hS hlh
  subst hst
  obtain ⟨q, hq, he⟩ := gJ.e (Y := (Y1, ad0, Y3, Y4)) (G := G) hw hJ
  obtain ⟨⟨k1, k2, k3, k4⟩, k5, k6⟩ := hk
  have hPc := n_sub hP
  have hDc := n_subD hD
  have hFc := n_Ain rfl hD hS hA
  intro T hT X
  obtain ⟨v, st₀, t, T', L, h0, X', hL, e1, e2, ⟨⟨v', G', hv, hp, hb2⟩, hz, hkp⟩, stp⟩ := (va_runV (As := As) (rest := st) (Ts := lw_g) ⟨hx, hb, hml, hown, hts⟩ (hM l H.size) ⟨callB_of nn hts (lw_gg k1) rfl rfl rfl (hts _ k3) (hts _ k2) k4 hrm, hts _ k5, hts _ k6⟩ ⟨gP_blind, va_recv hK hPc hF.1 he, fun U hU hW => g_pre hK hDc hA hZ hN hPc hS hU hW⟩ rfl hn (hlh.1.trans hlen) rfl (lv_room hcat) d ⟨hk2, hn2⟩) T hT X
  cases hv
  rw [h0] at hz hkp
  obtain ⟨xr, rfl, hp⟩ := hp
  have hk1 : ∀ q : Nat, q < H.size → ¬ va_A (gw (Y1, ad0, Y3, Y4) G) H.size q → T'.heap[q]? = H[q]? := fun q h1 h2 => by rw [e1]; exact hkp q h1 h2
  obtain ⟨hP2, hD2⟩ := n_join hP hD hk1 hFc (w1 := gw (Y1, ad0, Y3, Y4) G') (by rw [e1]; exact hb2) (gw_D (hDc.self (sz := H.size)))
  obtain ⟨t2, a1, b1⟩ := kk xr G' hp T'.heap (locs ++ L) la hP2 hD2
    ⟨Nat.le_trans hS.1 (by rw [e1]; exact hz), fun q h1 h2 => by rw [hk1 q (Nat.lt_of_lt_of_le h1 hS.1) (fun z => h2 (hFc q z))]; exact hS.2.1 q h1 h2, fun q hq => by
      rcases List.mem_append.mp hq with h | h
      · exact hS.2.2 q h
      · exact hFc _ (hL q h)⟩ hlh T' rfl X'
  exact ⟨t2, stp t2 a1, b1⟩
theorem l_callC {w2 : va_W} {Y : gY} {G : gS} {idx ny nn : Nat} {y : MethodName} {cy : ByteArray} {rty : Option FieldType} {rmc : Nat × Nat} {As st0 : List Value} {Pi : Int32 → gS → Prop} (C : nC Z cc own nm nL R0) (hlen : ls.length = nL) (d : decode cc pc = .ok (.invokevirtual idx, 3)) (hk : gKV own idx y cy ny rty nn) (hy : y.cls = RX8) (hY : Y.1 = Z.1 ∧ Y.2.2.1 = Z.2.1 ∧ Y.2.2.2 = wC) (hM : ∀ l, gM Y l y cy ny rty rmc (.ref (Y.2.1 0) :: As) G (qi Pi)) (hst : As.reverse ++ .ref (Y.2.1 0) :: st = st0) (hn : As.length = nn) (hcat : (st.map fun v => v.category).sum ≤ 8) (hrm : rmc.1 + 1 ≤ R0.frames ∧ 8 + (ny + 11) + rmc.2 ≤ R0.locals) (hk2 : k ≤ R0.cells) (hn2 : n ≤ R0.slots) (kk : ∀ x G', Pi x G' → NW Z (pc + 3) ls (.int x :: st) (gw Y G' ++ w2) k n) : NW Z pc ls st0 (gw Y G ++ w2) k n :=
  n_callG (w0 := []) C hlen d hk (by rw [hy]; exact gF8) hY.2.2 jC0 ⟨hY.1, hY.2.1⟩ hM hst hn hcat hrm hk2 hn2 kk
theorem l_callM {w0 : va_W} {Y : gY} {G : gS} {idx ny nn : Nat} {y : MethodName} {cy : ByteArray} {rty : Option FieldType} {rmc : Nat × Nat} {As st0 : List Value} {Pi : Int32 → gS → Prop} (C : nC Z cc own nm nL R0) (hlen : ls.length = nL) (d : decode cc pc = .ok (.invokevirtual idx, 3)) (hk : gKV own idx y cy ny rty nn) (hy : y.cls = RX9) (hY : Y.1 = Z.1 ∧ Y.2.2.1 = Z.2.1 ∧ Y.2.2.2 = wM) (hM : ∀ l, gM Y l y cy ny rty rmc (.ref (Y.2.1 100) :: As) G (qi Pi)) (hst : As.reverse ++ .ref (Y.2.1 100) :: st = st0) (hn : As.length = nn) (hcat : (st.map fun v => v.category).sum ≤ 8) (hrm : rmc.1 + 1 ≤ R0.frames ∧ 8 + (ny + 11) + rmc.2 ≤ R0.locals) (hk2 : k ≤ R0.cells) (hn2 : n ≤ R0.slots) (kk : ∀ x G', Pi x G' → NW Z (pc + 3) ls (.int x :: st) (w0 ++ (gw Y G' ++ [])) k n) : NW Z pc ls st0 (w0 ++ (gw Y G ++ [])) k n :=
  n_callG C hlen d hk (by rw [hy]; exact gF9) hY.2.2 jM ⟨hY.1, hY.2.1⟩ hM hst hn hcat hrm hk2 hn2 kk
theorem n_lawret {b : Nat} (C : nC Z cL_law own nm nL R0) (E : lE Z b) (d : decode cL_law pc = .ok (.ireturn, 1)) (hk : k ≤ 600000) (hn : n ≤ 7302250) : NW Z pc ls [.int 1] ws k n := by
  obtain ⟨D, cA, ⟨p, l, e, s, m, args, below, meth, c⟩, R, A, Q⟩ := Z
  obtain ⟨⟨hx, hb⟩, -⟩ := C
  obtain ⟨rfl, rfl, rfl, h1, h2, h3⟩ := E
  intro H locs la hP hD hS hlh
  exact va_forget (fun q hq => h3 _ (hS.2.2 q hq)) (W.widen hk hn (lw_ret hx hb h1 h2 d))
end R
theorem law_cmp {i L : Nat} (hi : i ≤ L) (hL : L ≤ 3072) (h : ¬ nI L - nI 6 < nI i) : i + 6 ≤ L := by
  have e1 := nI_toInt (n := L) (by omega)
  have e2 := nI_toInt (n := i) (by omega)
  have e3 : (nI 6).toInt = 6 := by decide
  rw [Int32.lt_iff_toInt_lt, Int32.toInt_sub, e1, e2, e3] at h
  have e4 : ((L : Int) - 6).bmod (2 ^ 32) = (L : Int) - 6 := by
    rw [Int.bmod_def]
    split <;> omega
  rw [e4] at h
  omega
