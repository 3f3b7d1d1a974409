/-! calls -/
def gK (own : String) (idx : Nat) (y : MethodName) (cy : ByteArray) (ny : Nat) (rty : Option FieldType) (n : Nat) : Prop := Cond.code y cy ny rty ∈ lw_g ∧ Cond.methodLink own idx y ∈ lw_g ∧ Cond.initialized y.cls ∈ lw_g ∧ (y.cls ≠ "java/lang/invoke/MethodHandle" ∧ y.cls ≠ "java/lang/invoke/VarHandle" ∧ (parseMethodDescriptor y.desc).map (fun d => d.parameters.length) = some n)
def gKV (own : String) (idx : Nat) (y : MethodName) (cy : ByteArray) (ny : Nat) (rty : Option FieldType) (n : Nat) : Prop := gK own idx y cy ny rty n ∧ Cond.instanceMethod y ∈ lw_g ∧ Cond.selects y.cls y y ∈ lw_g
def gKS (own : String) (idx : Nat) (y : MethodName) (cy : ByteArray) (ny : Nat) (rty : Option FieldType) (n : Nat) : Prop := gK own idx y cy ny rty n ∧ Cond.static y ∈ lw_g
theorem gP_blind {Y : gY} {G : gS} {sz : Nat} {av : List Value} : FrameBlind (va_Pc av (gP Y G sz)) := by
  intro a U g mk h
  obtain ⟨h0, h1, h2, h3, h4, h5, h6⟩ := h
  exact ⟨h0, h1, h2, va_K.moved (u := U) (U := U.calling g mk a) (Vm.Alike.refl U.vm) h3, h4, gZ.to (s := U) (U := U.calling g mk a) h5 (Vm.Alike.refl U.vm) (fun _ _ _ => rfl) (fun _ h => h), ⟨fun q hq => (h6.1 q hq).same rfl rfl, h6.2.same rfl rfl⟩⟩
theorem ww_call {p : Program} {l : Launch} {e : Env} {R : Room} {s : State} {m : MethodId} {args : Array Value} {below : List Frame} {meth : Method} {c : Code} {H : Heap} {locs : List Loc} {Q : State → Prop} {Y : gY} {A A1 : Nat → Prop} {post' : Option Value → gS → Prop} {pc : Nat} {la : Array Slot} {st0 rest : List Value} {a : Array Value} {free : Addr → Prop}
    (hr : va_Run p l e R s m args below meth c H locs 0 0 0 0 (F0 m pc la st0) rest (gQ Y A1 post' a) free) (hS : va_S A s.heap H locs) (hA : ∀ q, q < H.size → A1 q → A q) (hf : ∀ q, free q → A q)
    (kk : ∀ (v : Option Value) (G' : gS) (H1 : Heap) (locs1 : List Loc), post' v G' → va_P Y.1 vwCl (gw Y G') H1 → va_S A s.heap H1 locs1 → W p l e R s m args below meth c H1 locs1 0 0 Q (F0 m (pc + 3) la (v.toList ++ rest))) : W p l e R s m args below meth c H locs 0 0 Q (F0 m pc la st0) := by
  intro T hT X
  obtain ⟨v, st₀, t, T', L, h0, X', hL, e1, e2, ⟨⟨v', G', hv, hp, hb⟩, hz, hk⟩, st⟩ := hr T hT X
  cases hv
  rw [h0] at hz hk
  obtain ⟨t2, a1, b1⟩ := kk v G' T'.heap (locs ++ L) hp (by rw [e1]; exact hb)
    ⟨Nat.le_trans hS.1 (by rw [e1]; exact hz), fun q h1 h2 => by rw [e1, hk q (Nat.lt_of_lt_of_le h1 hS.1) (fun z => h2 (hA q (Nat.lt_of_lt_of_le h1 hS.1) z))]; exact hS.2.1 q h1 h2, fun q hq => by
      rcases List.mem_append.mp hq with h | h
      · exact hS.2.2 q h
      · exact hf _ (hL q h)⟩ T' rfl X'
  exact ⟨t2, st t2 a1, b1⟩
theorem gA_in {Y : gY} {G : gS} {A : Nat → Prop} {H0 H : Heap} {locs : List Loc} (hD : va_D A (gw Y G)) (hS : va_S A H0 H locs) (hA : ∀ q, H0.size ≤ q → A q) : ∀ q, va_A (gw Y G) H.size q → A q := by
  intro q h
  rcases h with ⟨k, e, h⟩ | h
  · exact hD.2 k (q, e) h
  · exact hA q (Nat.le_trans hS.1 h)
theorem g_pre {Y : gY} {G : gS} {A : Nat → Prop} {s U : State} {H : Heap} {locs : List Loc} {av : List Value} (hK : va_K Y.1 vwCl (gT Y.2.2.1) s) (hD : va_D A (gw Y G)) (hA : ∀ q, s.heap.size ≤ q → A q) (hZ : gZ A s s.heap) (hN : gNw s) (hP : va_P Y.1 vwCl (gw Y G) H) (hS : va_S A s.heap H locs) (hU : U.heap = H) (hW : s.WarmedH U.vm) : va_Pc av (gP Y G H.size) av.toArray U :=
  ⟨rfl, by rw [hU], by rw [hU]; exact hP, va_K.moved hW.alike hK, hD.weaken (fun _ _ _ _ => trivial), by rw [hU]; exact gZ.to hZ hW.alike hS.2.1 (gA_in hD hS hA), hN.warm hW⟩
section R
variable {Z : gO} {w : gU} {cc : ByteArray} {own : String} {ret : Option FieldType} {nL : Nat} {rm : Nat × Nat} {post : Option Value → gS → Prop} {pc : Nat} {ls : List (Option Value)} {st st0 : List Value} {G : gS}
variable {r ci N idx ny n : Nat} {fs : Nat → Nat × Nat} {T : u_T} {y : MethodName} {cy : ByteArray} {rty : Option FieldType} {rmc : Nat × Nat} {As : List Value} {post' : Option Value → gS → Prop}
theorem r_callV (C : gC Z w cc own ret nL rm) (hlen : ls.length = nL) (d : decode cc pc = .ok (.invokevirtual idx, 3)) (hk : gKV own idx y cy ny rty n) (hF : gF ci y.cls T N) (hJ : gJ w r ci N fs) (hM : ∀ l, gM Z.1 l y cy ny rty rmc (.ref (ad Z r) :: As) G post') (hst : As.reverse ++ .ref (ad Z r) :: st = st0) (hn : As.length = n) (hcat : (st.map fun v => v.category).sum ≤ 8) (hrm : rmc.1 + 1 ≤ rm.1 ∧ 8 + (ny + 11) + rmc.2 ≤ rm.2) (kk : ∀ v G', post' v G' → WW Z post (pc + 3) ls (v.toList ++ st) G') : WW Z post pc ls st0 G := by
  obtain ⟨Y, ⟨p, l, e, s, m, args, below, meth, c⟩, rm0, A⟩ := Z
  obtain ⟨⟨hx, hb⟩, hrr, ⟨hml, hown⟩, hts, hK, hD, hA, hw, hrm0, hZ, hN⟩ := C
  subst hrm0
  intro H locs la hP hS hlh
  subst hst
  obtain ⟨q, hq, he⟩ := gJ.e (G := G) hw hJ
  obtain ⟨⟨k1, k2, k3, k4⟩, k5, k6⟩ := hk
  have hAi := gA_in (hD G) hS hA
  refine ww_call (va_runV (As := As) (rest := st) (Ts := lw_g) ⟨hx, hb, hml, hown, hts⟩ (hM l H.size) ⟨callB_of n hts (lw_gg k1) rfl rfl rfl (hts _ k3) (hts _ k2) k4 hrm, hts _ k5, hts _ k6⟩ ⟨gP_blind, va_recv hK hP hF.1 he, fun U hU hW => g_pre hK (hD G) hA hZ hN hP hS hU hW⟩ rfl hn (hlh.1.trans hlen) rfl (lv_room hcat) d ⟨Nat.zero_le _, Nat.zero_le _⟩) hS (fun q _ h => hAi q h) hAi (fun v G' H1 locs1 hp hP1 hS1 => kk v G' hp H1 locs1 la hP1 hS1 hlh)
theorem r_callS (C : gC Z w cc own ret nL rm) (hlen : ls.length = nL) (d : decode cc pc = .ok (.invokestatic idx, 3)) (hk : gKS own idx y cy ny rty n) (hM : ∀ l, gM Z.1 l y cy ny rty rmc As G post') (hst : As.reverse ++ st = st0) (hn : As.length = n) (hcat : (st.map fun v => v.category).sum ≤ 8) (hrm : rmc.1 + 1 ≤ rm.1 ∧ 8 + (ny + 11) + rmc.2 ≤ rm.2) (kk : ∀ v G', post' v G' → WW Z post (pc + 3) ls (v.toList ++ st) G') : WW Z post pc ls st0 G := by
  obtain ⟨Y, ⟨p, l, e, s, m, args, below, meth, c⟩, rm0, A⟩ := Z
  obtain ⟨⟨hx, hb⟩, hrr, ⟨hml, hown⟩, hts, hK, hD, hA, hw, hrm0, hZ, hN⟩ := C
  subst hrm0
  intro H locs la hP hS hlh
  subst hst
  obtain ⟨⟨k1, k2, k3, k4⟩, k5⟩ := hk
  have hAi := gA_in (hD G) hS hA
  refine ww_call (va_runS (As := As) (rest := st) (Ts := lw_g) ⟨hx, hb, hml, hown, hts⟩ (hM l H.size) ⟨callB_of n hts (lw_gg k1) rfl rfl rfl (hts _ k3) (hts _ k2) k4 hrm, hts _ k5⟩ ⟨gP_blind, fun U hU hW => g_pre hK (hD G) hA hZ hN hP hS hU hW⟩ rfl hn (hlh.1.trans hlen) rfl (lv_room hcat) d ⟨Nat.zero_le _, Nat.zero_le _⟩) hS (fun q _ h => hAi q h) hAi (fun v G' H1 locs1 hp hP1 hS1 => kk v G' hp H1 locs1 la hP1 hS1 hlh)
/-- Hall's call of BootHall.isBelow, a private one of its host -/
theorem r_callSN (C : gC Z w cc own ret nL rm) (hlen : ls.length = nL) (d : decode cc pc = .ok (.invokestatic 61, 3)) (ho : own = "BootHall$Hall") (hy : y = ⟨"BootHall", "isBelow", "(II)Z"⟩) (k1 : Cond.code y cy ny rty ∈ lw_g) (k3 : Cond.initialized y.cls ∈ lw_g) (k5 : Cond.static y ∈ lw_g) (hM : ∀ l, gM Z.1 l y cy ny rty rmc As G post') (hst : As.reverse ++ st = st0) (hn : As.length = 2) (hcat : (st.map fun v => v.category).sum ≤ 8) (hrm : rmc.1 + 1 ≤ rm.1 ∧ 8 + (ny + 11) + rmc.2 ≤ rm.2) (kk : ∀ v G', post' v G' → WW Z post (pc + 3) ls (v.toList ++ st) G') : WW Z post pc ls st0 G := by
  obtain ⟨Y, ⟨p, l, e, s, m, args, below, meth, c⟩, rm0, A⟩ := Z
  obtain ⟨⟨hx, hb⟩, hrr, ⟨hml, hown⟩, hts, hK, hD, hA, hw, hrm0, hZ, hN⟩ := C
  subst hrm0
  intro H locs la hP hS hlh
  subst hst
  subst hy
  subst ho
  have hAi := gA_in (hD G) hS hA
  refine ww_call (va_runSN (As := As) (rest := st) (Ts := lw_g) (host := "BootHall") (n := 2) ⟨hx, hb, hml, hown, hts⟩ (hM l H.size) ⟨va_cnB 2 hts (lw_gg k1) rfl rfl rfl hN.2 (hts _ k3) (by decide +kernel) hrm, hts _ k5, trivial⟩ ⟨gP_blind, fun U hU hW => g_pre hK (hD G) hA hZ hN hP hS hU hW⟩ rfl hn (hlh.1.trans hlen) rfl (lv_room hcat) d ⟨Nat.zero_le _, Nat.zero_le _⟩) hS (fun q _ h => hAi q h) hAi (fun v G' H1 locs1 hp hP1 hS1 => kk v G' hp H1 locs1 la hP1 hS1 hlh)
variable {Pi : Int32 → gS → Prop} {Pv : gS → Prop} {Pl : Int64 → gS → Prop} {Pr : Nat → gS → Prop}
theorem r_callVi (C : gC Z w cc own ret nL rm) (hlen : ls.length = nL) (d : decode cc pc = .ok (.invokevirtual idx, 3)) (hk : gKV own idx y cy ny rty n) (hF : gF ci y.cls T N) (hJ : gJ w r ci N fs) (hM : ∀ l, gM Z.1 l y cy ny rty rmc (.ref (ad Z r) :: As) G (qi Pi)) (hst : As.reverse ++ .ref (ad Z r) :: st = st0) (hn : As.length = n) (hcat : (st.map fun v => v.category).sum ≤ 8) (hrm : rmc.1 + 1 ≤ rm.1 ∧ 8 + (ny + 11) + rmc.2 ≤ rm.2) (kk : ∀ x G', Pi x G' → WW Z post (pc + 3) ls (.int x :: st) G') : WW Z post pc ls st0 G :=
  r_callV C hlen d hk hF hJ hM hst hn hcat hrm (fun v G' ⟨x, hv, hp⟩ => by subst hv; exact kk x G' hp)
theorem r_callVv (C : gC Z w cc own ret nL rm) (hlen : ls.length = nL) (d : decode cc pc = .ok (.invokevirtual idx, 3)) (hk : gKV own idx y cy ny rty n) (hF : gF ci y.cls T N) (hJ : gJ w r ci N fs) (hM : ∀ l, gM Z.1 l y cy ny rty rmc (.ref (ad Z r) :: As) G (qv Pv)) (hst : As.reverse ++ .ref (ad Z r) :: st = st0) (hn : As.length = n) (hcat : (st.map fun v => v.category).sum ≤ 8) (hrm : rmc.1 + 1 ≤ rm.1 ∧ 8 + (ny + 11) + rmc.2 ≤ rm.2) (kk : ∀ G', Pv G' → WW Z post (pc + 3) ls st G') : WW Z post pc ls st0 G :=
  r_callV C hlen d hk hF hJ hM hst hn hcat hrm (fun v G' ⟨hv, hp⟩ => by subst hv; exact kk G' hp)
theorem r_callVl (C : gC Z w cc own ret nL rm) (hlen : ls.length = nL) (d : decode cc pc = .ok (.invokevirtual idx, 3)) (hk : gKV own idx y cy ny rty n) (hF : gF ci y.cls T N) (hJ : gJ w r ci N fs) (hM : ∀ l, gM Z.1 l y cy ny rty rmc (.ref (ad Z r) :: As) G (ql Pl)) (hst : As.reverse ++ .ref (ad Z r) :: st = st0) (hn : As.length = n) (hcat : (st.map fun v => v.category).sum ≤ 8) (hrm : rmc.1 + 1 ≤ rm.1 ∧ 8 + (ny + 11) + rmc.2 ≤ rm.2) (kk : ∀ x G', Pl x G' → WW Z post (pc + 3) ls (.long x :: st) G') : WW Z post pc ls st0 G :=
  r_callV C hlen d hk hF hJ hM hst hn hcat hrm (fun v G' ⟨x, hv, hp⟩ => by subst hv; exact kk x G' hp)
theorem r_callVr (C : gC Z w cc own ret nL rm) (hlen : ls.length = nL) (d : decode cc pc = .ok (.invokevirtual idx, 3)) (hk : gKV own idx y cy ny rty n) (hF : gF ci y.cls T N) (hJ : gJ w r ci N fs) (hM : ∀ l, gM Z.1 l y cy ny rty rmc (.ref (ad Z r) :: As) G (qr (ad Z) Pr)) (hst : As.reverse ++ .ref (ad Z r) :: st = st0) (hn : As.length = n) (hcat : (st.map fun v => v.category).sum ≤ 8) (hrm : rmc.1 + 1 ≤ rm.1 ∧ 8 + (ny + 11) + rmc.2 ≤ rm.2) (kk : ∀ x G', Pr x G' → WW Z post (pc + 3) ls (.ref (ad Z x) :: st) G') : WW Z post pc ls st0 G :=
  r_callV C hlen d hk hF hJ hM hst hn hcat hrm (fun v G' ⟨x, hv, hp⟩ => by subst hv; exact kk x G' hp)
theorem r_callSi (C : gC Z w cc own ret nL rm) (hlen : ls.length = nL) (d : decode cc pc = .ok (.invokestatic idx, 3)) (hk : gKS own idx y cy ny rty n) (hM : ∀ l, gM Z.1 l y cy ny rty rmc As G (qi Pi)) (hst : As.reverse ++ st = st0) (hn : As.length = n) (hcat : (st.map fun v => v.category).sum ≤ 8) (hrm : rmc.1 + 1 ≤ rm.1 ∧ 8 + (ny + 11) + rmc.2 ≤ rm.2) (kk : ∀ x G', Pi x G' → WW Z post (pc + 3) ls (.int x :: st) G') : WW Z post pc ls st0 G :=
  r_callS C hlen d hk hM hst hn hcat hrm (fun v G' ⟨x, hv, hp⟩ => by subst hv; exact kk x G' hp)
theorem r_callSl (C : gC Z w cc own ret nL rm) (hlen : ls.length = nL) (d : decode cc pc = .ok (.invokestatic idx, 3)) (hk : gKS own idx y cy ny rty n) (hM : ∀ l, gM Z.1 l y cy ny rty rmc As G (ql Pl)) (hst : As.reverse ++ st = st0) (hn : As.length = n) (hcat : (st.map fun v => v.category).sum ≤ 8) (hrm : rmc.1 + 1 ≤ rm.1 ∧ 8 + (ny + 11) + rmc.2 ≤ rm.2) (kk : ∀ x G', Pl x G' → WW Z post (pc + 3) ls (.long x :: st) G') : WW Z post pc ls st0 G :=
  r_callS C hlen d hk hM hst hn hcat hrm (fun v G' ⟨x, hv, hp⟩ => by subst hv; exact kk x G' hp)
theorem r_callSv (C : gC Z w cc own ret nL rm) (hlen : ls.length = nL) (d : decode cc pc = .ok (.invokestatic idx, 3)) (hk : gKS own idx y cy ny rty n) (hM : ∀ l, gM Z.1 l y cy ny rty rmc As G (qv Pv)) (hst : As.reverse ++ st = st0) (hn : As.length = n) (hcat : (st.map fun v => v.category).sum ≤ 8) (hrm : rmc.1 + 1 ≤ rm.1 ∧ 8 + (ny + 11) + rmc.2 ≤ rm.2) (kk : ∀ G', Pv G' → WW Z post (pc + 3) ls st G') : WW Z post pc ls st0 G :=
  r_callS C hlen d hk hM hst hn hcat hrm (fun v G' ⟨hv, hp⟩ => by subst hv; exact kk G' hp)
theorem r_callSNi (C : gC Z w cc own ret nL rm) (hlen : ls.length = nL) (d : decode cc pc = .ok (.invokestatic 61, 3)) (ho : own = "BootHall$Hall") (hy : y = ⟨"BootHall", "isBelow", "(II)Z"⟩) (k1 : Cond.code y cy ny rty ∈ lw_g) (k3 : Cond.initialized y.cls ∈ lw_g) (k5 : Cond.static y ∈ lw_g) (hM : ∀ l, gM Z.1 l y cy ny rty rmc As G (qi Pi)) (hst : As.reverse ++ st = st0) (hn : As.length = 2) (hcat : (st.map fun v => v.category).sum ≤ 8) (hrm : rmc.1 + 1 ≤ rm.1 ∧ 8 + (ny + 11) + rmc.2 ≤ rm.2) (kk : ∀ x G', Pi x G' → WW Z post (pc + 3) ls (.int x :: st) G') : WW Z post pc ls st0 G :=
  r_callSN C hlen d ho hy k1 k3 k5 hM hst hn hcat hrm (fun v G' ⟨x, hv, hp⟩ => by subst hv; exact kk x G' hp)
end R
