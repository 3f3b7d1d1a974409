/-! a second layer, for frames that make cells: the world is a list of cells, grown at its end; k cells of n slots have come -/
abbrev nO : Type := va_G × (Nat → ClassId) × gX × Room × (Nat → Prop) × (State → Prop)
def nNL : List (String × Nat × MethodName) := [("BootHall", 9, ⟨"BootHall$Tape", "<init>", "()V"⟩), ("BootHall$Hall", 33, ⟨"BootHall$Facts", "<init>", "()V"⟩), ("BootHall$Hall", 44, ⟨"BootHall$Machine", "<init>", "()V"⟩), ("BootHall$Hall", 45, ⟨"BootHall$Rules", "<init>", "()V"⟩), ("BootHall$Reader", 17, ⟨"BootHall$Rules", "<init>", "()V"⟩)]
def nAO (U : State) : Prop := va_AO "BootHall$Machine" U ∧ va_AO "BootHall$Rules" U ∧ ∀ q ∈ nNL, va_Nw (.methodLinkNest q.1 q.2.1 q.2.2 "BootHall") U
theorem nAO.warm {s U : State} (hW : s.WarmedH U.vm) (h : nAO s) : nAO U := ⟨va_AO.moved hW.alike h.1, va_AO.moved hW.alike h.2.1, fun q hq => (h.2.2 q hq).warmM hW⟩
def NW (Z : nO) (pc : Nat) (ls : List (Option Value)) (st : List Value) (ws : va_W) (k n : Nat) : Prop :=
  match Z with
  | (D, _, (p, l, e, s, m, args, below, meth, c), R, A, Q) => ∀ (H : Heap) (locs : List Loc) (la : Array Slot), va_P D vwCl ws H → va_D A ws → va_S A s.heap H locs → lh la ls → W p l e R s m args below meth c H locs k n Q (F0 m pc la st)
def nC (Z : nO) (cc : ByteArray) (own nm : String) (nL : Nat) (R0 : Room) : Prop :=
  match Z with
  | (D, cA, (p, _, _, s, m, args, _, meth, c), R, A, _) => (p.tables.exec = Jvm.exec ∧ c.code = cc) ∧ meth.name = nm ∧ (c.maxLocals = nL ∧ s.vm.findClass own = some m.cls) ∧ (∀ w ∈ lw_g, w.before args s = true) ∧ va_K D vwCl (gT cA) s ∧ (∀ q, s.heap.size ≤ q → A q) ∧ R = R0 ∧ gZ A s s.heap ∧ gNw s ∧ nAO s
def nP (D : va_G) (cA : Nat → ClassId) (ws : va_W) (sz : Nat) (U : State) : Prop := U.heap.size = sz ∧ va_P D vwCl ws U.heap ∧ va_K D vwCl (gT cA) U ∧ va_D (fun _ => True) ws ∧ gZ (va_A ws sz) U U.heap ∧ gNw U ∧ nAO U
def nQ (D : va_G) (A : Nat → Prop) (post : va_W → Prop) : Array Value → State → Outcome → State → Prop := va_Qv (S := va_W) post (fun w1 t => va_P D vwCl w1 t.heap ∧ va_D A w1) A
def nM (D : va_G) (cA : Nat → ClassId) (l : Launch) (y : MethodName) (cc : ByteArray) (nL : Nat) (R : Room) (av : List Value) (ws : va_W) (post : va_W → Prop) (mc ms : Nat) : Prop :=
  ∀ sz : Nat, Met l y (.code y cc nL none :: lw_g) R (va_Pc av (nP D cA ws sz)) (nQ D (va_A ws sz) post) mc ms (va_A ws sz)
def nE (Z : nO) (post : va_W → Prop) (mc ms : Nat) : Prop :=
  match Z with
  | (D, _, (_, _, _, s, _, args, below, meth, _), _, A, Q) => Q = MQ below (nQ D A post) args s mc ms A ∧ meth.sig.returnType = none ∧ meth.locks = false
theorem nM_of {D : va_G} {cA : Nat → ClassId} {l : Launch} {y : MethodName} {cc : ByteArray} {nL : Nat} {R : Room} {av : List Value} {ws : va_W} {post : va_W → Prop} {mc ms : Nat} (hy : plainName y.cls = true) (hi : y.name = "<init>") (hn : (lg_sl av).length ≤ nL)
    (ls : List (Option Value)) (hls : ls.length = nL) (hlv : prs 0 ls = lv_args 0 av)
    (body : ∀ Z : nO, Z.1 = D → Z.2.1 = cA → nC Z cc y.cls "<init>" nL R → nE Z post mc ms → NW Z 0 ls [] ws 0 0) : nM D cA l y cc nL R av ws post mc ms := by
  intro sz
  refine Met.ofW (cc := cc) (maxL := nL) (ret := none) hy rfl ?_
  intro p e s m args below meth c s₁ B hml hv
  obtain ⟨rfl, hsz, hP, hK, hD0, hZ, hN, hO⟩ := hv
  have hts := atoms_spec (ws := .code y cc nL none :: lw_g) B.pre
  have hown : s.vm.findClass y.cls = some m.cls := findClass_of_methodNamed B.named
  have hin : meth.name = "<init>" := (name_of_methodNamed B.named B.method).1.trans hi
  subst hsz
  have hD := hD0.self (sz := s.heap.size)
  generalize hAe : va_A ws s.heap.size = A at hD hZ ⊢
  have hA : ∀ q : Nat, s.heap.size ≤ q → A q := fun q h => by rw [← hAe]; exact Or.inr h
  have hS : va_S A s.heap s.heap [] := va_S.rf
  have hl := lv_entry av (n := nL) hn
  rw [lg_entry_eq]
  generalize (lg_sl av ++ List.replicate (nL - (lg_sl av).length) Slot.unset).toArray = la at hl ⊢
  have hl : lh la ls := by rw [lh, hls, hlv]; exact hl
  exact body (D, cA, (p, l, e, s, m, av.toArray, below, meth, c), R, A, MQ below (nQ D A post) av.toArray s mc ms A) rfl rfl ⟨⟨B.exec, B.bytes⟩, hin, ⟨hml, hown⟩, fun w hw => hts w (List.mem_cons_of_mem _ hw), hK, hA, rfl, hZ, hN, hO⟩ ⟨rfl, B.returns, B.notSynchronized⟩ s.heap [] la hP hD hS hl
/-- behind a call: the callee's cells wc have become w1, the others stand -/
theorem n_join {A0 : Nat → Prop} {D : va_G} {cl : List vw_C} {w0 wc w1 w2 : va_W} {H H1 : Heap} (hP : va_P D cl (w0 ++ (wc ++ w2)) H) (hD : va_D A0 (w0 ++ (wc ++ w2))) (hk : ∀ q : Nat, q < H.size → ¬ va_A wc H.size q → H1[q]? = H[q]?) (hF : ∀ q, va_A wc H.size q → A0 q) (hP1 : va_P D cl w1 H1) (hD1 : va_D (va_A wc H.size) w1) : va_P D cl (w0 ++ (w1 ++ w2)) H1 ∧ va_D A0 (w0 ++ (w1 ++ w2)) := by
  have i0 : ∀ (k : Nat) (q : Nat × va_E), w0[k]? = some q → k < w0.length ∧ (w0 ++ (wc ++ w2))[k]? = some q := by
    intro k q hq
    have hl := (List.getElem?_eq_some_iff.mp hq).1
    exact ⟨hl, by rw [List.getElem?_append_left hl]; exact hq⟩
  have i2 : ∀ (k : Nat) (q : Nat × va_E), w2[k]? = some q → (w0 ++ (wc ++ w2))[w0.length + (wc.length + k)]? = some q := by
    intro k q hq
    rw [List.getElem?_append_right (by omega), show w0.length + (wc.length + k) - w0.length = wc.length + k by omega, List.getElem?_append_right (by omega), show wc.length + k - wc.length = k by omega]
    exact hq
  have ic : ∀ (k : Nat) (q : Nat × va_E), wc[k]? = some q → k < wc.length ∧ (w0 ++ (wc ++ w2))[w0.length + k]? = some q := by
    intro k q hq
    have hl := (List.getElem?_eq_some_iff.mp hq).1
    exact ⟨hl, by rw [List.getElem?_append_right (by omega), show w0.length + k - w0.length = k by omega, List.getElem?_append_left hl]; exact hq⟩
  have a0 : ∀ (k : Nat) (q : Nat × va_E), w0[k]? = some q → q.1 < H.size ∧ ¬ va_A wc H.size q.1 := by
    intro k q hq
    obtain ⟨h1, h2⟩ := i0 k q hq
    have hl := (hP k q h2).lt
    refine ⟨hl, fun h => ?_⟩
    rcases h with ⟨k2, e, h⟩ | h
    · have := hD.1 k _ q (q.1, e) h2 (ic k2 _ h).2 rfl
      omega
    · omega
  have a2 : ∀ (k : Nat) (q : Nat × va_E), w2[k]? = some q → q.1 < H.size ∧ ¬ va_A wc H.size q.1 := by
    intro k q hq
    have h2 := i2 k q hq
    have hl := (hP _ q h2).lt
    refine ⟨hl, fun h => ?_⟩
    rcases h with ⟨k2, e, h⟩ | h
    · obtain ⟨h3, h4⟩ := ic k2 _ h
      have := hD.1 _ _ q (q.1, e) h2 h4 rfl
      omega
    · omega
  have hD0 : va_D A0 w0 := by
    refine ⟨fun i j p q hi hj e => hD.1 i j p q (i0 i p hi).2 (i0 j q hj).2 e, fun k q hq => hD.2 k q (i0 k q hq).2⟩
  have hD2 : va_D A0 w2 := by
    refine ⟨fun i j p q hi hj e => ?_, fun k q hq => hD.2 _ q (i2 k q hq)⟩
    have := hD.1 _ _ p q (i2 i p hi) (i2 j q hj) e
    omega
  refine ⟨va_P.app (fun k q hq => ?_) (va_P.app hP1 (fun k q hq => ?_)), va_D.app hD0 (va_D.app (hD1.weaken (fun k q _ h => hF q.1 h)) hD2 (fun i j x y hx hy hxy => ?_)) (fun i j x y hx hy hxy => ?_)⟩
  · obtain ⟨g1, g2⟩ := a0 k q hq
    exact (hP k q (i0 k q hq).2).kept (hk q.1 g1 g2)
  · obtain ⟨g1, g2⟩ := a2 k q hq
    exact (hP _ q (i2 k q hq)).kept (hk q.1 g1 g2)
  · exact (a2 j y hy).2 (by rw [← hxy]; exact hD1.2 i x hx)
  · by_cases hl : j < w1.length
    · rw [List.getElem?_append_left hl] at hy
      exact (a0 i x hx).2 (by rw [hxy]; exact hD1.2 j y hy)
    · rw [List.getElem?_append_right (by omega)] at hy
      have := hD.1 _ _ x y (i0 i x hx).2 (i2 _ y hy) hxy
      have := (i0 i x hx).1
      omega
theorem nP_blind {D : va_G} {cA : Nat → ClassId} {ws : va_W} {sz : Nat} {av : List Value} : FrameBlind (va_Pc av (nP D cA ws sz)) := by
  intro a U g mk h
  obtain ⟨h0, h1, h2, h3, h4, h5, h6, h7⟩ := h
  exact ⟨h0, h1, h2, va_K.moved (u := U) (U := U.calling g mk a) (Vm.Alike.refl U.vm) h3, h4, gZ.to (s := U) (U := U.calling g mk a) h5 (Vm.Alike.refl U.vm) (fun _ _ _ => rfl) (fun _ h => h), ⟨fun q hq => (h6.1 q hq).same rfl rfl, h6.2.same rfl rfl⟩, va_AO.moved (u := U) (U := U.calling g mk a) (Vm.Alike.refl U.vm) h7.1, va_AO.moved (u := U) (U := U.calling g mk a) (Vm.Alike.refl U.vm) h7.2.1, fun q hq => (h7.2.2 q hq).same rfl rfl⟩
theorem n_Ain {ws w0 wc w2 : va_W} {A : Nat → Prop} {H0 H : Heap} {locs : List Loc} (hw : ws = w0 ++ (wc ++ w2)) (hD : va_D A ws) (hS : va_S A H0 H locs) (hA : ∀ q, H0.size ≤ q → A q) : ∀ q, va_A wc H.size q → A q := by
  subst hw
  intro q h
  rcases h with ⟨k, e, h⟩ | h
  · have hl := (List.getElem?_eq_some_iff.mp h).1
    refine hD.2 (w0.length + k) (q, e) ?_
    rw [List.getElem?_append_right (by omega), show w0.length + k - w0.length = k by omega, List.getElem?_append_left hl]
    exact h
  · exact hA q (Nat.le_trans hS.1 h)
theorem n_sub {D : va_G} {cl : List vw_C} {w0 wc w2 : va_W} {H : Heap} (hP : va_P D cl (w0 ++ (wc ++ w2)) H) : va_P D cl wc H := by
  intro k q hq
  have hl := (List.getElem?_eq_some_iff.mp hq).1
  refine hP (w0.length + k) q ?_
  rw [List.getElem?_append_right (by omega), show w0.length + k - w0.length = k by omega, List.getElem?_append_left hl]
  exact hq
theorem n_subD {A : Nat → Prop} {w0 wc w2 : va_W} (hD : va_D A (w0 ++ (wc ++ w2))) : va_D A wc := by
  have ic : ∀ (k : Nat) (q : Nat × va_E), wc[k]? = some q → (w0 ++ (wc ++ w2))[w0.length + k]? = some q := by
    intro k q hq
    have hl := (List.getElem?_eq_some_iff.mp hq).1
    rw [List.getElem?_append_right (by omega), show w0.length + k - w0.length = k by omega, List.getElem?_append_left hl]
    exact hq
  refine ⟨fun i j p q hi hj e => ?_, fun k q hq => hD.2 _ q (ic k q hq)⟩
  have := hD.1 _ _ p q (ic i p hi) (ic j q hj) e
  omega
section R
variable {Z : nO} {cc : ByteArray} {own nm : String} {nL : Nat} {R0 : Room} {pc : Nat} {ls : List (Option Value)} {st : List Value} {ws tl : va_W} {k n k' n' : Nat}
theorem n_conv {ws' : va_W} (h : ∀ A H, va_P Z.1 vwCl ws H → va_D A ws → va_P Z.1 vwCl ws' H ∧ va_D A ws') (kk : NW Z pc ls st ws' k n) : NW Z pc ls st ws k n := by
  obtain ⟨D, cA, ⟨p, l, e, s, m, args, below, meth, c⟩, R, A, Q⟩ := Z
  intro H locs la hP hD hS hl
  obtain ⟨h1, h2⟩ := h A H hP hD
  exact kk H locs la h1 h2 hS hl
theorem n_ws {ws' : va_W} (h : ws = ws') (kk : NW Z pc ls st ws' k n) : NW Z pc ls st ws k n := h ▸ kk
theorem n_iconst {z : Int} {v : Int32} (C : nC Z cc own nm nL R0) (d : decode cc pc = .ok (.iconst z, 1)) (hv : Int32.ofInt z = v) (kk : NW Z (pc + 1) ls (.int v :: st) ws k n) : NW Z pc ls st ws k n := by
  obtain ⟨D, cA, ⟨p, l, e, s, m, args, below, meth, c⟩, R, A, Q⟩ := Z
  obtain ⟨⟨hx, hb⟩, -⟩ := C
  exact fun H locs la hP hD hS hl => lv_iconst hx hb d hv (kk H locs la hP hD hS hl)
theorem n_bipush {z : Int} {v : Int32} (C : nC Z cc own nm nL R0) (d : decode cc pc = .ok (.bipush z, 2)) (hv : (Int8.ofInt z).toInt32 = v) (kk : NW Z (pc + 2) ls (.int v :: st) ws k n) : NW Z pc ls st ws k n := by
  obtain ⟨D, cA, ⟨p, l, e, s, m, args, below, meth, c⟩, R, A, Q⟩ := Z
  obtain ⟨⟨hx, hb⟩, -⟩ := C
  exact fun H locs la hP hD hS hl => lv_bipush hx hb d hv (kk H locs la hP hD hS hl)
theorem n_sipush {z : Int} {v : Int32} (C : nC Z cc own nm nL R0) (d : decode cc pc = .ok (.sipush z, 3)) (hv : (Int16.ofInt z).toInt32 = v) (kk : NW Z (pc + 3) ls (.int v :: st) ws k n) : NW Z pc ls st ws k n := by
  obtain ⟨D, cA, ⟨p, l, e, s, m, args, below, meth, c⟩, R, A, Q⟩ := Z
  obtain ⟨⟨hx, hb⟩, -⟩ := C
  exact fun H locs la hP hD hS hl => lv_sipush hx hb d hv (kk H locs la hP hD hS hl)
theorem n_iadd {x y : Int32} (C : nC Z cc own nm nL R0) (d : decode cc pc = .ok (.iadd, 1)) (kk : NW Z (pc + 1) ls (.int (x + y) :: st) ws k n) : NW Z pc ls (.int y :: .int x :: st) ws k n := by
  obtain ⟨D, cA, ⟨p, l, e, s, m, args, below, meth, c⟩, R, A, Q⟩ := Z
  obtain ⟨⟨hx, hb⟩, -⟩ := C
  exact fun H locs la hP hD hS hl => lv_iadd hx hb d (kk H locs la hP hD hS hl)
theorem n_isub {x y : Int32} (C : nC Z cc own nm nL R0) (d : decode cc pc = .ok (.isub, 1)) (kk : NW Z (pc + 1) ls (.int (x - y) :: st) ws k n) : NW Z pc ls (.int y :: .int x :: st) ws k n := by
  obtain ⟨D, cA, ⟨p, l, e, s, m, args, below, meth, c⟩, R, A, Q⟩ := Z
  obtain ⟨⟨hx, hb⟩, -⟩ := C
  exact fun H locs la hP hD hS hl => lv_isub hx hb d (kk H locs la hP hD hS hl)
theorem n_iand {x y : Int32} (C : nC Z cc own nm nL R0) (d : decode cc pc = .ok (.iand, 1)) (kk : NW Z (pc + 1) ls (.int (x &&& y) :: st) ws k n) : NW Z pc ls (.int y :: .int x :: st) ws k n := by
  obtain ⟨D, cA, ⟨p, l, e, s, m, args, below, meth, c⟩, R, A, Q⟩ := Z
  obtain ⟨⟨hx, hb⟩, -⟩ := C
  exact fun H locs la hP hD hS hl => lv_iand hx hb d (kk H locs la hP hD hS hl)
theorem n_eqi {x y : Int32} (h : x = y) (kk : NW Z pc ls (.int y :: st) ws k n) : NW Z pc ls (.int x :: st) ws k n := h ▸ kk
theorem n_dup {a : Value} (C : nC Z cc own nm nL R0) (d : decode cc pc = .ok (.dup, 1)) (ha : a.category = 1) (kk : NW Z (pc + 1) ls (a :: a :: st) ws k n) : NW Z pc ls (a :: st) ws k n := by
  obtain ⟨D, cA, ⟨p, l, e, s, m, args, below, meth, c⟩, R, A, Q⟩ := Z
  obtain ⟨⟨hx, hb⟩, -⟩ := C
  exact fun H locs la hP hD hS hl => lv_dup hx hb d ha (kk H locs la hP hD hS hl)
theorem n_goto {off : Int} (tgt : Nat) (C : nC Z cc own nm nL R0) (d : decode cc pc = .ok (.goto off, 3)) (ht : (pc : Int) + off = (tgt : Int)) (kk : NW Z tgt ls st ws k n) : NW Z pc ls st ws k n := by
  obtain ⟨D, cA, ⟨p, l, e, s, m, args, below, meth, c⟩, R, A, Q⟩ := Z
  obtain ⟨⟨hx, hb⟩, -⟩ := C
  exact fun H locs la hP hD hS hl => lv_goto hx hb d ht (kk H locs la hP hD hS hl)
theorem n_icmp_ge {off : Int} {x y : Int32} (tgt : Nat) (C : nC Z cc own nm nL R0) (d : decode cc pc = .ok (.if_icmp .ge off, 3)) (ht : (pc : Int) + off = (tgt : Int)) (kt : y ≤ x → NW Z tgt ls st ws k n) (kf : ¬ y ≤ x → NW Z (pc + 3) ls st ws k n) : NW Z pc ls (.int y :: .int x :: st) ws k n := by
  obtain ⟨D, cA, ⟨p, l, e, s, m, args, below, meth, c⟩, R, A, Q⟩ := Z
  obtain ⟨⟨hx, hb⟩, -⟩ := C
  exact fun H locs la hP hD hS hl => lv_icmp_ge hx hb d ht (fun h => kt (by first | exact h | simpa using h) H locs la hP hD hS hl) (fun h => kf (by first | exact h | exact Classical.not_not.mp h | simpa using h) H locs la hP hD hS hl)
theorem n_icmp_gt {off : Int} {x y : Int32} (tgt : Nat) (C : nC Z cc own nm nL R0) (d : decode cc pc = .ok (.if_icmp .gt off, 3)) (ht : (pc : Int) + off = (tgt : Int)) (kt : y < x → NW Z tgt ls st ws k n) (kf : ¬ y < x → NW Z (pc + 3) ls st ws k n) : NW Z pc ls (.int y :: .int x :: st) ws k n := by
  obtain ⟨D, cA, ⟨p, l, e, s, m, args, below, meth, c⟩, R, A, Q⟩ := Z
  obtain ⟨⟨hx, hb⟩, -⟩ := C
  exact fun H locs la hP hD hS hl => lv_icmp_gt hx hb d ht (fun h => kt (by first | exact h | simpa using h) H locs la hP hD hS hl) (fun h => kf (by first | exact h | exact Classical.not_not.mp h | simpa using h) H locs la hP hD hS hl)
theorem n_icmp_eq {off : Int} {x y : Int32} (tgt : Nat) (C : nC Z cc own nm nL R0) (d : decode cc pc = .ok (.if_icmp .eq off, 3)) (ht : (pc : Int) + off = (tgt : Int)) (kt : x = y → NW Z tgt ls st ws k n) (kf : ¬ x = y → NW Z (pc + 3) ls st ws k n) : NW Z pc ls (.int y :: .int x :: st) ws k n := by
  obtain ⟨D, cA, ⟨p, l, e, s, m, args, below, meth, c⟩, R, A, Q⟩ := Z
  obtain ⟨⟨hx, hb⟩, -⟩ := C
  exact fun H locs la hP hD hS hl => lv_icmp_eq hx hb d ht (fun h => kt (by first | exact h | simpa using h) H locs la hP hD hS hl) (fun h => kf (by first | exact h | exact Classical.not_not.mp h | simpa using h) H locs la hP hD hS hl)
theorem n_tableOut {dflt lo hi : Int} {offs : Array Int} {len : Nat} {x : Int32} (tgt : Nat) (C : nC Z cc own nm nL R0) (d : decode cc pc = .ok (.tableswitch dflt lo hi offs, len)) (h : x.toInt < lo ∨ hi < x.toInt) (ht : (pc : Int) + dflt = (tgt : Int)) (kk : NW Z tgt ls st ws k n) : NW Z pc ls (.int x :: st) ws k n := by
  obtain ⟨D, cA, ⟨p, l, e, s, m, args, below, meth, c⟩, R, A, Q⟩ := Z
  obtain ⟨⟨hx, hb⟩, -⟩ := C
  exact fun H locs la hP hD hS hl => lv_tableOut hx hb d h ht (kk H locs la hP hD hS hl)
theorem n_tableIn {dflt lo hi : Int} {offs : Array Int} {len : Nat} {x : Int32} {off : Int} (tgt : Nat) (C : nC Z cc own nm nL R0) (d : decode cc pc = .ok (.tableswitch dflt lo hi offs, len)) (h1 : ¬ x.toInt < lo) (h2 : ¬ hi < x.toInt) (ho : offs[(x.toInt - lo).toNat]? = some off) (ht : (pc : Int) + off = (tgt : Int)) (kk : NW Z tgt ls st ws k n) : NW Z pc ls (.int x :: st) ws k n := by
  obtain ⟨D, cA, ⟨p, l, e, s, m, args, below, meth, c⟩, R, A, Q⟩ := Z
  obtain ⟨⟨hx, hb⟩, -⟩ := C
  exact fun H locs la hP hD hS hl => lv_tableIn hx hb d h1 h2 ho ht (kk H locs la hP hD hS hl)
theorem n_aload {i : Fin 4} {x : Nat} (C : nC Z cc own nm nL R0) (d : decode cc pc = .ok (.aload_n i, 1)) (hi : ls[(i : Nat)]? = some (some (.ref x))) (kk : NW Z (pc + 1) ls (.ref x :: st) ws k n) : NW Z pc ls st ws k n := by
  obtain ⟨D, cA, ⟨p, l, e, s, m, args, below, meth, c⟩, R, A, Q⟩ := Z
  obtain ⟨⟨hx, hb⟩, -⟩ := C
  exact fun H locs la hP hD hS hl => lv_aload_n hx hb d rfl (lh_at hl hi) (kk H locs la hP hD hS hl)
theorem n_iload {i : Fin 4} {x : Int32} (C : nC Z cc own nm nL R0) (d : decode cc pc = .ok (.iload_n i, 1)) (hi : ls[(i : Nat)]? = some (some (.int x))) (kk : NW Z (pc + 1) ls (.int x :: st) ws k n) : NW Z pc ls st ws k n := by
  obtain ⟨D, cA, ⟨p, l, e, s, m, args, below, meth, c⟩, R, A, Q⟩ := Z
  obtain ⟨⟨hx, hb⟩, -⟩ := C
  exact fun H locs la hP hD hS hl => lv_iload_n hx hb d rfl (lh_at hl hi) (kk H locs la hP hD hS hl)
theorem n_astore1 {o0 oo : Option Value} {x : Nat} (C : nC Z cc own nm nL R0) (d : decode cc pc = .ok (.astore_n 1, 1)) (h1 : c1 o0 = true) (kk : NW Z (pc + 1) (o0 :: some (.ref x) :: ls) st ws k n) : NW Z pc (o0 :: oo :: ls) (.ref x :: st) ws k n := by
  obtain ⟨D, cA, ⟨p, l, e, s, m, args, below, meth, c⟩, R, A, Q⟩ := Z
  obtain ⟨⟨hx, hb⟩, -⟩ := C
  exact fun H locs la hP hD hS hl => lv_astore_n (i := 1) hx hb d rfl hl (by simp only [List.length_cons]; omega) rfl (fun la2 hl2 => kk H locs la2 hP hD hS (lh_s1 (ls := o0 :: oo :: ls) (i := 1) hl2 (fun j w hj hw => by
      obtain rfl : j = 0 := by omega
      cases hw; exact h1)))
theorem n_astore2 {o0 o1 oo : Option Value} {x : Nat} (C : nC Z cc own nm nL R0) (d : decode cc pc = .ok (.astore_n 2, 1)) (h1 : c1 o1 = true) (kk : NW Z (pc + 1) (o0 :: o1 :: some (.ref x) :: ls) st ws k n) : NW Z pc (o0 :: o1 :: oo :: ls) (.ref x :: st) ws k n := by
  obtain ⟨D, cA, ⟨p, l, e, s, m, args, below, meth, c⟩, R, A, Q⟩ := Z
  obtain ⟨⟨hx, hb⟩, -⟩ := C
  exact fun H locs la hP hD hS hl => lv_astore_n (i := 2) hx hb d rfl hl (by simp only [List.length_cons]; omega) rfl (fun la2 hl2 => kk H locs la2 hP hD hS (lh_s1 (ls := o0 :: o1 :: oo :: ls) (i := 2) hl2 (fun j w hj hw => by
      obtain rfl : j = 1 := by omega
      cases hw; exact h1)))
theorem n_istore1 {o0 oo : Option Value} {x : Int32} (C : nC Z cc own nm nL R0) (d : decode cc pc = .ok (.istore_n 1, 1)) (h1 : c1 o0 = true) (kk : NW Z (pc + 1) (o0 :: some (.int x) :: ls) st ws k n) : NW Z pc (o0 :: oo :: ls) (.int x :: st) ws k n := by
  obtain ⟨D, cA, ⟨p, l, e, s, m, args, below, meth, c⟩, R, A, Q⟩ := Z
  obtain ⟨⟨hx, hb⟩, -⟩ := C
  exact fun H locs la hP hD hS hl => lv_istore_n (i := 1) hx hb d rfl hl (by simp only [List.length_cons]; omega) rfl (fun la2 hl2 => kk H locs la2 hP hD hS (lh_s1 (ls := o0 :: oo :: ls) (i := 1) hl2 (fun j w hj hw => by
      obtain rfl : j = 0 := by omega
      cases hw; exact h1)))
theorem n_iinc1 {o0 : Option Value} {x x' : Int32} {z : Int} (C : nC Z cc own nm nL R0) (d : decode cc pc = .ok (.iinc 1 z, 3)) (hv : x + Int32.ofInt z = x') (h1 : c1 o0 = true) (kk : NW Z (pc + 3) (o0 :: some (.int x') :: ls) st ws k n) : NW Z pc (o0 :: some (.int x) :: ls) st ws k n := by
  obtain ⟨D, cA, ⟨p, l, e, s, m, args, below, meth, c⟩, R, A, Q⟩ := Z
  obtain ⟨⟨hx, hb⟩, -⟩ := C
  intro H locs la hP hD hS hl
  subst hv
  obtain ⟨j, hj⟩ := List.getElem?_of_mem ((prs_mem (o0 :: some (.int x) :: ls) 0 1 (.int x)).mpr ⟨Nat.zero_le _, rfl⟩)
  exact lv_iinc (i := 1) hx hb d hl hj rfl (by simp only [List.length_cons]; omega) rfl (fun la2 hl2 => kk H locs la2 hP hD hS (lh_s1 (ls := o0 :: some (.int x) :: ls) (i := 1) hl2 (fun j w hj hw => by
      obtain rfl : j = 0 := by omega
      cases hw; exact h1)))
theorem n_istore3 {o0 o1 o2 oo : Option Value} {x : Int32} (C : nC Z cc own nm nL R0) (d : decode cc pc = .ok (.istore_n 3, 1)) (h1 : c1 o2 = true) (kk : NW Z (pc + 1) (o0 :: o1 :: o2 :: some (.int x) :: ls) st ws k n) : NW Z pc (o0 :: o1 :: o2 :: oo :: ls) (.int x :: st) ws k n := by
  obtain ⟨D, cA, ⟨p, l, e, s, m, args, below, meth, c⟩, R, A, Q⟩ := Z
  obtain ⟨⟨hx, hb⟩, -⟩ := C
  exact fun H locs la hP hD hS hl => lv_istore_n (i := 3) hx hb d rfl hl (by simp only [List.length_cons]; omega) rfl (fun la2 hl2 => kk H locs la2 hP hD hS (lh_s1 (ls := o0 :: o1 :: o2 :: oo :: ls) (i := 3) hl2 (fun j w hj hw => by
      obtain rfl : j = 2 := by omega
      cases hw; exact h1)))
theorem n_iinc3 {o0 o1 o2 : Option Value} {x x' : Int32} {z : Int} (C : nC Z cc own nm nL R0) (d : decode cc pc = .ok (.iinc 3 z, 3)) (hv : x + Int32.ofInt z = x') (h1 : c1 o2 = true) (kk : NW Z (pc + 3) (o0 :: o1 :: o2 :: some (.int x') :: ls) st ws k n) : NW Z pc (o0 :: o1 :: o2 :: some (.int x) :: ls) st ws k n := by
  obtain ⟨D, cA, ⟨p, l, e, s, m, args, below, meth, c⟩, R, A, Q⟩ := Z
  obtain ⟨⟨hx, hb⟩, -⟩ := C
  intro H locs la hP hD hS hl
  subst hv
  obtain ⟨j, hj⟩ := List.getElem?_of_mem ((prs_mem (o0 :: o1 :: o2 :: some (.int x) :: ls) 0 3 (.int x)).mpr ⟨Nat.zero_le _, rfl⟩)
  exact lv_iinc (i := 3) hx hb d hl hj rfl (by simp only [List.length_cons]; omega) rfl (fun la2 hl2 => kk H locs la2 hP hD hS (lh_s1 (ls := o0 :: o1 :: o2 :: some (.int x) :: ls) (i := 3) hl2 (fun j w hj hw => by
      obtain rfl : j = 2 := by omega
      cases hw; exact h1)))
/-- Object's own constructor -/
theorem n_obj {idx a : Nat} (C : nC Z cc own nm nL R0) (hlen : ls.length = nL) (d : decode cc pc = .ok (.invokespecial idx, 3)) (hl : Cond.methodLink own idx Lib.objectInit ∈ lw_g) (hi : Cond.instanceMethod Lib.objectInit ∈ lw_g) (hc : Cond.code Lib.objectInit ⟨#[0xb1]⟩ 1 none ∈ lw_g) (hr : 1 ≤ R0.frames ∧ (st.map fun v => v.category).sum + 12 ≤ R0.locals) (kk : NW Z (pc + 3) ls st ws k n) : NW Z pc ls (.ref a :: st) ws k n := by
  obtain ⟨D, cA, ⟨p, l, e, s, m, args, below, meth, c⟩, R, A, Q⟩ := Z
  obtain ⟨⟨hx, hb⟩, -, ⟨hml, hown⟩, hts, hK, hA, rfl, -⟩ := C
  intro H locs la hP hD hS hlh
  exact W.objInit hx hb hown (hts _ hl) (hts _ hi) (hts _ hc) rfl (by rw [hml]; exact hlh.1.trans hlen) rfl d hr.1 (by have := hr.2; show 2 * 0 + _ + 12 ≤ _; omega) (kk H locs la hP hD hS hlh)
theorem n_get {a ci idx N j : Nat} {Cn : String} {T : u_T} {fs : List Value} {v : Value} (q0 : Nat) (C : nC Z cc own nm nL R0) (d : decode cc pc = .ok (.getfield idx, 3)) (hF : gF ci Cn T N) (he : ws[q0]? = some (a, .inr (ci, fs))) (hk : j < N) (hl : Cond.fieldLink own idx (T j).1 (T j).2.1 (T j).2.2.1 ∈ lw_g) (hv : fs[j]? = some v) (kk : NW Z (pc + 3) ls (v :: st) ws k n) : NW Z pc ls (.ref a :: st) ws k n := by
  obtain ⟨D, cA, ⟨p, l, e, s, m, args, below, meth, c⟩, R, A, Q⟩ := Z
  obtain ⟨⟨hx, hb⟩, -, ⟨hml, hown⟩, hts, hK, -⟩ := C
  obtain ⟨f1, f2, f3, ty0, f4⟩ := hF
  intro H locs la hP hD hS hlh
  exact va_get hx hb hts f2 hown hK hP q0 he f1 j hk (hts _ hl) (fun _ h => h) hv d (kk H locs la hP hD hS hlh)
theorem n_put {a ci idx N j : Nat} {Cn : String} {T : u_T} {fs fs' : List Value} {v : Value} {ty : FieldType} (C : nC Z cc own nm nL R0) (d : decode cc pc = .ok (.putfield idx, 3)) (hF : gF ci Cn T N) (hk : j < N) (hl : Cond.fieldLink own idx (T j).1 (T j).2.1 (T j).2.2.1 ∈ lw_g) (hfin : (T j).2.2.2 = false) (hd : parseFieldDescriptor (T j).2.2.1 = some ty) (hn : narrow ty v = v) (hfit : fits ty v = true) (hlf : j < fs.length) (hfs : fs.set j v = fs') (kk : NW Z (pc + 3) ls st ((a, .inr (ci, fs')) :: tl) k n) : NW Z pc ls (v :: .ref a :: st) ((a, .inr (ci, fs)) :: tl) k n := by
  obtain ⟨D, cA, ⟨p, l, e, s, m, args, below, meth, c⟩, R, A, Q⟩ := Z
  obtain ⟨⟨hx, hb⟩, -, ⟨hml, hown⟩, hts, hK, -⟩ := C
  obtain ⟨f1, f2, f3, ty0, f4⟩ := hF
  intro H locs la hP hD hS hlh
  subst hfs
  exact va_put hx hb hts f2 ty0 f4 f3 hown hK hP hD hS 0 rfl f1 j hk (hts _ hl) (fun _ h => h) hfin hd hn hfit hlf d (fun H1 locs1 hP1 hD1 hS1 => kk H1 locs1 la hP1 hD1 hS1 hlh)
theorem n_putF {a ci idx N j : Nat} {Cn : String} {T : u_T} {fs fs' : List Value} {v : Value} {ty : FieldType} (C : nC Z cc own "<init>" nL R0) (d : decode cc pc = .ok (.putfield idx, 3)) (hF : gF ci Cn T N) (hk : j < N) (hl : Cond.fieldLink own idx (T j).1 (T j).2.1 (T j).2.2.1 ∈ lw_g) (hfin : (T j).2.2.2 = true) (hdc : (T j).1 = own) (hd : parseFieldDescriptor (T j).2.2.1 = some ty) (hn : narrow ty v = v) (hfit : fits ty v = true) (hlf : j < fs.length) (hfs : fs.set j v = fs') (kk : NW Z (pc + 3) ls st ((a, .inr (ci, fs')) :: tl) k n) : NW Z pc ls (v :: .ref a :: st) ((a, .inr (ci, fs)) :: tl) k n := by
  obtain ⟨D, cA, ⟨p, l, e, s, m, args, below, meth, c⟩, R, A, Q⟩ := Z
  obtain ⟨⟨hx, hb⟩, hnm, ⟨hml, hown⟩, hts, hK, -⟩ := C
  obtain ⟨f1, f2, f3, ty0, f4⟩ := hF
  intro H locs la hP hD hS hlh
  subst hfs
  exact va_putF hx hb hts f2 ty0 f4 f3 hown hK hP hD hS 0 rfl f1 j hk (hts _ hl) (fun _ h => h) hfin hnm hdc hd hn hfit hlf d (fun H1 locs1 hP1 hD1 hS1 => kk H1 locs1 la hP1 hD1 hS1 hlh)
/-- a new row of ints, booleans, bytes or longs -/
theorem n_newa {hd : Nat × va_E} {atype : ArrayType} {ty : FieldType} {t N : Nat} {x : Int32} {a0 : vp_A} (C : nC Z cc own nm nL R0) (d : decode cc pc = .ok (.newarray atype, 2)) (hty : newarray.typeOf atype = ty) (harr : Cond.arrayClass ty ∈ lw_g) (ht : ∀ cA, (gT cA)[t]? = some (cA t, ty)) (hra : ∀ U c, va_RA U c ty → U.vm.findClass ("[" ++ ty.toString) = some c) (ha : ∀ c, vp_cell c a0 = arrV c N (fun _ => defaultValue ty)) (hN : x = nI N) (hs : N < 2 ^ 15) (hb8 : componentBytes ty ≤ 8) (hk : k + 1 = k' ∧ k' ≤ R0.cells) (hn : n + N = n' ∧ n' ≤ R0.slots) (kk : ∀ q : Nat, NW Z (pc + 2) ls (.ref q :: st) (hd :: (tl ++ [(q, .inl (Z.2.1 t, a0))])) k' n') : NW Z pc ls (.int x :: st) (hd :: tl) k n := by
  obtain ⟨D, cA, ⟨p, l, e, s, m, args, below, meth, c⟩, R, A, Q⟩ := Z
  obtain ⟨⟨hx, hb⟩, hnm, ⟨hml, hown⟩, hts, hK, hA, rfl, -⟩ := C
  intro H locs la hP hD hS hlh
  subst hty
  subst hN
  obtain ⟨rfl, hk2⟩ := hk
  obtain ⟨rfl, hn2⟩ := hn
  have h31 : N < 2 ^ 31 := by omega
  refine va_newa hx hb (hts _ harr) rfl hK hP hD hS hA ha (nI_pos h31) (nI_clamp h31) (by have := Nat.mul_le_mul (Nat.le_of_lt hs) hb8; omega) hk2 hn2 d (fun q c1 H1 hK1 hP1 hD1 hS1 => ?_)
  have e1 := hra _ _ (hK1.2 (gT cA).length (c1, newarray.typeOf atype) (by rw [List.getElem?_append_right (Nat.le_refl _), Nat.sub_self]; rfl)).2
  have e2 := hra _ _ (hK.2 t _ (ht cA)).2
  have e3 : c1 = cA t := Option.some.inj (e1.symm.trans e2)
  subst e3
  exact kk q H1 locs la hP1 hD1 hS1 hlh
/-- a new row of references, all null -/
theorem n_anew {hd : Nat × va_E} {Cn : String} {idx t N : Nat} {x : Int32} (C : nC Z cc own nm nL R0) (d : decode cc pc = .ok (.anewarray idx, 3)) (hcl : Cond.classLink own idx Cn ∈ lw_g) (hao : Cn = "BootHall$Machine" ∨ Cn = "BootHall$Rules") (ht : ∀ cA, (gT cA)[t]? = some (cA t, .object Cn)) (hN : x = nI N) (hs : N < 2 ^ 15) (hk : k + 1 = k' ∧ k' ≤ R0.cells) (hn : n + N = n' ∧ n' ≤ R0.slots) (kk : ∀ q : Nat, NW Z (pc + 3) ls (.ref q :: st) (hd :: (tl ++ [(q, .inl (Z.2.1 t, N, .inr (.inr (.inr (.inr (fun _ => none))))))])) k' n') : NW Z pc ls (.int x :: st) (hd :: tl) k n := by
  obtain ⟨D, cA, ⟨p, l, e, s, m, args, below, meth, c⟩, R, A, Q⟩ := Z
  obtain ⟨⟨hx, hb⟩, hnm, ⟨hml, hown⟩, hts, hK, hA, rfl, hZ, hN2, hO⟩ := C
  intro H locs la hP hD hS hlh
  subst hN
  obtain ⟨rfl, hk2⟩ := hk
  obtain ⟨rfl, hn2⟩ := hn
  have h31 : N < 2 ^ 31 := by omega
  have ho : va_AO Cn s := by
    rcases hao with rfl | rfl
    · exact hO.1
    · exact hO.2.1
  refine va_newq hx hb hown (hts _ hcl) ho hK hP hD hS hA (nI_pos h31) (nI_clamp h31) (by omega) hk2 hn2 d (fun q c1 H1 hK1 hP1 hD1 hS1 => ?_)
  obtain ⟨-, -, -, -, -, e1⟩ := (hK1.2 (gT cA).length (c1, .object Cn) (by rw [List.getElem?_append_right (Nat.le_refl _), Nat.sub_self]; rfl)).2
  obtain ⟨-, -, -, -, -, e2⟩ := (hK.2 t _ (ht cA)).2
  have e3 : c1 = cA t := Option.some.inj (e1.symm.trans e2)
  subst e3
  exact kk q H1 locs la hP1 hD1 hS1 hlh
theorem n_new0 {idx ci N : Nat} {Cn : String} {T : u_T} {fs : List Value} {ty : Nat → FieldType} (C : nC Z cc own nm nL R0) (d : decode cc pc = .ok (.new idx, 3)) (hF : gF ci Cn T N) (hty : ∀ k, k < N → parseFieldDescriptor (T k).2.2.1 = some (ty k)) (hcl : Cond.classLink own idx Cn ∈ lw_g) (hin : Cond.instantiable Cn N ∈ lw_g) (hini : Cond.initialized Cn ∈ lw_g) (hfs : (List.range N).map (fun j => defaultValue (ty j)) = fs) (hk : k + 1 = k' ∧ k' ≤ R0.cells) (hn : n + N = n' ∧ n' ≤ R0.slots) (kk : ∀ q : Nat, NW Z (pc + 3) ls (.ref q :: st) (ws ++ [(q, .inr (ci, fs))]) k' n') : NW Z pc ls st ws k n := by
  obtain ⟨D, cA, ⟨p, l, e, s, m, args, below, meth, c⟩, R, A, Q⟩ := Z
  obtain ⟨⟨hx, hb⟩, hnm, ⟨hml, hown⟩, hts, hK, hA, rfl, -⟩ := C
  obtain ⟨f1, f2, f3, f4⟩ := hF
  intro H locs la hP hD hS hlh
  subst hfs
  obtain ⟨rfl, hk2⟩ := hk
  obtain ⟨rfl, hn2⟩ := hn
  refine va_new hx hb hts f2 ty hty hown (hts _ hcl) (hts _ hin) (hts _ hini) hK hP hD hS hA f1 (fun j hj => ?_) hk2 hn2 d (fun q H1 hP1 hD1 hS1 => kk q H1 locs la hP1 hD1 hS1 hlh)
  simp [vp_V, List.getD, hj]
theorem n_new {hd : Nat × va_E} {idx ci N : Nat} {Cn : String} {T : u_T} {fs : List Value} {ty : Nat → FieldType} (C : nC Z cc own nm nL R0) (d : decode cc pc = .ok (.new idx, 3)) (hF : gF ci Cn T N) (hty : ∀ k, k < N → parseFieldDescriptor (T k).2.2.1 = some (ty k)) (hcl : Cond.classLink own idx Cn ∈ lw_g) (hin : Cond.instantiable Cn N ∈ lw_g) (hini : Cond.initialized Cn ∈ lw_g) (hfs : (List.range N).map (fun j => defaultValue (ty j)) = fs) (hk : k + 1 = k' ∧ k' ≤ R0.cells) (hn : n + N = n' ∧ n' ≤ R0.slots) (kk : ∀ q : Nat, NW Z (pc + 3) ls (.ref q :: st) (hd :: (tl ++ [(q, .inr (ci, fs))])) k' n') : NW Z pc ls st (hd :: tl) k n :=
  n_new0 C d hF hty hcl hin hini hfs hk hn kk
theorem n_pre {D : va_G} {cA : Nat → ClassId} {w0 wc w2 : va_W} {A : Nat → Prop} {s U : State} {H : Heap} {locs : List Loc} {av : List Value} (hK : va_K D vwCl (gT cA) s) (hP : va_P D vwCl (w0 ++ (wc ++ w2)) H) (hD : va_D A (w0 ++ (wc ++ w2))) (hS : va_S A s.heap H locs) (hA : ∀ q, s.heap.size ≤ q → A q) (hZ : gZ A s s.heap) (hN : gNw s) (hO : nAO s) (hU : U.heap = H) (hW : s.WarmedH U.vm) : va_Pc av (nP D cA wc H.size) av.toArray U :=
  ⟨rfl, by rw [hU], by rw [hU]; exact n_sub hP, va_K.moved hW.alike hK, (n_subD hD).weaken (fun _ _ _ _ => trivial), by rw [hU]; exact gZ.to hZ hW.alike hS.2.1 (n_Ain rfl hD hS hA), hN.warm hW, hO.warm hW⟩
/-- a constructor's call: of the new object alone -/
theorem n_callI {w0 : va_W} {e0 : va_E} {y : MethodName} {cy : ByteArray} {ny idx nn a mc ms : Nat} {Rc : Room} {As st0 : List Value} {post : va_W → Prop} (C : nC Z cc own nm nL R0) (hlen : ls.length = nL) (d : decode cc pc = .ok (.invokespecial idx, 3)) (hkk : gK own idx y cy ny none nn) (him : Cond.instanceMethod y ∈ lw_g) (hyn : y.name = "<init>") (hM : ∀ l, nM Z.1 Z.2.1 l y cy ny Rc (.ref a :: As) [(a, e0)] post mc ms) (hst : As.reverse ++ .ref a :: st = st0) (hna : As.length = nn) (hcat : (st.map fun v => v.category).sum ≤ 8) (hrc : Rc.cells = mc ∧ Rc.slots = ms) (hrm : Rc.frames + 1 ≤ R0.frames ∧ 8 + (ny + 11) + Rc.locals ≤ R0.locals) (hk : k + mc = k' ∧ k' ≤ R0.cells) (hn : n + ms = n' ∧ n' ≤ R0.slots) (kk : ∀ w1, post w1 → NW Z (pc + 3) ls st (w0 ++ w1) k' n') : NW Z pc ls st0 (w0 ++ [(a, e0)]) k n := by
  obtain ⟨D, cA, ⟨p, l, e, s, m, args, below, meth, c⟩, R, A, Q⟩ := Z
  obtain ⟨⟨hx, hb⟩, hnm, ⟨hml, hown⟩, hts, hK, hA, rfl, hZ, hN, hO⟩ := C
  intro H locs la hP hD hS hlh
  subst hst
  obtain ⟨rfl, hk2⟩ := hk
  obtain ⟨rfl, hn2⟩ := hn
  obtain ⟨k1, k2, k3, k4⟩ := hkk
  have hP' : va_P D vwCl (w0 ++ ([(a, e0)] ++ [])) H := hP
  have hD' : va_D A (w0 ++ ([(a, e0)] ++ [])) := hD
  have hFc := n_Ain (wc := [(a, e0)]) rfl hD' hS hA
  refine va_callv (va_runI (As := As) (rest := st) (Ts := lw_g) ⟨hx, hb, hml, hown, hts⟩ (hM l H.size) ⟨callB_of nn hts (lw_gg k1) rfl hrc.1 hrc.2 (hts _ k3) (hts _ k2) k4 hrm, hyn, hts _ him⟩ ⟨nP_blind, fun U hU hW => n_pre hK hP' hD' hS hA hZ hN hO hU hW⟩ rfl hna (hlh.1.trans hlen) rfl (lv_room hcat) d ⟨hk2, hn2⟩) hS (fun q _ h => hFc q h) hFc (fun u t H1 locs1 ht hvm hp hB hz1 hk1 hS1 => ?_)
  obtain ⟨hP1, hD1⟩ := hB
  rw [ht] at hP1
  obtain ⟨hP2, hD2⟩ := n_join hP' hD' hk1 hFc hP1 hD1
  rw [List.append_nil] at hP2 hD2
  exact kk u hp H1 locs1 la hP2 hD2 hS1 hlh
/-- the same, where the constructor is a private one of a nest mate -/
theorem n_callIN {w0 : va_W} {e0 : va_E} {y : MethodName} {cy : ByteArray} {ny idx nn a mc ms : Nat} {Rc : Room} {As st0 : List Value} {post : va_W → Prop} (C : nC Z cc own nm nL R0) (hlen : ls.length = nL) (d : decode cc pc = .ok (.invokespecial idx, 3)) (hq : (own, idx, y) ∈ nNL) (k1 : Cond.code y cy ny none ∈ lw_g) (k3 : Cond.initialized y.cls ∈ lw_g) (k4 : y.cls ≠ "java/lang/invoke/MethodHandle" ∧ y.cls ≠ "java/lang/invoke/VarHandle" ∧ (parseMethodDescriptor y.desc).map (fun d => d.parameters.length) = some nn) (him : Cond.instanceMethod y ∈ lw_g) (hyn : y.name = "<init>") (hM : ∀ l, nM Z.1 Z.2.1 l y cy ny Rc (.ref a :: As) [(a, e0)] post mc ms) (hst : As.reverse ++ .ref a :: st = st0) (hna : As.length = nn) (hcat : (st.map fun v => v.category).sum ≤ 8) (hrc : Rc.cells = mc ∧ Rc.slots = ms) (hrm : Rc.frames + 1 ≤ R0.frames ∧ 8 + (ny + 11) + Rc.locals ≤ R0.locals) (hk : k + mc = k' ∧ k' ≤ R0.cells) (hn : n + ms = n' ∧ n' ≤ R0.slots) (kk : ∀ w1, post w1 → NW Z (pc + 3) ls st (w0 ++ w1) k' n') : NW Z pc ls st0 (w0 ++ [(a, e0)]) k n := by
  obtain ⟨D, cA, ⟨p, l, e, s, m, args, below, meth, c⟩, R, A, Q⟩ := Z
  obtain ⟨⟨hx, hb⟩, hnm, ⟨hml, hown⟩, hts, hK, hA, rfl, hZ, hN, hO⟩ := C
  intro H locs la hP hD hS hlh
  subst hst
  obtain ⟨rfl, hk2⟩ := hk
  obtain ⟨rfl, hn2⟩ := hn
  have hP' : va_P D vwCl (w0 ++ ([(a, e0)] ++ [])) H := hP
  have hD' : va_D A (w0 ++ ([(a, e0)] ++ [])) := hD
  have hFc := n_Ain (wc := [(a, e0)]) rfl hD' hS hA
  refine va_callv (va_runIN (As := As) (rest := st) (Ts := lw_g) (host := "BootHall") (n := nn) ⟨hx, hb, hml, hown, hts⟩ (hM l H.size) ⟨va_cnB nn hts (lw_gg k1) rfl hrc.1 hrc.2 (hO.2.2 _ hq) (hts _ k3) k4 hrm, hyn, hts _ him⟩ ⟨nP_blind, fun U hU hW => n_pre hK hP' hD' hS hA hZ hN hO hU hW⟩ rfl hna (hlh.1.trans hlen) rfl (lv_room hcat) d ⟨hk2, hn2⟩) hS (fun q _ h => hFc q h) hFc (fun u t H1 locs1 ht hvm hp hB hz1 hk1 hS1 => ?_)
  obtain ⟨hP1, hD1⟩ := hB
  rw [ht] at hP1
  obtain ⟨hP2, hD2⟩ := n_join hP' hD' hk1 hFc hP1 hD1
  rw [List.append_nil] at hP2 hD2
  exact kk u hp H1 locs1 la hP2 hD2 hS1 hlh
/-- a static call that reads no cell -/
theorem n_callSl {y : MethodName} {cy : ByteArray} {ny idx nn : Nat} {rmc : Nat × Nat} {As st0 : List Value} {Pl : Int64 → gS → Prop} {G : gS} {Y : gY} (C : nC Z cc own nm nL R0) (hlen : ls.length = nL) (d : decode cc pc = .ok (.invokestatic idx, 3)) (hkk : gKS own idx y cy ny (some .long) nn) (hY : Y.1 = Z.1 ∧ Y.2.2.1 = Z.2.1 ∧ Y.2.2.2.1 = []) (hM : ∀ l, gM Y l y cy ny (some .long) rmc As G (ql Pl)) (hst : As.reverse ++ st = st0) (hna : As.length = nn) (hcat : (st.map fun v => v.category).sum ≤ 8) (hrm : rmc.1 + 1 ≤ R0.frames ∧ 8 + (ny + 11) + rmc.2 ≤ R0.locals) (hk2 : k ≤ R0.cells) (hn2 : n ≤ R0.slots) (kk : ∀ x G', Pl x G' → NW Z (pc + 3) ls (.long x :: st) ws k n) : NW Z pc ls st0 ws k n := by
  obtain ⟨D, cA, ⟨p, l, e, s, m, args, below, meth, c⟩, R, A, Q⟩ := Z
  obtain ⟨⟨hx, hb⟩, hnm, ⟨hml, hown⟩, hts, hK, hA, rfl, hZ, hN, hO⟩ := C
  obtain ⟨Y1, ad0, Y3, L0, sh0⟩ := Y
  obtain ⟨e1, e2, e3⟩ := hY
  dsimp only at e1 e2 e3
  subst e1
  subst e2
  subst e3
  intro H locs la hP hD hS hlh
  subst hst
  obtain ⟨⟨k1, k2, k3, k4⟩, k5⟩ := hkk
  have hAin : ∀ q, va_A (gw (Y1, ad0, Y3, [], sh0) G) H.size q → A q := by
    intro q h
    rcases h with ⟨k, e, h⟩ | h
    · cases h
    · exact hA q (Nat.le_trans hS.1 h)
  intro T hT X
  obtain ⟨v, st₀, t, T', L, h0, X', hL, e1, e2, ⟨⟨v', G', hv, hp, hb2⟩, hz, hkp⟩, stp⟩ := (va_runS (As := As) (rest := st) (Ts := lw_g) ⟨hx, hb, hml, hown, hts⟩ (hM l H.size) ⟨callB_of nn hts (lw_gg k1) rfl rfl rfl (hts _ k3) (hts _ k2) k4 hrm, hts _ k5⟩ ⟨gP_blind, fun U hU hW => ⟨rfl, by rw [hU], fun k q h => (by cases h), va_K.moved hW.alike hK, ⟨fun i j p q h => (by cases h), fun k q h => (by cases h)⟩, by rw [hU]; exact gZ.to hZ hW.alike hS.2.1 hAin, hN.warm hW⟩⟩ rfl hna (hlh.1.trans hlen) rfl (lv_room hcat) d ⟨hk2, hn2⟩) T hT X
  cases hv
  rw [h0] at hz hkp
  obtain ⟨xr, rfl, hp⟩ := hp
  have hnew : ∀ q : Nat, q < H.size → ¬ va_A (gw (Y1, ad0, Y3, [], sh0) G) H.size q := by
    intro q hq h
    rcases h with ⟨k, e, h⟩ | h
    · cases h
    · omega
  obtain ⟨t2, a1, b1⟩ := kk xr G' hp T'.heap (locs ++ L) la (hP.kept (fun k q hq => by rw [e1]; exact hkp q.1 (hP k q hq).lt (hnew _ (hP k q hq).lt))) hD
    ⟨Nat.le_trans hS.1 (by rw [e1]; exact hz), fun q h1 h2 => by rw [e1, hkp q (Nat.lt_of_lt_of_le h1 hS.1) (hnew _ (Nat.lt_of_lt_of_le h1 hS.1))]; exact hS.2.1 q h1 h2, fun q hq => by
      rcases List.mem_append.mp hq with h | h
      · exact hS.2.2 q h
      · exact hAin _ (hL q h)⟩ hlh T' rfl X'
  exact ⟨t2, stp t2 a1, b1⟩
theorem n_last {a N : Nat} {f : Nat → Int64} {x : Int32} {v : Int64} (q0 j : Nat) (C : nC Z cc own nm nL R0) (d : decode cc pc = .ok (.lastore, 1)) (he : ws[q0]? = some (a, .inl (Z.2.1 3, N, .inr (.inl f)))) (hN : N < 2 ^ 31) (hx : x = nI j) (hj : j < N) (kk : NW Z (pc + 1) ls st (ws.set q0 (a, .inl (Z.2.1 3, N, .inr (.inl (vp_updL f j v))))) k n) : NW Z pc ls (.long v :: .int x :: .ref a :: st) ws k n := by
  obtain ⟨D, cA, ⟨p, l, e, s, m, args, below, meth, c⟩, R, A, Q⟩ := Z
  obtain ⟨⟨hx', hb⟩, hnm, ⟨hml, hown⟩, hts, hK, hA, rfl, -⟩ := C
  intro H locs la hP hD hS hlh
  subst hx
  refine va_last hx' hb hK hP hD hS q0 3 he rfl (vp_in_nI hj hN) d (fun H1 locs1 hP1 hD1 hS1 => kk H1 locs1 la ?_ ?_ hS1 hlh)
  · rw [nI_clamp (by omega)] at hP1; exact hP1
  · rw [nI_clamp (by omega)] at hD1; exact hD1
theorem n_aast {a t N ci Nc v : Nat} {Cn : String} {T : u_T} {f : Nat → Option Nat} {vs : List Value} {x : Int32} (q0 qk j : Nat) (C : nC Z cc own nm nL R0) (d : decode cc pc = .ok (.aastore, 1)) (he : ws[q0]? = some (a, .inl (Z.2.1 t, N, .inr (.inr (.inr (.inr f)))))) (ht : ∀ cA, (gT cA)[t]? = some (cA t, .object Cn)) (hv : ws[qk]? = some (v, .inr (ci, vs))) (hF : gF ci Cn T Nc) (hN : N < 2 ^ 31) (hx : x = nI j) (hj : j < N) (kk : NW Z (pc + 1) ls st (ws.set q0 (a, .inl (Z.2.1 t, N, .inr (.inr (.inr (.inr (va_up f j (some v)))))))) k n) : NW Z pc ls (.ref v :: .int x :: .ref a :: st) ws k n := by
  obtain ⟨D, cA, ⟨p, l, e, s, m, args, below, meth, c⟩, R, A, Q⟩ := Z
  obtain ⟨⟨hx', hb⟩, hnm, ⟨hml, hown⟩, hts, hK, hA, rfl, -⟩ := C
  intro H locs la hP hD hS hlh
  subst hx
  refine va_astq hx' hb hK hP hD hS q0 t qk ci he (ht cA) hv hF.1 (vp_in_nI hj hN) d (fun H1 locs1 hP1 hD1 hS1 => kk H1 locs1 la ?_ ?_ hS1 hlh)
  · rw [nI_clamp (by omega)] at hP1; exact hP1
  · rw [nI_clamp (by omega)] at hD1; exact hD1
theorem n_return {post : va_W → Prop} {mc ms : Nat} (C : nC Z cc own nm nL R0) (E : nE Z post mc ms) (d : decode cc pc = .ok (.return_, 1)) (h : post ws) : NW Z pc ls [] ws mc ms := by
  obtain ⟨D, cA, ⟨p, l, e, s, m, args, below, meth, c⟩, R, A, Q⟩ := Z
  obtain ⟨⟨hx', hb⟩, hnm, ⟨hml, hown⟩, hts, hK, hA, rfl, -⟩ := C
  obtain ⟨rfl, hr, hlocks⟩ := E
  intro H locs la hP hD hS hlh
  exact W.vret hx' hb hr (fun t ht hW => ⟨⟨ws, rfl, h, by rw [ht]; exact hP, hD⟩, hS.F ht⟩) hS.2.2 d
end R
