/-! rows over the heap: fields, arrays, static rows, calls, returns -/
theorem gv_i {ad : Nat → Nat} {G : gS} {r k x : Nat} : gv ad G r k (0, x) = .int (G.1 r k) := rfl
theorem gv_f {ad : Nat → Nat} {G : gS} {r k x : Nat} : gv ad G r k (1, x) = .ref (ad x) := rfl
theorem gv_d {ad : Nat → Nat} {G : gS} {r k x : Nat} : gv ad G r k (2, x) = .ref (ad (G.2.2 r k)) := rfl
/-- class ci of the tables: its name and fields, and that their words are there -/
def gF (ci : Nat) (Cn : String) (T : u_T) (N : Nat) : Prop := vwCl[ci]? = some (Cn, T, N) ∧ (∀ x ∈ u_ws Cn T N, x ∈ lw_g) ∧ (∀ a, a < N → ∀ b, b < N → a ≠ b → (T a).2.1 ≠ (T b).2.1) ∧ ∃ ty0 : Nat → FieldType, ∀ k, k < N → parseFieldDescriptor (T k).2.2.1 = some (ty0 k)
/-- role r is an object of class ci -/
def gJ (w : gU) (r ci N : Nat) (fs : Nat → Nat × Nat) : Prop := r ∈ w.1 ∧ w.2 r = (0, ci, N, fs)
/-- role r is an array: kind 1 ints (bytes, booleans), 2 longs, 3 references; t its place in gT; n its length -/
def gA (w : gU) (r kd t n : Nat) (fs : Nat → Nat × Nat) : Prop := r ∈ w.1 ∧ w.2 r = (kd, t, n, fs) ∧ n < 2 ^ 31
theorem gJ.e {Y : gY} {w : gU} {G : gS} {r ci N : Nat} {fs : Nat → Nat × Nat} (hw : Y.2.2.2 = w) (h : gJ w r ci N fs) : ∃ q : Nat, Y.2.2.2.1[q]? = some r ∧ (gw Y G)[q]? = some (Y.2.1 r, .inr (ci, (List.range N).map (fun k => gv Y.2.1 G r k (fs k)))) := by
  subst hw
  obtain ⟨q, hq⟩ := gw_ix h.1
  refine ⟨q, hq, ?_⟩
  rw [gw_at hq, h.2]
  rfl
theorem gA.e1 {Y : gY} {w : gU} {G : gS} {r t n : Nat} {fs : Nat → Nat × Nat} (hw : Y.2.2.2 = w) (h : gA w r 1 t n fs) : ∃ q : Nat, Y.2.2.2.1[q]? = some r ∧ (gw Y G)[q]? = some (Y.2.1 r, .inl (Y.2.2.1 t, n, .inl (G.1 r))) := by
  subst hw
  obtain ⟨q, hq⟩ := gw_ix h.1
  refine ⟨q, hq, ?_⟩
  rw [gw_at hq, h.2.1]
  rfl
theorem gA.e2 {Y : gY} {w : gU} {G : gS} {r t n : Nat} {fs : Nat → Nat × Nat} (hw : Y.2.2.2 = w) (h : gA w r 2 t n fs) : ∃ q : Nat, Y.2.2.2.1[q]? = some r ∧ (gw Y G)[q]? = some (Y.2.1 r, .inl (Y.2.2.1 t, n, .inr (.inl (G.2.1 r)))) := by
  subst hw
  obtain ⟨q, hq⟩ := gw_ix h.1
  refine ⟨q, hq, ?_⟩
  rw [gw_at hq, h.2.1]
  rfl
theorem gA.e3 {Y : gY} {w : gU} {G : gS} {r t n : Nat} {fs : Nat → Nat × Nat} (hw : Y.2.2.2 = w) (h : gA w r 3 t n fs) : ∃ q : Nat, Y.2.2.2.1[q]? = some r ∧ (gw Y G)[q]? = some (Y.2.1 r, .inl (Y.2.2.1 t, n, .inr (.inr (.inr (.inr (gq Y.2.1 G r fs)))))) := by
  subst hw
  obtain ⟨q, hq⟩ := gw_ix h.1
  refine ⟨q, hq, ?_⟩
  rw [gw_at hq, h.2.1]
  rfl
theorem g_fs {ad : Nat → Nat} {G G' : gS} {r k N : Nat} {v : Value} {fs : Nat → Nat × Nat} (hv : gv ad G' r k (fs k) = v) (ho : ∀ j, j ≠ k → gv ad G' r j (fs j) = gv ad G r j (fs j)) : (List.range N).map (fun k => gv ad G' r k (fs k)) = ((List.range N).map (fun k => gv ad G r k (fs k))).set k v := by
  apply List.ext_getElem?
  intro i
  rw [List.getElem?_set, List.getElem?_map, List.getElem?_map]
  by_cases hk : k = i
  · subst hk
    rw [if_pos rfl]
    by_cases hl : k < N
    · rw [if_pos (by simpa using hl), List.getElem?_range hl]; simp [hv]
    · rw [if_neg (by simpa using hl), List.getElem?_eq_none (by simpa using hl)]; rfl
  · rw [if_neg hk]
    by_cases hl : i < N
    · rw [List.getElem?_range hl]; simp [ho i (fun e => hk e.symm)]
    · rw [List.getElem?_eq_none (by simpa using hl)]; rfl
theorem upd_o {f : Nat → Int32} {k j : Nat} {v : Int32} (h : j ≠ k) : upd f k v j = f j := if_neg h
theorem upd_s {f : Nat → Int32} {k : Nat} {v : Int32} : upd f k v k = v := if_pos rfl
section R
variable {Z : gO} {w : gU} {cc : ByteArray} {own : String} {ret : Option FieldType} {nL : Nat} {rm : Nat × Nat} {post : Option Value → gS → Prop} {pc : Nat} {ls : List (Option Value)} {st : List Value} {G : gS}
theorem r_get {r ci idx N k : Nat} {Cn : String} {T : u_T} {fs : Nat → Nat × Nat} {v : Value} (C : gC Z w cc own ret nL rm) (d : decode cc pc = .ok (.getfield idx, 3)) (hF : gF ci Cn T N) (hJ : gJ w r ci N fs) (hk : k < N) (hl : Cond.fieldLink own idx (T k).1 (T k).2.1 (T k).2.2.1 ∈ lw_g) (hv : gv (ad Z) G r k (fs k) = v) (kk : WW Z post (pc + 3) ls (v :: st) G) : WW Z post pc ls (.ref (ad Z r) :: st) G := by
  obtain ⟨Y, ⟨p, l, e, s, m, args, below, meth, c⟩, rm0, A⟩ := Z
  obtain ⟨⟨hx, hb⟩, hrr, ⟨hml, hown⟩, hts, hK, hD, hA, hw, hrm, hZ, hN⟩ := C
  intro H locs la hP hS hlh
  obtain ⟨q, hq, he⟩ := gJ.e (G := G) hw hJ
  refine va_get hx hb hts hF.2.1 hown hK hP q he hF.1 k hk (hts _ hl) (fun _ h => h) ?_ d (kk H locs la hP hS hlh)
  rw [List.getElem?_map, List.getElem?_range hk]
  exact congrArg some hv
theorem r_put {r ci idx N k : Nat} {Cn : String} {T : u_T} {fs : Nat → Nat × Nat} {x : Int32} {ty : FieldType} (C : gC Z w cc own ret nL rm) (d : decode cc pc = .ok (.putfield idx, 3)) (hF : gF ci Cn T N) (hJ : gJ w r ci N fs) (hk : k < N) (hl : Cond.fieldLink own idx (T k).1 (T k).2.1 (T k).2.2.1 ∈ lw_g) (hfin : (T k).2.2.2 = false) (hd : parseFieldDescriptor (T k).2.2.1 = some ty) (hf : (fs k).1 = 0) (hn : narrow ty (.int x) = .int x) (hfit : fits ty (.int x) = true) (kk : WW Z post (pc + 3) ls st (sI G r k x)) : WW Z post pc ls (.int x :: .ref (ad Z r) :: st) G := by
  obtain ⟨Y, ⟨p, l, e, s, m, args, below, meth, c⟩, rm0, A⟩ := Z
  obtain ⟨⟨hx, hb⟩, hrr, ⟨hml, hown⟩, hts, hK, hD, hA, hw, hrm, hZ, hN⟩ := C
  intro H locs la hP hS hlh
  obtain ⟨q, hq, he⟩ := gJ.e (G := G) hw hJ
  obtain ⟨hc, hin, hnm, ty0, hty⟩ := hF
  refine va_put hx hb hts hin ty0 hty hnm hown hK hP (hD G) hS q he hc k hk (hts _ hl) (fun _ h => h) hfin hd hn hfit (by simpa using hk) d (fun H1 locs1 hP1 _ hS1 => ?_)
  refine kk H1 locs1 la ?_ hS1 hlh
  have e1 : (gw Y G).set q (Y.2.1 r, .inr (ci, ((List.range N).map (fun k => gv Y.2.1 G r k (fs k))).set k (.int x))) = gw Y (sI G r k x) := by
    refine gw_set (hD G) hq ?_ (fun r' hr' => gc_sI hr')
    have h2 : Y.2.2.2.2 r = (0, ci, N, fs) := by rw [hw]; exact hJ.2
    rw [h2]
    show Sum.inr (ci, (List.range N).map (fun k' => gv Y.2.1 (sI G r k x) r k' (fs k'))) = _
    rw [g_fs (G := G) (k := k) (v := .int x)]
    · rw [gv, if_pos hf, sI_s, upd_s]
    · intro j hj
      simp only [gv, sI_s, upd_o hj]; rfl
  rw [e1] at hP1
  exact hP1
theorem r_putR {r ci idx N k x : Nat} {Cn : String} {T : u_T} {fs : Nat → Nat × Nat} {ty : FieldType} (C : gC Z w cc own ret nL rm) (d : decode cc pc = .ok (.putfield idx, 3)) (hF : gF ci Cn T N) (hJ : gJ w r ci N fs) (hk : k < N) (hl : Cond.fieldLink own idx (T k).1 (T k).2.1 (T k).2.2.1 ∈ lw_g) (hfin : (T k).2.2.2 = false) (hd : parseFieldDescriptor (T k).2.2.1 = some ty) (hf : (fs k).1 = 2) (hn : ∀ a, narrow ty (.ref a) = .ref a) (hfit : ∀ a, fits ty (.ref a) = true) (kk : WW Z post (pc + 3) ls st (sR G r k x)) : WW Z post pc ls (.ref (ad Z x) :: .ref (ad Z r) :: st) G := by
  obtain ⟨Y, ⟨p, l, e, s, m, args, below, meth, c⟩, rm0, A⟩ := Z
  obtain ⟨⟨hx, hb⟩, hrr, ⟨hml, hown⟩, hts, hK, hD, hA, hw, hrm, hZ, hN⟩ := C
  intro H locs la hP hS hlh
  obtain ⟨q, hq, he⟩ := gJ.e (G := G) hw hJ
  obtain ⟨hc, hin, hnm, ty0, hty⟩ := hF
  refine va_put hx hb hts hin ty0 hty hnm hown hK hP (hD G) hS q he hc k hk (hts _ hl) (fun _ h => h) hfin hd (hn _) (hfit _) (by simpa using hk) d (fun H1 locs1 hP1 _ hS1 => ?_)
  refine kk H1 locs1 la ?_ hS1 hlh
  have e1 : (gw Y G).set q (Y.2.1 r, .inr (ci, ((List.range N).map (fun k => gv Y.2.1 G r k (fs k))).set k (.ref (Y.2.1 x)))) = gw Y (sR G r k x) := by
    refine gw_set (hD G) hq ?_ (fun r' hr' => gc_sR hr')
    have h2 : Y.2.2.2.2 r = (0, ci, N, fs) := by rw [hw]; exact hJ.2
    rw [h2]
    show Sum.inr (ci, (List.range N).map (fun k' => gv Y.2.1 (sR G r k x) r k' (fs k'))) = _
    rw [g_fs (G := G) (k := k) (v := .ref (Y.2.1 x))]
    · rw [gv, if_neg (by rw [hf]; decide), if_neg (by rw [hf]; decide), sR_s, va_up, if_pos rfl]
    · intro j hj
      simp only [gv, sR_s, va_up, if_neg hj]; rfl
  rw [e1] at hP1
  exact hP1
theorem r_iald {r n : Nat} {fs : Nat → Nat × Nat} {x : Int32} (j : Nat) (C : gC Z w cc own ret nL rm) (d : decode cc pc = .ok (.iaload, 1)) (hJ : gA w r 1 0 n fs) (hx : x = nI j) (hj : j < n) (kk : WW Z post (pc + 1) ls (.int (G.1 r j) :: st) G) : WW Z post pc ls (.int x :: .ref (ad Z r) :: st) G := by
  obtain ⟨Y, ⟨p, l, e, s, m, args, below, meth, c⟩, rm0, A⟩ := Z
  obtain ⟨⟨hx', hb⟩, hrr, ⟨hml, hown⟩, hts, hK, hD, hA, hw, hrm, hZ, hN⟩ := C
  intro H locs la hP hS hlh
  obtain ⟨q, hq, he⟩ := gA.e1 (G := G) hw hJ
  have hn := hJ.2.2
  subst hx
  refine va_iald hx' hb hK hP q 0 he rfl (vp_in_nI hj hn) d ?_
  rw [nI_clamp (by omega)]
  exact kk H locs la hP hS hlh
theorem r_zald {r n : Nat} {fs : Nat → Nat × Nat} {x : Int32} (j : Nat) (C : gC Z w cc own ret nL rm) (d : decode cc pc = .ok (.baload, 1)) (hJ : gA w r 1 1 n fs) (hx : x = nI j) (hj : j < n) (kk : WW Z post (pc + 1) ls (.int (G.1 r j) :: st) G) : WW Z post pc ls (.int x :: .ref (ad Z r) :: st) G := by
  obtain ⟨Y, ⟨p, l, e, s, m, args, below, meth, c⟩, rm0, A⟩ := Z
  obtain ⟨⟨hx', hb⟩, hrr, ⟨hml, hown⟩, hts, hK, hD, hA, hw, hrm, hZ, hN⟩ := C
  intro H locs la hP hS hlh
  obtain ⟨q, hq, he⟩ := gA.e1 (G := G) hw hJ
  have hn := hJ.2.2
  subst hx
  refine va_zald hx' hb hK hP q 1 he rfl (vp_in_nI hj hn) d ?_
  rw [nI_clamp (by omega)]
  exact kk H locs la hP hS hlh
theorem r_bald {r n : Nat} {fs : Nat → Nat × Nat} {x : Int32} (j : Nat) (C : gC Z w cc own ret nL rm) (d : decode cc pc = .ok (.baload, 1)) (hJ : gA w r 1 2 n fs) (hx : x = nI j) (hj : j < n) (kk : WW Z post (pc + 1) ls (.int (G.1 r j) :: st) G) : WW Z post pc ls (.int x :: .ref (ad Z r) :: st) G := by
  obtain ⟨Y, ⟨p, l, e, s, m, args, below, meth, c⟩, rm0, A⟩ := Z
  obtain ⟨⟨hx', hb⟩, hrr, ⟨hml, hown⟩, hts, hK, hD, hA, hw, hrm, hZ, hN⟩ := C
  intro H locs la hP hS hlh
  obtain ⟨q, hq, he⟩ := gA.e1 (G := G) hw hJ
  have hn := hJ.2.2
  subst hx
  refine va_bald hx' hb hK hP q 2 he rfl (vp_in_nI hj hn) d ?_
  rw [nI_clamp (by omega)]
  exact kk H locs la hP hS hlh
theorem r_lald {r n : Nat} {fs : Nat → Nat × Nat} {x : Int32} (j : Nat) (C : gC Z w cc own ret nL rm) (d : decode cc pc = .ok (.laload, 1)) (hJ : gA w r 2 3 n fs) (hx : x = nI j) (hj : j < n) (kk : WW Z post (pc + 1) ls (.long (G.2.1 r j) :: st) G) : WW Z post pc ls (.int x :: .ref (ad Z r) :: st) G := by
  obtain ⟨Y, ⟨p, l, e, s, m, args, below, meth, c⟩, rm0, A⟩ := Z
  obtain ⟨⟨hx', hb⟩, hrr, ⟨hml, hown⟩, hts, hK, hD, hA, hw, hrm, hZ, hN⟩ := C
  intro H locs la hP hS hlh
  obtain ⟨q, hq, he⟩ := gA.e2 (G := G) hw hJ
  have hn := hJ.2.2
  subst hx
  refine va_lald hx' hb hK hP q 3 he rfl (vp_in_nI hj hn) d ?_
  rw [nI_clamp (by omega)]
  exact kk H locs la hP hS hlh
/-- an element of a row of references: kind f of the element (1 fixed, 2 as the heap has it) -/
theorem r_aald {r n t a : Nat} {Cn : String} {fs : Nat → Nat × Nat} {x : Int32} (j : Nat) (C : gC Z w cc own ret nL rm) (d : decode cc pc = .ok (.aaload, 1)) (hJ : gA w r 3 t n fs) (ht : ∀ cA, (gT cA)[t]? = some (cA t, .object Cn)) (hx : x = nI j) (hj : j < n) (ha : (if (fs j).1 = 1 then (fs j).2 else G.2.2 r j) = a) (kk : WW Z post (pc + 1) ls (.ref (ad Z a) :: st) G) : WW Z post pc ls (.int x :: .ref (ad Z r) :: st) G := by
  obtain ⟨Y, ⟨p, l, e, s, m, args, below, meth, c⟩, rm0, A⟩ := Z
  obtain ⟨⟨hx', hb⟩, hrr, ⟨hml, hown⟩, hts, hK, hD, hA, hw, hrm, hZ, hN⟩ := C
  intro H locs la hP hS hlh
  obtain ⟨q, hq, he⟩ := gA.e3 (G := G) hw hJ
  have hn := hJ.2.2
  subst hx
  refine va_aldq hx' hb hK hP q t he (ht _) (vp_in_nI hj hn) d ?_
  rw [nI_clamp (by omega), gq, ha]
  exact kk H locs la hP hS hlh
theorem r_iast {r n : Nat} {fs : Nat → Nat × Nat} {x v : Int32} (j : Nat) (C : gC Z w cc own ret nL rm) (d : decode cc pc = .ok (.iastore, 1)) (hJ : gA w r 1 0 n fs) (hx : x = nI j) (hj : j < n) (kk : WW Z post (pc + 1) ls st (sI G r j v)) : WW Z post pc ls (.int v :: .int x :: .ref (ad Z r) :: st) G := by
  obtain ⟨Y, ⟨p, l, e, s, m, args, below, meth, c⟩, rm0, A⟩ := Z
  obtain ⟨⟨hx', hb⟩, hrr, ⟨hml, hown⟩, hts, hK, hD, hA, hw, hrm, hZ, hN⟩ := C
  intro H locs la hP hS hlh
  obtain ⟨q, hq, he⟩ := gA.e1 (G := G) hw hJ
  have hn := hJ.2.2
  subst hx
  refine va_iast hx' hb hK hP (hD G) hS q 0 he rfl (vp_in_nI hj hn) d (fun H1 locs1 hP1 _ hS1 => kk H1 locs1 la ?_ hS1 hlh)
  rw [nI_clamp (by omega)] at hP1
  rw [← gw_set (G' := sI G r j v) (hD G) hq (e := .inl (Y.2.2.1 0, n, .inl (upd (G.1 r) j v))) ?_ (fun r' hr' => gc_sI hr')]
  · exact hP1
  · have h2 : Y.2.2.2.2 r = (1, 0, n, fs) := by rw [hw]; exact hJ.2.1
    rw [h2]
    show Sum.inl (Y.2.2.1 0, n, Sum.inl ((sI G r j v).1 r)) = _
    rw [sI_s]
theorem r_zast {r n : Nat} {fs : Nat → Nat × Nat} {x v v' : Int32} (j : Nat) (C : gC Z w cc own ret nL rm) (d : decode cc pc = .ok (.bastore, 1)) (hJ : gA w r 1 1 n fs) (hx : x = nI j) (hj : j < n) (hv : vp_nar .boolean v = v') (kk : WW Z post (pc + 1) ls st (sI G r j v')) : WW Z post pc ls (.int v :: .int x :: .ref (ad Z r) :: st) G := by
  obtain ⟨Y, ⟨p, l, e, s, m, args, below, meth, c⟩, rm0, A⟩ := Z
  obtain ⟨⟨hx', hb⟩, hrr, ⟨hml, hown⟩, hts, hK, hD, hA, hw, hrm, hZ, hN⟩ := C
  intro H locs la hP hS hlh
  obtain ⟨q, hq, he⟩ := gA.e1 (G := G) hw hJ
  have hn := hJ.2.2
  subst hx
  refine va_zast hx' hb hK hP (hD G) hS q 1 he rfl (vp_in_nI hj hn) d (fun H1 locs1 hP1 _ hS1 => kk H1 locs1 la ?_ hS1 hlh)
  rw [nI_clamp (by omega), hv] at hP1
  rw [← gw_set (G' := sI G r j v') (hD G) hq (e := .inl (Y.2.2.1 1, n, .inl (upd (G.1 r) j v'))) ?_ (fun r' hr' => gc_sI hr')]
  · exact hP1
  · have h2 : Y.2.2.2.2 r = (1, 1, n, fs) := by rw [hw]; exact hJ.2.1
    rw [h2]
    show Sum.inl (Y.2.2.1 1, n, Sum.inl ((sI G r j v').1 r)) = _
    rw [sI_s]
theorem r_bast {r n : Nat} {fs : Nat → Nat × Nat} {x v v' : Int32} (j : Nat) (C : gC Z w cc own ret nL rm) (d : decode cc pc = .ok (.bastore, 1)) (hJ : gA w r 1 2 n fs) (hx : x = nI j) (hj : j < n) (hv : vp_nar .byte v = v') (kk : WW Z post (pc + 1) ls st (sI G r j v')) : WW Z post pc ls (.int v :: .int x :: .ref (ad Z r) :: st) G := by
  obtain ⟨Y, ⟨p, l, e, s, m, args, below, meth, c⟩, rm0, A⟩ := Z
  obtain ⟨⟨hx', hb⟩, hrr, ⟨hml, hown⟩, hts, hK, hD, hA, hw, hrm, hZ, hN⟩ := C
  intro H locs la hP hS hlh
  obtain ⟨q, hq, he⟩ := gA.e1 (G := G) hw hJ
  have hn := hJ.2.2
  subst hx
  refine va_bast hx' hb hK hP (hD G) hS q 2 he rfl (vp_in_nI hj hn) d (fun H1 locs1 hP1 _ hS1 => kk H1 locs1 la ?_ hS1 hlh)
  rw [nI_clamp (by omega), hv] at hP1
  rw [← gw_set (G' := sI G r j v') (hD G) hq (e := .inl (Y.2.2.1 2, n, .inl (upd (G.1 r) j v'))) ?_ (fun r' hr' => gc_sI hr')]
  · exact hP1
  · have h2 : Y.2.2.2.2 r = (1, 2, n, fs) := by rw [hw]; exact hJ.2.1
    rw [h2]
    show Sum.inl (Y.2.2.1 2, n, Sum.inl ((sI G r j v').1 r)) = _
    rw [sI_s]
theorem r_last {r n : Nat} {fs : Nat → Nat × Nat} {x : Int32} {v : Int64} (j : Nat) (C : gC Z w cc own ret nL rm) (d : decode cc pc = .ok (.lastore, 1)) (hJ : gA w r 2 3 n fs) (hx : x = nI j) (hj : j < n) (kk : WW Z post (pc + 1) ls st (sL G r j v)) : WW Z post pc ls (.long v :: .int x :: .ref (ad Z r) :: st) G := by
  obtain ⟨Y, ⟨p, l, e, s, m, args, below, meth, c⟩, rm0, A⟩ := Z
  obtain ⟨⟨hx', hb⟩, hrr, ⟨hml, hown⟩, hts, hK, hD, hA, hw, hrm, hZ, hN⟩ := C
  intro H locs la hP hS hlh
  obtain ⟨q, hq, he⟩ := gA.e2 (G := G) hw hJ
  have hn := hJ.2.2
  subst hx
  refine va_last hx' hb hK hP (hD G) hS q 3 he rfl (vp_in_nI hj hn) d (fun H1 locs1 hP1 _ hS1 => kk H1 locs1 la ?_ hS1 hlh)
  rw [nI_clamp (by omega)] at hP1
  rw [← gw_set (G' := sL G r j v) (hD G) hq (e := .inl (Y.2.2.1 3, n, .inr (.inl (vp_updL (G.2.1 r) j v)))) ?_ (fun r' hr' => gc_sL hr')]
  · exact hP1
  · have h2 : Y.2.2.2.2 r = (2, 3, n, fs) := by rw [hw]; exact hJ.2.1
    rw [h2]
    show Sum.inl (Y.2.2.1 3, n, Sum.inr (Sum.inl ((sL G r j v).2.1 r))) = _
    rw [sL_s]
/-- a store into a row of references whose elements are as the heap has them -/
theorem r_aast {r n t a ci N : Nat} {Cn : String} {T : u_T} {fs fa : Nat → Nat × Nat} {x : Int32} (j : Nat) (C : gC Z w cc own ret nL rm) (d : decode cc pc = .ok (.aastore, 1)) (hJ : gA w r 3 t n fs) (hdy : ∀ k, (fs k).1 = 2) (ht : ∀ cA, (gT cA)[t]? = some (cA t, .object Cn)) (hF : gF ci Cn T N) (hO : gJ w a ci N fa) (hx : x = nI j) (hj : j < n) (kk : WW Z post (pc + 1) ls st (sR G r j a)) : WW Z post pc ls (.ref (ad Z a) :: .int x :: .ref (ad Z r) :: st) G := by
  obtain ⟨Y, ⟨p, l, e, s, m, args, below, meth, c⟩, rm0, A⟩ := Z
  obtain ⟨⟨hx', hb⟩, hrr, ⟨hml, hown⟩, hts, hK, hD, hA, hw, hrm, hZ, hN⟩ := C
  intro H locs la hP hS hlh
  obtain ⟨q, hq, he⟩ := gA.e3 (G := G) hw hJ
  obtain ⟨qa, hqa, hea⟩ := gJ.e (G := G) hw hO
  have hn := hJ.2.2
  subst hx
  refine va_astq (r := (Cn, T, N)) hx' hb hK hP (hD G) hS q t qa ci he (ht _) hea hF.1 (vp_in_nI hj hn) d (fun H1 locs1 hP1 _ hS1 => kk H1 locs1 la ?_ hS1 hlh)
  rw [nI_clamp (by omega)] at hP1
  rw [← gw_set (G' := sR G r j a) (hD G) hq (e := .inl (Y.2.2.1 t, n, .inr (.inr (.inr (.inr (va_up (gq Y.2.1 G r fs) j (some (Y.2.1 a)))))))) ?_ (fun r' hr' => gc_sR hr')]
  · exact hP1
  · have h2 : Y.2.2.2.2 r = (3, t, n, fs) := by rw [hw]; exact hJ.2.1
    rw [h2]
    show Sum.inl (Y.2.2.1 t, n, Sum.inr (Sum.inr (Sum.inr (Sum.inr (gq Y.2.1 (sR G r j a) r fs))))) = _
    have h3 : gq Y.2.1 (sR G r j a) r fs = va_up (gq Y.2.1 G r fs) j (some (Y.2.1 a)) := by
      funext k
      simp only [gq, va_up, sR_s, hdy k]
      by_cases hk : k = j
      · simp [hk]
      · simp [hk]
    rw [h3]
theorem r_alen {r t n : Nat} {fs : Nat → Nat × Nat} {ty : FieldType} (C : gC Z w cc own ret nL rm) (d : decode cc pc = .ok (.arraylength, 1)) (hJ : gA w r 1 t n fs) (ht : ∀ cA, (gT cA)[t]? = some (cA t, ty)) (kk : WW Z post (pc + 1) ls (.int (nI n) :: st) G) : WW Z post pc ls (.ref (ad Z r) :: st) G := by
  obtain ⟨Y, ⟨p, l, e, s, m, args, below, meth, c⟩, rm0, A⟩ := Z
  obtain ⟨⟨hx', hb⟩, hrr, ⟨hml, hown⟩, hts, hK, hD, hA, hw, hrm, hZ, hN⟩ := C
  intro H locs la hP hS hlh
  obtain ⟨q, hq, he⟩ := gA.e1 (G := G) hw hJ
  exact va_alen hx' hb hK hP q t he (ht _) rfl d (kk H locs la hP hS hlh)
/-! static rows -/
def gTi (Z : gO) (f : List Int32) (t : Nat) : Prop := va_T .int t f.length (fun j => .int (f.getD j 0)) Z.2.2.2 Z.2.1.2.2.2.1 Z.2.1.2.2.2.1.heap
def gTl (Z : gO) (f : List Int64) (t : Nat) : Prop := va_T .long t f.length (fun j => .long (f.getD j 0)) Z.2.2.2 Z.2.1.2.2.2.1 Z.2.1.2.2.2.1.heap
theorem r_stI {idx : Nat} {n : String} (f : List Int32) (C : gC Z w cc own ret nL rm) (d : decode cc pc = .ok (.getstatic idx, 3)) (hq : (own, idx, n, "[I") ∈ gNF) (hn : n = "WORD_SORTS" ∧ f = tWs ∨ n = "WORD_VALUES" ∧ f = tWv ∨ n = "OPERATOR_RANKS" ∧ f = tOr ∨ n = "SHIFTS" ∧ f = tSh) (kk : ∀ t, gTi Z f t → WW Z post (pc + 3) ls (.ref t :: st) G) : WW Z post pc ls st G := by
  obtain ⟨Y, ⟨p, l, e, s, m, args, below, meth, c⟩, rm0, A⟩ := Z
  obtain ⟨⟨hx', hb⟩, hrr, ⟨hml, hown⟩, hts, hK, hD, hA, hw, hrm, hZ, hN⟩ := C
  intro H locs la hP hS hlh
  have hz : gZi n f A s s.heap := by
    rcases hn with ⟨rfl, rfl⟩ | ⟨rfl, rfl⟩ | ⟨rfl, rfl⟩ | ⟨rfl, rfl⟩
    · exact hZ.2.1
    · exact hZ.2.2.1
    · exact hZ.2.2.2.1
    · exact hZ.2.2.2.2
  obtain ⟨t, h1, h2⟩ := hz
  exact va_getsN hx' hb h1 hS hown ((hN.1 _ hq).use rfl) (fun _ h => h) d (kk t h2 H locs la hP hS hlh)
theorem r_stL {idx : Nat} (C : gC Z w cc own ret nL rm) (d : decode cc pc = .ok (.getstatic idx, 3)) (hq : (own, idx, "WORDS", "[J") ∈ gNF) (kk : ∀ t, gTl Z tWd t → WW Z post (pc + 3) ls (.ref t :: st) G) : WW Z post pc ls st G := by
  obtain ⟨Y, ⟨p, l, e, s, m, args, below, meth, c⟩, rm0, A⟩ := Z
  obtain ⟨⟨hx', hb⟩, hrr, ⟨hml, hown⟩, hts, hK, hD, hA, hw, hrm, hZ, hN⟩ := C
  intro H locs la hP hS hlh
  obtain ⟨t, h1, h2⟩ := hZ.1
  exact va_getsN hx' hb h1 hS hown ((hN.1 _ hq).use rfl) (fun _ h => h) d (kk t h2 H locs la hP hS hlh)
theorem r_tald {t : Nat} {f : List Int32} {x : Int32} (j : Nat) (C : gC Z w cc own ret nL rm) (d : decode cc pc = .ok (.iaload, 1)) (hT : gTi Z f t) (hn : f.length < 2 ^ 31) (hx : x = nI j) (hj : j < f.length) (kk : WW Z post (pc + 1) ls (.int (f.getD j 0) :: st) G) : WW Z post pc ls (.int x :: .ref t :: st) G := by
  obtain ⟨Y, ⟨p, l, e, s, m, args, below, meth, c⟩, rm0, A⟩ := Z
  obtain ⟨⟨hx', hb⟩, hrr, ⟨hml, hown⟩, hts, hK, hD, hA, hw, hrm, hZ, hN⟩ := C
  intro H locs la hP hS hlh
  subst hx
  exact va_ti hx' hb hT hS (vp_in_nI hj hn) (by rw [nI_clamp (by omega)]) d (kk H locs la hP hS hlh)
theorem r_tlld {t : Nat} {f : List Int64} {x : Int32} (j : Nat) (C : gC Z w cc own ret nL rm) (d : decode cc pc = .ok (.laload, 1)) (hT : gTl Z f t) (hn : f.length < 2 ^ 31) (hx : x = nI j) (hj : j < f.length) (kk : WW Z post (pc + 1) ls (.long (f.getD j 0) :: st) G) : WW Z post pc ls (.int x :: .ref t :: st) G := by
  obtain ⟨Y, ⟨p, l, e, s, m, args, below, meth, c⟩, rm0, A⟩ := Z
  obtain ⟨⟨hx', hb⟩, hrr, ⟨hml, hown⟩, hts, hK, hD, hA, hw, hrm, hZ, hN⟩ := C
  intro H locs la hP hS hlh
  subst hx
  exact va_tl hx' hb hT hS (vp_in_nI hj hn) (by rw [nI_clamp (by omega)]) d (kk H locs la hP hS hlh)
theorem r_tllen {t : Nat} {f : List Int64} (C : gC Z w cc own ret nL rm) (d : decode cc pc = .ok (.arraylength, 1)) (hT : gTl Z f t) (kk : WW Z post (pc + 1) ls (.int (nI f.length) :: st) G) : WW Z post pc ls (.ref t :: st) G := by
  obtain ⟨Y, ⟨p, l, e, s, m, args, below, meth, c⟩, rm0, A⟩ := Z
  obtain ⟨⟨hx', hb⟩, hrr, ⟨hml, hown⟩, hts, hK, hD, hA, hw, hrm, hZ, hN⟩ := C
  intro H locs la hP hS hlh
  exact va_tlen hx' hb hT hS rfl d (kk H locs la hP hS hlh)
theorem r_ldc {idx : Nat} {v : Int32} (C : gC Z w cc own ret nL rm) (d : decode cc pc = .ok (.ldc idx, 2)) (hc : Cond.constant own idx v ∈ lw_g) (kk : WW Z post (pc + 2) ls (.int v :: st) G) : WW Z post pc ls st G := by
  obtain ⟨Y, ⟨p, l, e, s, m, args, below, meth, c⟩, rm0, A⟩ := Z
  obtain ⟨⟨hx', hb⟩, hrr, ⟨hml, hown⟩, hts, -⟩ := C
  exact fun H locs la hP hS hlh => lv_ldc hx' hb hown (hts _ hc) d (kk H locs la hP hS hlh)
theorem r_ldcw {idx : Nat} {v : Int32} (C : gC Z w cc own ret nL rm) (d : decode cc pc = .ok (.ldc_w idx, 3)) (hc : Cond.constant own idx v ∈ lw_g) (kk : WW Z post (pc + 3) ls (.int v :: st) G) : WW Z post pc ls st G := by
  obtain ⟨Y, ⟨p, l, e, s, m, args, below, meth, c⟩, rm0, A⟩ := Z
  obtain ⟨⟨hx', hb⟩, hrr, ⟨hml, hown⟩, hts, -⟩ := C
  exact fun H locs la hP hS hlh => lv_ldcw hx' hb hown (hts _ hc) d (kk H locs la hP hS hlh)
theorem r_ldc2 {idx : Nat} {v : Int64} (C : gC Z w cc own ret nL rm) (d : decode cc pc = .ok (.ldc2_w idx, 3)) (hc : Cond.constantLong own idx v ∈ lw_g) (kk : WW Z post (pc + 3) ls (.long v :: st) G) : WW Z post pc ls st G := by
  obtain ⟨Y, ⟨p, l, e, s, m, args, below, meth, c⟩, rm0, A⟩ := Z
  obtain ⟨⟨hx', hb⟩, hrr, ⟨hml, hown⟩, hts, -⟩ := C
  exact fun H locs la hP hS hlh => lv_ldc2 hx' hb hown (hts _ hc) d (kk H locs la hP hS hlh)
/-! ends -/
def qi (P : Int32 → gS → Prop) : Option Value → gS → Prop := fun v G => ∃ r, v = some (.int r) ∧ P r G
def ql (P : Int64 → gS → Prop) : Option Value → gS → Prop := fun v G => ∃ r, v = some (.long r) ∧ P r G
def qv (P : gS → Prop) : Option Value → gS → Prop := fun v G => v = none ∧ P G
def qr (f : Nat → Nat) (P : Nat → gS → Prop) : Option Value → gS → Prop := fun v G => ∃ r, v = some (.ref (f r)) ∧ P r G
theorem r_ireturn {P : Int32 → gS → Prop} {x : Int32} (C : gC Z w cc own (some .int) nL rm) (d : decode cc pc = .ok (.ireturn, 1)) (h : P x G) : WW Z (qi P) pc ls [.int x] G := by
  obtain ⟨Y, ⟨p, l, e, s, m, args, below, meth, c⟩, rm0, A⟩ := Z
  obtain ⟨⟨hx', hb⟩, ⟨hr, hlk⟩, -⟩ := C
  exact fun H locs la hP hS hlh => W.iret hx' hb hr (fun t ht hW => ⟨⟨_, G, rfl, ⟨x, rfl, h⟩, by rw [ht]; exact hP⟩, hS.F ht⟩) hS.2.2 d hlk
theorem r_zreturn {P : Int32 → gS → Prop} {x : Int32} (C : gC Z w cc own (some .boolean) nL rm) (d : decode cc pc = .ok (.ireturn, 1)) (hn : narrow .boolean (.int x) = .int x) (h : P x G) : WW Z (qi P) pc ls [.int x] G := by
  obtain ⟨Y, ⟨p, l, e, s, m, args, below, meth, c⟩, rm0, A⟩ := Z
  obtain ⟨⟨hx', hb⟩, ⟨hr, hlk⟩, -⟩ := C
  exact fun H locs la hP hS hlh => W.zret hx' hb hr hn (fun t ht hW => ⟨⟨_, G, rfl, ⟨x, rfl, h⟩, by rw [ht]; exact hP⟩, hS.F ht⟩) hS.2.2 d hlk
theorem r_lreturn {P : Int64 → gS → Prop} {x : Int64} (C : gC Z w cc own (some .long) nL rm) (d : decode cc pc = .ok (.lreturn, 1)) (h : P x G) : WW Z (ql P) pc ls [.long x] G := by
  obtain ⟨Y, ⟨p, l, e, s, m, args, below, meth, c⟩, rm0, A⟩ := Z
  obtain ⟨⟨hx', hb⟩, ⟨hr, hlk⟩, -⟩ := C
  exact fun H locs la hP hS hlh => W.lret hx' hb hr (fun t ht hW => ⟨⟨_, G, rfl, ⟨x, rfl, h⟩, by rw [ht]; exact hP⟩, hS.F ht⟩) hS.2.2 d hlk
theorem r_areturn {P : Nat → gS → Prop} {x : Nat} {n : String} (C : gC Z w cc own (some (.object n)) nL rm) (d : decode cc pc = .ok (.areturn, 1)) (h : P x G) : WW Z (qr (ad Z) P) pc ls [.ref (ad Z x)] G := by
  obtain ⟨Y, ⟨p, l, e, s, m, args, below, meth, c⟩, rm0, A⟩ := Z
  obtain ⟨⟨hx', hb⟩, ⟨hr, hlk⟩, -⟩ := C
  exact fun H locs la hP hS hlh => W.aret hx' hb hr (Or.inl ⟨n, rfl⟩) (Or.inr ⟨_, rfl⟩) (fun t ht hW => ⟨⟨_, G, rfl, ⟨x, rfl, h⟩, by rw [ht]; exact hP⟩, hS.F ht⟩) hS.2.2 d hlk
theorem r_return {P : gS → Prop} (C : gC Z w cc own none nL rm) (d : decode cc pc = .ok (.return_, 1)) (h : P G) : WW Z (qv P) pc ls [] G := by
  obtain ⟨Y, ⟨p, l, e, s, m, args, below, meth, c⟩, rm0, A⟩ := Z
  obtain ⟨⟨hx', hb⟩, ⟨hr, hlk⟩, -⟩ := C
  exact fun H locs la hP hS hlh => W.vret hx' hb hr (fun t ht hW => ⟨⟨_, G, rfl, ⟨rfl, h⟩, by rw [ht]; exact hP⟩, hS.F ht⟩) hS.2.2 d hlk
end R
