/-! my own layer: a world of ROLES. An abstract heap G gives ints, longs and references by (role, slot); ad gives a role's address -/
abbrev gS : Type := (Nat → Nat → Int32) × (Nat → Nat → Int64) × (Nat → Nat → Nat)
def sI (G : gS) (r k : Nat) (v : Int32) : gS := (fun a => if a = r then upd (G.1 r) k v else G.1 a, G.2)
def sL (G : gS) (r k : Nat) (v : Int64) : gS := (G.1, fun a => if a = r then vp_updL (G.2.1 r) k v else G.2.1 a, G.2.2)
def sR (G : gS) (r k : Nat) (v : Nat) : gS := (G.1, G.2.1, fun a => if a = r then va_up (G.2.2 r) k v else G.2.2 a)
abbrev gH : Type := Nat → Nat × Nat × Nat × (Nat → Nat × Nat)
abbrev gU : Type := List Nat × gH
abbrev gY : Type := va_G × (Nat → Nat) × (Nat → ClassId) × gU
def gv (ad : Nat → Nat) (G : gS) (r k : Nat) (f : Nat × Nat) : Value := if f.1 = 0 then .int (G.1 r k) else if f.1 = 1 then .ref (ad f.2) else .ref (ad (G.2.2 r k))
def gq (ad : Nat → Nat) (G : gS) (r : Nat) (fs : Nat → Nat × Nat) (k : Nat) : Option Nat := some (ad (if (fs k).1 = 1 then (fs k).2 else G.2.2 r k))
def gc (ad : Nat → Nat) (cA : Nat → ClassId) (h : Nat × Nat × Nat × (Nat → Nat × Nat)) (G : gS) (r : Nat) : va_E :=
  if h.1 = 0 then .inr (h.2.1, (List.range h.2.2.1).map (fun k => gv ad G r k (h.2.2.2 k)))
  else if h.1 = 1 then .inl (cA h.2.1, h.2.2.1, .inl (G.1 r))
  else if h.1 = 2 then .inl (cA h.2.1, h.2.2.1, .inr (.inl (G.2.1 r)))
  else .inl (cA h.2.1, h.2.2.1, .inr (.inr (.inr (.inr (gq ad G r h.2.2.2)))))
def gw (Y : gY) (G : gS) : va_W := Y.2.2.2.1.map (fun r => (Y.2.1 r, gc Y.2.1 Y.2.2.1 (Y.2.2.2.2 r) G r))
def gT (cA : Nat → ClassId) : List (ClassId × FieldType) := [(cA 0, .int), (cA 1, .boolean), (cA 2, .byte), (cA 3, .long), (cA 4, .object "BootHall$Machine"), (cA 5, .object "BootHall$Rules")]
theorem gw_at {Y : gY} {G : gS} {q r : Nat} (h : Y.2.2.2.1[q]? = some r) : (gw Y G)[q]? = some (Y.2.1 r, gc Y.2.1 Y.2.2.1 (Y.2.2.2.2 r) G r) := by
  rw [gw, List.getElem?_map, h]; rfl
theorem gw_ix {Y : gY} {r : Nat} (h : r ∈ Y.2.2.2.1) : ∃ q : Nat, Y.2.2.2.1[q]? = some r := List.getElem?_of_mem h
theorem gw_D {Y : gY} {G G' : gS} {A : Nat → Prop} (h : va_D A (gw Y G)) : va_D A (gw Y G') := by
  have key : ∀ (k : Nat) (p : Nat × va_E), (gw Y G')[k]? = some p → ∃ e, (gw Y G)[k]? = some (p.1, e) := by
    intro k p hp
    rw [gw, List.getElem?_map] at hp
    cases hk : Y.2.2.2.1[k]? with
    | none => rw [hk] at hp; cases hp
    | some r =>
      rw [hk] at hp
      cases hp
      exact ⟨_, gw_at hk⟩
  refine ⟨fun i j p q hi hj e => ?_, fun k q hk => ?_⟩
  · obtain ⟨e1, h1⟩ := key i p hi
    obtain ⟨e2, h2⟩ := key j q hj
    exact h.1 i j _ _ h1 h2 e
  · obtain ⟨e1, h1⟩ := key k q hk
    exact h.2 k (q.1, e1) h1
theorem gw_inj {Y : gY} {G : gS} {A : Nat → Prop} (h : va_D A (gw Y G)) {i j r : Nat} (hi : Y.2.2.2.1[i]? = some r) (hj : Y.2.2.2.1[j]? = some r) : i = j := h.1 i j _ _ (gw_at hi) (gw_at hj) rfl
theorem gw_set {Y : gY} {G G' : gS} {A : Nat → Prop} (hD : va_D A (gw Y G)) {q r : Nat} (hq : Y.2.2.2.1[q]? = some r) {e : va_E} (he : gc Y.2.1 Y.2.2.1 (Y.2.2.2.2 r) G' r = e) (ho : ∀ r', r' ≠ r → gc Y.2.1 Y.2.2.1 (Y.2.2.2.2 r') G' r' = gc Y.2.1 Y.2.2.1 (Y.2.2.2.2 r') G r') : (gw Y G).set q (Y.2.1 r, e) = gw Y G' := by
  apply List.ext_getElem?
  intro k
  rw [List.getElem?_set]
  by_cases hk : q = k
  · subst hk
    have hl : q < (gw Y G).length := by
      have := gw_at (G := G) hq
      exact (List.getElem?_eq_some_iff.mp this).1
    rw [if_pos rfl, if_pos hl, gw_at hq, he]
  · rw [if_neg hk]
    cases h2 : Y.2.2.2.1[k]? with
    | none => rw [gw, gw, List.getElem?_map, List.getElem?_map, h2]; rfl
    | some r' =>
      rw [gw_at h2, gw_at h2]
      have hne : r' ≠ r := fun e => hk (gw_inj hD hq (e ▸ h2))
      rw [ho r' hne]
theorem sI_o {G : gS} {r k : Nat} {v : Int32} {r' : Nat} (h : r' ≠ r) : (sI G r k v).1 r' = G.1 r' := if_neg h
theorem sI_s {G : gS} {r k : Nat} {v : Int32} : (sI G r k v).1 r = upd (G.1 r) k v := if_pos rfl
theorem sL_o {G : gS} {r k : Nat} {v : Int64} {r' : Nat} (h : r' ≠ r) : (sL G r k v).2.1 r' = G.2.1 r' := if_neg h
theorem sL_s {G : gS} {r k : Nat} {v : Int64} : (sL G r k v).2.1 r = vp_updL (G.2.1 r) k v := if_pos rfl
theorem sR_o {G : gS} {r k v : Nat} {r' : Nat} (h : r' ≠ r) : (sR G r k v).2.2 r' = G.2.2 r' := if_neg h
theorem sR_s {G : gS} {r k v : Nat} : (sR G r k v).2.2 r = va_up (G.2.2 r) k v := if_pos rfl
theorem gc_sI {ad : Nat → Nat} {cA : Nat → ClassId} {h : Nat × Nat × Nat × (Nat → Nat × Nat)} {G : gS} {r k : Nat} {v : Int32} {r' : Nat} (hr : r' ≠ r) : gc ad cA h (sI G r k v) r' = gc ad cA h G r' := by
  simp only [gc, gv, gq, sI_o hr]; rfl
theorem gc_sL {ad : Nat → Nat} {cA : Nat → ClassId} {h : Nat × Nat × Nat × (Nat → Nat × Nat)} {G : gS} {r k : Nat} {v : Int64} {r' : Nat} (hr : r' ≠ r) : gc ad cA h (sL G r k v) r' = gc ad cA h G r' := by
  simp only [gc, gv, gq, sL_o hr]; rfl
theorem gc_sR {ad : Nat → Nat} {cA : Nat → ClassId} {h : Nat × Nat × Nat × (Nat → Nat × Nat)} {G : gS} {r k v : Nat} {r' : Nat} (hr : r' ≠ r) : gc ad cA h (sR G r k v) r' = gc ad cA h G r' := by
  have h3 : ∀ fs, gq ad (sR G r k v) r' fs = gq ad G r' fs := fun fs => by funext j; simp only [gq, sR_o hr]
  simp only [gc, gv, sR_o hr, h3]; rfl
/-! locals as a list by their numbers -/
def prs : Nat → List (Option Value) → List (Nat × Value)
  | _, [] => []
  | i, none :: t => prs (i + 1) t
  | i, some v :: t => (i, v) :: prs (i + 1) t
theorem prs_mem : ∀ (ls : List (Option Value)) (i j : Nat) (v : Value), (j, v) ∈ prs i ls ↔ i ≤ j ∧ ls[j - i]? = some (some v)
  | [], i, j, v => by simp [prs]
  | none :: t, i, j, v => by
    rw [prs, prs_mem t (i + 1) j v]
    by_cases h : j = i
    · subst h; simp; omega
    · constructor
      · rintro ⟨h1, h2⟩
        refine ⟨by omega, ?_⟩
        rw [show j - i = (j - (i + 1)) + 1 by omega, List.getElem?_cons_succ]; exact h2
      · rintro ⟨h1, h2⟩
        refine ⟨by omega, ?_⟩
        rw [show j - i = (j - (i + 1)) + 1 by omega, List.getElem?_cons_succ] at h2; exact h2
  | some w :: t, i, j, v => by
    rw [prs, List.mem_cons, prs_mem t (i + 1) j v]
    by_cases h : j = i
    · subst h
      rw [Nat.sub_self, List.getElem?_cons_zero]
      constructor
      · rintro (h1 | ⟨h1, -⟩)
        · cases h1; exact ⟨Nat.le_refl _, rfl⟩
        · omega
      · rintro ⟨-, h1⟩
        cases h1; exact Or.inl rfl
    · constructor
      · rintro (h1 | ⟨h1, h2⟩)
        · exact absurd (congrArg Prod.fst h1) h
        · refine ⟨by omega, ?_⟩
          rw [show j - i = (j - (i + 1)) + 1 by omega, List.getElem?_cons_succ]; exact h2
      · rintro ⟨h1, h2⟩
        refine Or.inr ⟨by omega, ?_⟩
        rw [show j - i = (j - (i + 1)) + 1 by omega, List.getElem?_cons_succ] at h2; exact h2
def lh (la : Array Slot) (ls : List (Option Value)) : Prop := lv_has la ls.length (prs 0 ls)
theorem lh_at {la : Array Slot} {ls : List (Option Value)} (h : lh la ls) {i : Nat} {v : Value} (hi : ls[i]? = some (some v)) : la[i]? = some (.val v) := h.2.2 (i, v) ((prs_mem ls 0 i v).mpr ⟨Nat.zero_le _, hi⟩)
def c1 (o : Option Value) : Bool := match o with
  | none => true
  | some v => v.category == 1
theorem lh_s1 {la : Array Slot} {ls : List (Option Value)} {i : Nat} {v : Value} (h : lv_has la ls.length ((i, v) :: (prs 0 ls).filter (fun q => !(q.1 == i) && !(q.1 + 1 == i && q.2.category == 2)))) (hc : ∀ j w, j + 1 = i → ls[j]? = some w → c1 w = true) : lh la (ls.set i (some v)) := by
  obtain ⟨h1, h2, h3⟩ := h
  refine ⟨by rw [List.length_set]; exact h1, h2, ?_⟩
  rintro ⟨j, w⟩ hq
  obtain ⟨-, hj⟩ := (prs_mem _ 0 j w).mp hq
  rw [Nat.sub_zero, List.getElem?_set] at hj
  by_cases e : i = j
  · subst e
    rw [if_pos rfl] at hj
    split at hj
    · cases hj; exact h3 _ List.mem_cons_self
    · cases hj
  · rw [if_neg e] at hj
    refine h3 _ (List.mem_cons_of_mem _ (List.mem_filter.mpr ⟨(prs_mem _ 0 j w).mpr ⟨Nat.zero_le _, hj⟩, ?_⟩))
    have e1 : (j == i) = false := by simpa using fun z => e z.symm
    by_cases e2 : j + 1 = i
    · have := hc j (some w) e2 hj
      have e3 : w.category = 1 := by simpa [c1] using this
      simp [e1, e3]
    · simp [e1, e2]
theorem lh_s2 {la : Array Slot} {ls : List (Option Value)} {i : Nat} {v : Value} (h : lv_has la ls.length ((i, v) :: (prs 0 ls).filter (fun q => !(q.1 == i) && (!(q.1 == i + 1) && !(q.1 + 1 == i && q.2.category == 2))))) (hc : ∀ j w, j + 1 = i → ls[j]? = some w → c1 w = true) : lh la ((ls.set i (some v)).set (i + 1) none) := by
  obtain ⟨h1, h2, h3⟩ := h
  refine ⟨by rw [List.length_set, List.length_set]; exact h1, h2, ?_⟩
  rintro ⟨j, w⟩ hq
  obtain ⟨-, hj⟩ := (prs_mem _ 0 j w).mp hq
  rw [Nat.sub_zero, List.getElem?_set] at hj
  by_cases e0 : i + 1 = j
  · rw [if_pos e0] at hj
    split at hj <;> cases hj
  rw [if_neg e0, List.getElem?_set] at hj
  by_cases e : i = j
  · subst e
    rw [if_pos rfl] at hj
    split at hj
    · cases hj; exact h3 _ List.mem_cons_self
    · cases hj
  · rw [if_neg e] at hj
    refine h3 _ (List.mem_cons_of_mem _ (List.mem_filter.mpr ⟨(prs_mem _ 0 j w).mpr ⟨Nat.zero_le _, hj⟩, ?_⟩))
    have e1 : (j == i) = false := by simpa using fun z => e z.symm
    have e4 : (j == i + 1) = false := by simpa using fun z => e0 z.symm
    by_cases e2 : j + 1 = i
    · have := hc j (some w) e2 hj
      have e3 : w.category = 1 := by simpa [c1] using this
      simp [e1, e3, e4]
    · simp [e1, e2, e4]
/-! the words: those of lw_tbl that stay good; and the words of nest mates beside them -/
def lw_g : List Cond := lw_tbl.filter goodWord
theorem lw_m {w : Cond} (i : Nat) (h : lw_tbl[i]? = some w) (hg : goodWord w = true) : w ∈ lw_g := List.mem_filter.mpr ⟨List.mem_of_getElem? h, hg⟩
theorem lw_gg {y : MethodName} {b : ByteArray} {n : Nat} {rt : Option FieldType} (h : Cond.code y b n rt ∈ lw_g) : GoodIn lw_g (Cond.code y b n rt :: lw_g) := by
  intro w hw
  have hm : w ∈ lw_g := (List.mem_cons.mp hw).elim (fun e => e ▸ h) id
  exact ⟨hm, good_of_word (List.mem_filter.mp hm).2⟩
def gNF : List (String × Nat × String × String) := [("BootHall$Scanner", 56, "WORDS", "[J"), ("BootHall$Scanner", 60, "WORD_SORTS", "[I"), ("BootHall$Scanner", 63, "WORD_VALUES", "[I"), ("BootHall$Reader", 121, "OPERATOR_RANKS", "[I"), ("BootHall$Run", 234, "SHIFTS", "[I")]
def gNw (U : State) : Prop := (∀ q ∈ gNF, va_Nw (.fieldLinkNest q.1 q.2.1 "BootHall" q.2.2.1 q.2.2.2 "BootHall") U) ∧ va_Nw (.methodLinkNest "BootHall$Hall" 61 ⟨"BootHall", "isBelow", "(II)Z"⟩ "BootHall") U
theorem gNw.warm {s U : State} (hW : s.WarmedH U.vm) (h : gNw s) : gNw U := ⟨fun q hq => (h.1 q hq).warmF hW, h.2.warmM hW⟩
def tWd : List Int64 := [1718185061, 418330731890, 26982, 28530, 6385252, 1802071652, 482854658917, 1835102827, 500135716211, 6447460, 422608074094, 1953063787]
def tWs : List Int32 := [4, 5, 6, 7, 7, 3, 3, 3, 3, 3, 3, 3]
def tWv : List Int32 := [0, 0, 0, 1, 2, 0, 1, 2, 3, 4, 5, 6]
def tOr : List Int32 := [0, 1, 2, 3, 3, 3, 3, 4, 4, 5]
def tSh : List Int32 := [0, 4, 8, 12, 16, 20, 24, 28, 32, 40, 44]
/-- a static row of ints (longs): where it is, what it holds; no method writes it -/
def gZi (n : String) (f : List Int32) (A : Nat → Prop) (U : State) (H : Heap) : Prop := ∃ t : Nat, va_Z "BootHall" n "[I" (.ref t) A U H ∧ va_T .int t f.length (fun j => .int (f.getD j 0)) A U H
def gZl (n : String) (f : List Int64) (A : Nat → Prop) (U : State) (H : Heap) : Prop := ∃ t : Nat, va_Z "BootHall" n "[J" (.ref t) A U H ∧ va_T .long t f.length (fun j => .long (f.getD j 0)) A U H
def gZ (A : Nat → Prop) (U : State) (H : Heap) : Prop := gZl "WORDS" tWd A U H ∧ gZi "WORD_SORTS" tWs A U H ∧ gZi "WORD_VALUES" tWv A U H ∧ gZi "OPERATOR_RANKS" tOr A U H ∧ gZi "SHIFTS" tSh A U H
theorem gZi.to {n : String} {f : List Int32} {A B : Nat → Prop} {s U : State} {H : Heap} (h : gZi n f A s s.heap) (hvm : s.vm.Alike U.vm) (hq : ∀ a : Nat, a < s.heap.size → ¬ A a → H[a]? = s.heap[a]?) (hAB : ∀ q, B q → A q) : gZi n f B U H := by
  obtain ⟨t, h1, h2⟩ := h
  exact ⟨t, ((h1.kept hq).narrow hAB).moved hvm, ((h2.kept hq).narrow hAB).moved hvm⟩
theorem gZl.to {n : String} {f : List Int64} {A B : Nat → Prop} {s U : State} {H : Heap} (h : gZl n f A s s.heap) (hvm : s.vm.Alike U.vm) (hq : ∀ a : Nat, a < s.heap.size → ¬ A a → H[a]? = s.heap[a]?) (hAB : ∀ q, B q → A q) : gZl n f B U H := by
  obtain ⟨t, h1, h2⟩ := h
  exact ⟨t, ((h1.kept hq).narrow hAB).moved hvm, ((h2.kept hq).narrow hAB).moved hvm⟩
theorem gZ.to {A B : Nat → Prop} {s U : State} {H : Heap} (h : gZ A s s.heap) (hvm : s.vm.Alike U.vm) (hq : ∀ a : Nat, a < s.heap.size → ¬ A a → H[a]? = s.heap[a]?) (hAB : ∀ q, B q → A q) : gZ B U H := ⟨h.1.to hvm hq hAB, h.2.1.to hvm hq hAB, h.2.2.1.to hvm hq hAB, h.2.2.2.1.to hvm hq hAB, h.2.2.2.2.to hvm hq hAB⟩
/-! a method's start, end and contract, over the whole world of Y -/
def gP (Y : gY) (G : gS) (sz : Nat) (U : State) : Prop := U.heap.size = sz ∧ va_P Y.1 vwCl (gw Y G) U.heap ∧ va_K Y.1 vwCl (gT Y.2.2.1) U ∧ va_D (fun _ => True) (gw Y G) ∧ gZ (va_A (gw Y G) sz) U U.heap ∧ gNw U
def gQ (Y : gY) (A : Nat → Prop) (post : Option Value → gS → Prop) : Array Value → State → Outcome → State → Prop := fun _ st oc t => (∃ (v : Option Value) (G : gS), oc = .returned v ∧ post v G ∧ va_P Y.1 vwCl (gw Y G) t.heap) ∧ va_F A st t
def gM (Y : gY) (l : Launch) (y : MethodName) (cc : ByteArray) (nL : Nat) (ret : Option FieldType) (rm : Nat × Nat) (av : List Value) (G : gS) (post : Option Value → gS → Prop) : Prop :=
  ∀ sz : Nat, Met l y (.code y cc nL ret :: lw_g) { frames := rm.1, cells := 0, slots := 0, locals := rm.2 } (va_Pc av (gP Y G sz)) (gQ Y (va_A (gw Y G) sz) post) 0 0 (va_A (gw Y G) sz)
abbrev gX : Type := Program × Launch × Env × State × MethodId × Array Value × List Frame × Method × Code
abbrev gO : Type := gY × gX × (Nat × Nat) × (Nat → Prop)
abbrev ad (Z : gO) : Nat → Nat := Z.1.2.1
/-- the machine, at pc with locals ls, stack st and the abstract heap G, comes to the method's end with post -/
def WW (Z : gO) (post : Option Value → gS → Prop) (pc : Nat) (ls : List (Option Value)) (st : List Value) (G : gS) : Prop :=
  match Z with
  | (Y, (p, l, e, s, m, args, below, meth, c), rm, A) => ∀ (H : Heap) (locs : List Loc) (la : Array Slot), va_P Y.1 vwCl (gw Y G) H → va_S A s.heap H locs → lh la ls →
    W p l e { frames := rm.1, cells := 0, slots := 0, locals := rm.2 } s m args below meth c H locs 0 0 (MQ below (gQ Y A post) args s 0 0 A) (F0 m pc la st)
/-- what holds all through a method: its bytes, class, answer's type, locals, room; which world -/
def gC (Z : gO) (w : gU) (cc : ByteArray) (own : String) (ret : Option FieldType) (nL : Nat) (rm : Nat × Nat) : Prop :=
  match Z with
  | (Y, (p, l, e, s, m, args, below, meth, c), rm0, A) => (p.tables.exec = Jvm.exec ∧ c.code = cc) ∧ (meth.sig.returnType = ret ∧ meth.locks = false) ∧ (c.maxLocals = nL ∧ s.vm.findClass own = some m.cls) ∧ (∀ w ∈ lw_g, w.before args s = true) ∧ va_K Y.1 vwCl (gT Y.2.2.1) s ∧ (∀ G, va_D A (gw Y G)) ∧ (∀ q, s.heap.size ≤ q → A q) ∧ Y.2.2.2 = w ∧ rm0 = rm ∧ gZ A s s.heap ∧ gNw s
theorem gM_of {w : gU} {Y : gY} {l : Launch} {y : MethodName} {cc : ByteArray} {nL : Nat} {ret : Option FieldType} {rm : Nat × Nat} {av : List Value} {G : gS} {post : Option Value → gS → Prop} (hw : Y.2.2.2 = w) (hy : plainName y.cls = true) (hn : (lg_sl av).length ≤ nL)
    (ls : List (Option Value)) (hls : ls.length = nL) (hlv : prs 0 ls = lv_args 0 av)
    (body : ∀ Z : gO, Z.1 = Y → gC Z w cc y.cls ret nL rm → WW Z post 0 ls [] G) : gM Y l y cc nL ret rm av G post := by
  intro sz
  refine Met.ofW (cc := cc) (maxL := nL) (ret := ret) hy rfl ?_
  intro p e s m args below meth c s₁ B hml hv
  obtain ⟨rfl, hsz, hP, hK, hD0, hZ, hN⟩ := hv
  have hts := atoms_spec (ws := .code y cc nL ret :: lw_g) B.pre
  have hown : s.vm.findClass y.cls = some m.cls := findClass_of_methodNamed B.named
  subst hsz
  have hD := hD0.self (sz := s.heap.size)
  generalize hAe : va_A (gw Y G) s.heap.size = A at hD hZ ⊢
  have hA : ∀ q : Nat, s.heap.size ≤ q → A q := fun q h => by rw [← hAe]; exact Or.inr h
  have hS : va_S A s.heap s.heap [] := va_S.rf
  have hl := lv_entry av (n := nL) hn
  rw [lg_entry_eq]
  generalize (lg_sl av ++ List.replicate (nL - (lg_sl av).length) Slot.unset).toArray = la at hl ⊢
  have hl : lh la ls := by rw [lh, hls, hlv]; exact hl
  exact body (Y, (p, l, e, s, m, av.toArray, below, meth, c), rm, A) rfl ⟨⟨B.exec, B.bytes⟩, ⟨B.returns, B.notSynchronized⟩, ⟨hml, hown⟩, fun w hw => hts w (List.mem_cons_of_mem _ hw), hK, fun G' => gw_D hD, hA, hw, rfl, hZ, hN⟩ s.heap [] la hP hS hl
theorem gC.w {Z : gO} {w : gU} {cc : ByteArray} {own : String} {ret : Option FieldType} {nL : Nat} {rm : Nat × Nat} (C : gC Z w cc own ret nL rm) : Z.1.2.2.2 = w := by
  obtain ⟨Y, ⟨p, l, e, s, m, args, below, meth, c⟩, rm0, A⟩ := Z
  obtain ⟨-, -, -, -, -, -, -, hw, -⟩ := C
  exact hw
section R
variable {Z : gO} {w : gU} {cc : ByteArray} {own : String} {ret : Option FieldType} {nL : Nat} {rm : Nat × Nat} {post : Option Value → gS → Prop} {pc : Nat} {ls : List (Option Value)} {st : List Value} {G : gS}
theorem r_eqi {x y : Int32} (h : x = y) (k : WW Z post pc ls (.int y :: st) G) : WW Z post pc ls (.int x :: st) G := h ▸ k
theorem r_eql {x y : Int64} (h : x = y) (k : WW Z post pc ls (.long y :: st) G) : WW Z post pc ls (.long x :: st) G := h ▸ k
theorem r_topi {x : Int32} (k : ∀ y, y = x → WW Z post pc ls (.int y :: st) G) : WW Z post pc ls (.int x :: st) G := k x rfl
theorem r_topl {x : Int64} (k : ∀ y, y = x → WW Z post pc ls (.long y :: st) G) : WW Z post pc ls (.long x :: st) G := k x rfl
theorem r_G {G' : gS} (h : G = G') (k : WW Z post pc ls st G') : WW Z post pc ls st G := h ▸ k

theorem r_iconst {n : Int} {v : Int32} (C : gC Z w cc own ret nL rm) (d : decode cc pc = .ok (.iconst n, 1)) (hv : Int32.ofInt n = v) (k : WW Z post (pc + 1) ls (.int v :: st) G) : WW Z post pc ls (st) G := by
  obtain ⟨Y, ⟨p, l, e, s, m, args, below, meth, c⟩, rm0, A⟩ := Z
  obtain ⟨⟨hx, hb⟩, -⟩ := C
  exact fun H locs la hP hS hl => lv_iconst hx hb d hv (k H locs la hP hS hl)
theorem r_bipush {n : Int} {v : Int32} (C : gC Z w cc own ret nL rm) (d : decode cc pc = .ok (.bipush n, 2)) (hv : (Int8.ofInt n).toInt32 = v) (k : WW Z post (pc + 2) ls (.int v :: st) G) : WW Z post pc ls (st) G := by
  obtain ⟨Y, ⟨p, l, e, s, m, args, below, meth, c⟩, rm0, A⟩ := Z
  obtain ⟨⟨hx, hb⟩, -⟩ := C
  exact fun H locs la hP hS hl => lv_bipush hx hb d hv (k H locs la hP hS hl)
theorem r_sipush {n : Int} {v : Int32} (C : gC Z w cc own ret nL rm) (d : decode cc pc = .ok (.sipush n, 3)) (hv : (Int16.ofInt n).toInt32 = v) (k : WW Z post (pc + 3) ls (.int v :: st) G) : WW Z post pc ls (st) G := by
  obtain ⟨Y, ⟨p, l, e, s, m, args, below, meth, c⟩, rm0, A⟩ := Z
  obtain ⟨⟨hx, hb⟩, -⟩ := C
  exact fun H locs la hP hS hl => lv_sipush hx hb d hv (k H locs la hP hS hl)
theorem r_lconst {n : Fin 2} {v : Int64} (C : gC Z w cc own ret nL rm) (d : decode cc pc = .ok (.lconst n, 1)) (hv : Int64.ofNat (n : Nat) = v) (k : WW Z post (pc + 1) ls (.long v :: st) G) : WW Z post pc ls (st) G := by
  obtain ⟨Y, ⟨p, l, e, s, m, args, below, meth, c⟩, rm0, A⟩ := Z
  obtain ⟨⟨hx, hb⟩, -⟩ := C
  exact fun H locs la hP hS hl => lv_lconst hx hb d hv (k H locs la hP hS hl)
theorem r_iadd {x y : Int32} (C : gC Z w cc own ret nL rm) (d : decode cc pc = .ok (.iadd, 1)) (k : WW Z post (pc + 1) ls (.int (x + y) :: st) G) : WW Z post pc ls (.int y :: .int x :: st) G := by
  obtain ⟨Y, ⟨p, l, e, s, m, args, below, meth, c⟩, rm0, A⟩ := Z
  obtain ⟨⟨hx, hb⟩, -⟩ := C
  exact fun H locs la hP hS hl => lv_iadd hx hb d (k H locs la hP hS hl)
theorem r_isub {x y : Int32} (C : gC Z w cc own ret nL rm) (d : decode cc pc = .ok (.isub, 1)) (k : WW Z post (pc + 1) ls (.int (x - y) :: st) G) : WW Z post pc ls (.int y :: .int x :: st) G := by
  obtain ⟨Y, ⟨p, l, e, s, m, args, below, meth, c⟩, rm0, A⟩ := Z
  obtain ⟨⟨hx, hb⟩, -⟩ := C
  exact fun H locs la hP hS hl => lv_isub hx hb d (k H locs la hP hS hl)
theorem r_imul {x y : Int32} (C : gC Z w cc own ret nL rm) (d : decode cc pc = .ok (.imul, 1)) (k : WW Z post (pc + 1) ls (.int (x * y) :: st) G) : WW Z post pc ls (.int y :: .int x :: st) G := by
  obtain ⟨Y, ⟨p, l, e, s, m, args, below, meth, c⟩, rm0, A⟩ := Z
  obtain ⟨⟨hx, hb⟩, -⟩ := C
  exact fun H locs la hP hS hl => lv_imul hx hb d (k H locs la hP hS hl)
theorem r_iand {x y : Int32} (C : gC Z w cc own ret nL rm) (d : decode cc pc = .ok (.iand, 1)) (k : WW Z post (pc + 1) ls (.int (x &&& y) :: st) G) : WW Z post pc ls (.int y :: .int x :: st) G := by
  obtain ⟨Y, ⟨p, l, e, s, m, args, below, meth, c⟩, rm0, A⟩ := Z
  obtain ⟨⟨hx, hb⟩, -⟩ := C
  exact fun H locs la hP hS hl => lv_iand hx hb d (k H locs la hP hS hl)
theorem r_ior {x y : Int32} (C : gC Z w cc own ret nL rm) (d : decode cc pc = .ok (.ior, 1)) (k : WW Z post (pc + 1) ls (.int (x ||| y) :: st) G) : WW Z post pc ls (.int y :: .int x :: st) G := by
  obtain ⟨Y, ⟨p, l, e, s, m, args, below, meth, c⟩, rm0, A⟩ := Z
  obtain ⟨⟨hx, hb⟩, -⟩ := C
  exact fun H locs la hP hS hl => lv_ior hx hb d (k H locs la hP hS hl)
theorem r_ixor {x y : Int32} (C : gC Z w cc own ret nL rm) (d : decode cc pc = .ok (.ixor, 1)) (k : WW Z post (pc + 1) ls (.int (x ^^^ y) :: st) G) : WW Z post pc ls (.int y :: .int x :: st) G := by
  obtain ⟨Y, ⟨p, l, e, s, m, args, below, meth, c⟩, rm0, A⟩ := Z
  obtain ⟨⟨hx, hb⟩, -⟩ := C
  exact fun H locs la hP hS hl => lv_ixor hx hb d (k H locs la hP hS hl)
theorem r_ishl {x y : Int32} (C : gC Z w cc own ret nL rm) (d : decode cc pc = .ok (.ishl, 1)) (k : WW Z post (pc + 1) ls (.int (x <<< (y &&& 31)) :: st) G) : WW Z post pc ls (.int y :: .int x :: st) G := by
  obtain ⟨Y, ⟨p, l, e, s, m, args, below, meth, c⟩, rm0, A⟩ := Z
  obtain ⟨⟨hx, hb⟩, -⟩ := C
  exact fun H locs la hP hS hl => lv_ishl hx hb d (k H locs la hP hS hl)
theorem r_ishr {x y : Int32} (C : gC Z w cc own ret nL rm) (d : decode cc pc = .ok (.ishr, 1)) (k : WW Z post (pc + 1) ls (.int (x >>> (y &&& 31)) :: st) G) : WW Z post pc ls (.int y :: .int x :: st) G := by
  obtain ⟨Y, ⟨p, l, e, s, m, args, below, meth, c⟩, rm0, A⟩ := Z
  obtain ⟨⟨hx, hb⟩, -⟩ := C
  exact fun H locs la hP hS hl => lv_ishr hx hb d (k H locs la hP hS hl)
theorem r_iushr {x y : Int32} (C : gC Z w cc own ret nL rm) (d : decode cc pc = .ok (.iushr, 1)) (k : WW Z post (pc + 1) ls (.int ((x.toUInt32 >>> (y.toUInt32 &&& Int32.toUInt32 31)).toInt32) :: st) G) : WW Z post pc ls (.int y :: .int x :: st) G := by
  obtain ⟨Y, ⟨p, l, e, s, m, args, below, meth, c⟩, rm0, A⟩ := Z
  obtain ⟨⟨hx, hb⟩, -⟩ := C
  exact fun H locs la hP hS hl => lv_iushr hx hb d rfl (k H locs la hP hS hl)
theorem r_idiv {x y : Int32} (C : gC Z w cc own ret nL rm) (d : decode cc pc = .ok (.idiv, 1)) (hne : ¬ y = 0) (k : WW Z post (pc + 1) ls (.int (x / y) :: st) G) : WW Z post pc ls (.int y :: .int x :: st) G := by
  obtain ⟨Y, ⟨p, l, e, s, m, args, below, meth, c⟩, rm0, A⟩ := Z
  obtain ⟨⟨hx, hb⟩, -⟩ := C
  exact fun H locs la hP hS hl => lv_idiv hx hb d hne (k H locs la hP hS hl)
theorem r_irem {x y : Int32} (C : gC Z w cc own ret nL rm) (d : decode cc pc = .ok (.irem, 1)) (hne : ¬ y = 0) (k : WW Z post (pc + 1) ls (.int (x - x / y * y) :: st) G) : WW Z post pc ls (.int y :: .int x :: st) G := by
  obtain ⟨Y, ⟨p, l, e, s, m, args, below, meth, c⟩, rm0, A⟩ := Z
  obtain ⟨⟨hx, hb⟩, -⟩ := C
  exact fun H locs la hP hS hl => lv_irem hx hb d hne (k H locs la hP hS hl)
theorem r_ladd {x y : Int64} (C : gC Z w cc own ret nL rm) (d : decode cc pc = .ok (.ladd, 1)) (k : WW Z post (pc + 1) ls (.long (x + y) :: st) G) : WW Z post pc ls (.long y :: .long x :: st) G := by
  obtain ⟨Y, ⟨p, l, e, s, m, args, below, meth, c⟩, rm0, A⟩ := Z
  obtain ⟨⟨hx, hb⟩, -⟩ := C
  exact fun H locs la hP hS hl => lv_ladd hx hb d (k H locs la hP hS hl)
theorem r_lmul {x y : Int64} (C : gC Z w cc own ret nL rm) (d : decode cc pc = .ok (.lmul, 1)) (k : WW Z post (pc + 1) ls (.long (x * y) :: st) G) : WW Z post pc ls (.long y :: .long x :: st) G := by
  obtain ⟨Y, ⟨p, l, e, s, m, args, below, meth, c⟩, rm0, A⟩ := Z
  obtain ⟨⟨hx, hb⟩, -⟩ := C
  exact fun H locs la hP hS hl => lv_lmul hx hb d (k H locs la hP hS hl)
theorem r_land {x y : Int64} (C : gC Z w cc own ret nL rm) (d : decode cc pc = .ok (.land, 1)) (k : WW Z post (pc + 1) ls (.long (x &&& y) :: st) G) : WW Z post pc ls (.long y :: .long x :: st) G := by
  obtain ⟨Y, ⟨p, l, e, s, m, args, below, meth, c⟩, rm0, A⟩ := Z
  obtain ⟨⟨hx, hb⟩, -⟩ := C
  exact fun H locs la hP hS hl => lv_land hx hb d (k H locs la hP hS hl)
theorem r_lor {x y : Int64} (C : gC Z w cc own ret nL rm) (d : decode cc pc = .ok (.lor, 1)) (k : WW Z post (pc + 1) ls (.long (x ||| y) :: st) G) : WW Z post pc ls (.long y :: .long x :: st) G := by
  obtain ⟨Y, ⟨p, l, e, s, m, args, below, meth, c⟩, rm0, A⟩ := Z
  obtain ⟨⟨hx, hb⟩, -⟩ := C
  exact fun H locs la hP hS hl => lv_lor hx hb d (k H locs la hP hS hl)
theorem r_lshl {x : Int64} {y : Int32} (C : gC Z w cc own ret nL rm) (d : decode cc pc = .ok (.lshl, 1)) (k : WW Z post (pc + 1) ls (.long (x <<< (y.toInt64 &&& 63)) :: st) G) : WW Z post pc ls (.int y :: .long x :: st) G := by
  obtain ⟨Y, ⟨p, l, e, s, m, args, below, meth, c⟩, rm0, A⟩ := Z
  obtain ⟨⟨hx, hb⟩, -⟩ := C
  exact fun H locs la hP hS hl => lv_lshl hx hb d rfl (k H locs la hP hS hl)
theorem r_lushr {x : Int64} {y : Int32} (C : gC Z w cc own ret nL rm) (d : decode cc pc = .ok (.lushr, 1)) (k : WW Z post (pc + 1) ls (.long ((x.toUInt64 >>> (y.toInt64.toUInt64 &&& Int64.toUInt64 63)).toInt64) :: st) G) : WW Z post pc ls (.int y :: .long x :: st) G := by
  obtain ⟨Y, ⟨p, l, e, s, m, args, below, meth, c⟩, rm0, A⟩ := Z
  obtain ⟨⟨hx, hb⟩, -⟩ := C
  exact fun H locs la hP hS hl => lv_lushr hx hb d rfl (k H locs la hP hS hl)
theorem r_lcmp {x y : Int64} (C : gC Z w cc own ret nL rm) (d : decode cc pc = .ok (.lcmp, 1)) (k : WW Z post (pc + 1) ls (.int (lg_cmp x y) :: st) G) : WW Z post pc ls (.long y :: .long x :: st) G := by
  obtain ⟨Y, ⟨p, l, e, s, m, args, below, meth, c⟩, rm0, A⟩ := Z
  obtain ⟨⟨hx, hb⟩, -⟩ := C
  exact fun H locs la hP hS hl => W.lcmp hx hb d (k H locs la hP hS hl)
theorem r_i2l {x : Int32} (C : gC Z w cc own ret nL rm) (d : decode cc pc = .ok (.i2l, 1)) (k : WW Z post (pc + 1) ls (.long (x.toInt64) :: st) G) : WW Z post pc ls (.int x :: st) G := by
  obtain ⟨Y, ⟨p, l, e, s, m, args, below, meth, c⟩, rm0, A⟩ := Z
  obtain ⟨⟨hx, hb⟩, -⟩ := C
  exact fun H locs la hP hS hl => lv_i2l hx hb d rfl (k H locs la hP hS hl)
theorem r_l2i {x : Int64} (C : gC Z w cc own ret nL rm) (d : decode cc pc = .ok (.l2i, 1)) (k : WW Z post (pc + 1) ls (.int (x.toInt32) :: st) G) : WW Z post pc ls (.long x :: st) G := by
  obtain ⟨Y, ⟨p, l, e, s, m, args, below, meth, c⟩, rm0, A⟩ := Z
  obtain ⟨⟨hx, hb⟩, -⟩ := C
  exact fun H locs la hP hS hl => lv_l2i hx hb d rfl (k H locs la hP hS hl)
theorem r_i2b {x : Int32} (C : gC Z w cc own ret nL rm) (d : decode cc pc = .ok (.i2b, 1)) (k : WW Z post (pc + 1) ls (.int (x.toInt8.toInt32) :: st) G) : WW Z post pc ls (.int x :: st) G := by
  obtain ⟨Y, ⟨p, l, e, s, m, args, below, meth, c⟩, rm0, A⟩ := Z
  obtain ⟨⟨hx, hb⟩, -⟩ := C
  exact fun H locs la hP hS hl => lv_i2b hx hb d rfl (k H locs la hP hS hl)
theorem r_dup {a : Value} (C : gC Z w cc own ret nL rm) (d : decode cc pc = .ok (.dup, 1)) (ha : a.category = 1) (k : WW Z post (pc + 1) ls (a :: a :: st) G) : WW Z post pc ls (a :: st) G := by
  obtain ⟨Y, ⟨p, l, e, s, m, args, below, meth, c⟩, rm0, A⟩ := Z
  obtain ⟨⟨hx, hb⟩, -⟩ := C
  exact fun H locs la hP hS hl => lv_dup hx hb d ha (k H locs la hP hS hl)
theorem r_pop {a : Value} (C : gC Z w cc own ret nL rm) (d : decode cc pc = .ok (.pop, 1)) (ha : a.category = 1) (k : WW Z post (pc + 1) ls (st) G) : WW Z post pc ls (a :: st) G := by
  obtain ⟨Y, ⟨p, l, e, s, m, args, below, meth, c⟩, rm0, A⟩ := Z
  obtain ⟨⟨hx, hb⟩, -⟩ := C
  exact fun H locs la hP hS hl => lv_pop hx hb d ha (k H locs la hP hS hl)
theorem r_dup_x1 {a b : Value} (C : gC Z w cc own ret nL rm) (d : decode cc pc = .ok (.dup_x1, 1)) (ha : a.category = 1) (hb2 : b.category = 1) (k : WW Z post (pc + 1) ls (a :: b :: a :: st) G) : WW Z post pc ls (a :: b :: st) G := by
  obtain ⟨Y, ⟨p, l, e, s, m, args, below, meth, c⟩, rm0, A⟩ := Z
  obtain ⟨⟨hx, hb⟩, -⟩ := C
  exact fun H locs la hP hS hl => lv_dup_x1 hx hb d ha hb2 (k H locs la hP hS hl)
theorem r_dup2 {a b : Value} (C : gC Z w cc own ret nL rm) (d : decode cc pc = .ok (.dup2, 1)) (ha : a.category = 1) (hb2 : b.category = 1) (k : WW Z post (pc + 1) ls (a :: b :: a :: b :: st) G) : WW Z post pc ls (a :: b :: st) G := by
  obtain ⟨Y, ⟨p, l, e, s, m, args, below, meth, c⟩, rm0, A⟩ := Z
  obtain ⟨⟨hx, hb⟩, -⟩ := C
  exact fun H locs la hP hS hl => lv_dup2_11 hx hb d ha hb2 (k H locs la hP hS hl)
theorem r_dup2L {a : Value} (C : gC Z w cc own ret nL rm) (d : decode cc pc = .ok (.dup2, 1)) (ha : a.category = 2) (k : WW Z post (pc + 1) ls (a :: a :: st) G) : WW Z post pc ls (a :: st) G := by
  obtain ⟨Y, ⟨p, l, e, s, m, args, below, meth, c⟩, rm0, A⟩ := Z
  obtain ⟨⟨hx, hb⟩, -⟩ := C
  exact fun H locs la hP hS hl => lv_dup2_2 hx hb d ha (k H locs la hP hS hl)
theorem r_goto {off : Int} (tgt : Nat) (C : gC Z w cc own ret nL rm) (d : decode cc pc = .ok (.goto off, 3)) (ht : (pc : Int) + off = (tgt : Int)) (k : WW Z post tgt ls st G) : WW Z post pc ls st G := by
  obtain ⟨Y, ⟨p, l, e, s, m, args, below, meth, c⟩, rm0, A⟩ := Z
  obtain ⟨⟨hx, hb⟩, -⟩ := C
  exact fun H locs la hP hS hl => lv_goto hx hb d ht (k H locs la hP hS hl)
theorem r_if_eq {off : Int} {x : Int32} (tgt : Nat) (C : gC Z w cc own ret nL rm) (d : decode cc pc = .ok (.ifCond .eq off, 3)) (ht : (pc : Int) + off = (tgt : Int)) (kt : x = 0 → WW Z post tgt ls st G) (kf : ¬ x = 0 → WW Z post (pc + 3) ls st G) : WW Z post pc ls (.int x :: st) G := by
  obtain ⟨Y, ⟨p, l, e, s, m, args, below, meth, c⟩, rm0, A⟩ := Z
  obtain ⟨⟨hx, hb⟩, -⟩ := C
  exact fun H locs la hP hS hl => lv_if_eq hx hb d ht (fun h => kt (by first | exact h | simpa using h) H locs la hP hS hl) (fun h => kf (by first | exact h | exact Classical.not_not.mp h | simpa using h) H locs la hP hS hl)
theorem r_if_ne {off : Int} {x : Int32} (tgt : Nat) (C : gC Z w cc own ret nL rm) (d : decode cc pc = .ok (.ifCond .ne off, 3)) (ht : (pc : Int) + off = (tgt : Int)) (kt : ¬ x = 0 → WW Z post tgt ls st G) (kf : x = 0 → WW Z post (pc + 3) ls st G) : WW Z post pc ls (.int x :: st) G := by
  obtain ⟨Y, ⟨p, l, e, s, m, args, below, meth, c⟩, rm0, A⟩ := Z
  obtain ⟨⟨hx, hb⟩, -⟩ := C
  exact fun H locs la hP hS hl => lv_if_ne hx hb d ht (fun h => kt (by first | exact h | simpa using h) H locs la hP hS hl) (fun h => kf (by first | exact h | exact Classical.not_not.mp h | simpa using h) H locs la hP hS hl)
theorem r_if_lt {off : Int} {x : Int32} (tgt : Nat) (C : gC Z w cc own ret nL rm) (d : decode cc pc = .ok (.ifCond .lt off, 3)) (ht : (pc : Int) + off = (tgt : Int)) (kt : x < 0 → WW Z post tgt ls st G) (kf : ¬ x < 0 → WW Z post (pc + 3) ls st G) : WW Z post pc ls (.int x :: st) G := by
  obtain ⟨Y, ⟨p, l, e, s, m, args, below, meth, c⟩, rm0, A⟩ := Z
  obtain ⟨⟨hx, hb⟩, -⟩ := C
  exact fun H locs la hP hS hl => lv_if_lt hx hb d ht (fun h => kt (by first | exact h | simpa using h) H locs la hP hS hl) (fun h => kf (by first | exact h | exact Classical.not_not.mp h | simpa using h) H locs la hP hS hl)
theorem r_if_ge {off : Int} {x : Int32} (tgt : Nat) (C : gC Z w cc own ret nL rm) (d : decode cc pc = .ok (.ifCond .ge off, 3)) (ht : (pc : Int) + off = (tgt : Int)) (kt : 0 ≤ x → WW Z post tgt ls st G) (kf : ¬ 0 ≤ x → WW Z post (pc + 3) ls st G) : WW Z post pc ls (.int x :: st) G := by
  obtain ⟨Y, ⟨p, l, e, s, m, args, below, meth, c⟩, rm0, A⟩ := Z
  obtain ⟨⟨hx, hb⟩, -⟩ := C
  exact fun H locs la hP hS hl => lv_if_ge hx hb d ht (fun h => kt (by first | exact h | simpa using h) H locs la hP hS hl) (fun h => kf (by first | exact h | exact Classical.not_not.mp h | simpa using h) H locs la hP hS hl)
theorem r_if_gt {off : Int} {x : Int32} (tgt : Nat) (C : gC Z w cc own ret nL rm) (d : decode cc pc = .ok (.ifCond .gt off, 3)) (ht : (pc : Int) + off = (tgt : Int)) (kt : 0 < x → WW Z post tgt ls st G) (kf : ¬ 0 < x → WW Z post (pc + 3) ls st G) : WW Z post pc ls (.int x :: st) G := by
  obtain ⟨Y, ⟨p, l, e, s, m, args, below, meth, c⟩, rm0, A⟩ := Z
  obtain ⟨⟨hx, hb⟩, -⟩ := C
  exact fun H locs la hP hS hl => lv_if_gt hx hb d ht (fun h => kt (by first | exact h | simpa using h) H locs la hP hS hl) (fun h => kf (by first | exact h | exact Classical.not_not.mp h | simpa using h) H locs la hP hS hl)
theorem r_if_le {off : Int} {x : Int32} (tgt : Nat) (C : gC Z w cc own ret nL rm) (d : decode cc pc = .ok (.ifCond .le off, 3)) (ht : (pc : Int) + off = (tgt : Int)) (kt : x ≤ 0 → WW Z post tgt ls st G) (kf : ¬ x ≤ 0 → WW Z post (pc + 3) ls st G) : WW Z post pc ls (.int x :: st) G := by
  obtain ⟨Y, ⟨p, l, e, s, m, args, below, meth, c⟩, rm0, A⟩ := Z
  obtain ⟨⟨hx, hb⟩, -⟩ := C
  exact fun H locs la hP hS hl => lv_if_le hx hb d ht (fun h => kt (by first | exact h | simpa using h) H locs la hP hS hl) (fun h => kf (by first | exact h | exact Classical.not_not.mp h | simpa using h) H locs la hP hS hl)
theorem r_icmp_eq {off : Int} {x y : Int32} (tgt : Nat) (C : gC Z w cc own ret nL rm) (d : decode cc pc = .ok (.if_icmp .eq off, 3)) (ht : (pc : Int) + off = (tgt : Int)) (kt : x = y → WW Z post tgt ls st G) (kf : ¬ x = y → WW Z post (pc + 3) ls st G) : WW Z post pc ls (.int y :: .int x :: st) G := by
  obtain ⟨Y, ⟨p, l, e, s, m, args, below, meth, c⟩, rm0, A⟩ := Z
  obtain ⟨⟨hx, hb⟩, -⟩ := C
  exact fun H locs la hP hS hl => lv_icmp_eq hx hb d ht (fun h => kt (by first | exact h | simpa using h) H locs la hP hS hl) (fun h => kf (by first | exact h | exact Classical.not_not.mp h | simpa using h) H locs la hP hS hl)
theorem r_icmp_ne {off : Int} {x y : Int32} (tgt : Nat) (C : gC Z w cc own ret nL rm) (d : decode cc pc = .ok (.if_icmp .ne off, 3)) (ht : (pc : Int) + off = (tgt : Int)) (kt : ¬ x = y → WW Z post tgt ls st G) (kf : x = y → WW Z post (pc + 3) ls st G) : WW Z post pc ls (.int y :: .int x :: st) G := by
  obtain ⟨Y, ⟨p, l, e, s, m, args, below, meth, c⟩, rm0, A⟩ := Z
  obtain ⟨⟨hx, hb⟩, -⟩ := C
  exact fun H locs la hP hS hl => lv_icmp_ne hx hb d ht (fun h => kt (by first | exact h | simpa using h) H locs la hP hS hl) (fun h => kf (by first | exact h | exact Classical.not_not.mp h | simpa using h) H locs la hP hS hl)
theorem r_icmp_lt {off : Int} {x y : Int32} (tgt : Nat) (C : gC Z w cc own ret nL rm) (d : decode cc pc = .ok (.if_icmp .lt off, 3)) (ht : (pc : Int) + off = (tgt : Int)) (kt : x < y → WW Z post tgt ls st G) (kf : ¬ x < y → WW Z post (pc + 3) ls st G) : WW Z post pc ls (.int y :: .int x :: st) G := by
  obtain ⟨Y, ⟨p, l, e, s, m, args, below, meth, c⟩, rm0, A⟩ := Z
  obtain ⟨⟨hx, hb⟩, -⟩ := C
  exact fun H locs la hP hS hl => lv_icmp_lt hx hb d ht (fun h => kt (by first | exact h | simpa using h) H locs la hP hS hl) (fun h => kf (by first | exact h | exact Classical.not_not.mp h | simpa using h) H locs la hP hS hl)
theorem r_icmp_ge {off : Int} {x y : Int32} (tgt : Nat) (C : gC Z w cc own ret nL rm) (d : decode cc pc = .ok (.if_icmp .ge off, 3)) (ht : (pc : Int) + off = (tgt : Int)) (kt : y ≤ x → WW Z post tgt ls st G) (kf : ¬ y ≤ x → WW Z post (pc + 3) ls st G) : WW Z post pc ls (.int y :: .int x :: st) G := by
  obtain ⟨Y, ⟨p, l, e, s, m, args, below, meth, c⟩, rm0, A⟩ := Z
  obtain ⟨⟨hx, hb⟩, -⟩ := C
  exact fun H locs la hP hS hl => lv_icmp_ge hx hb d ht (fun h => kt (by first | exact h | simpa using h) H locs la hP hS hl) (fun h => kf (by first | exact h | exact Classical.not_not.mp h | simpa using h) H locs la hP hS hl)
theorem r_icmp_gt {off : Int} {x y : Int32} (tgt : Nat) (C : gC Z w cc own ret nL rm) (d : decode cc pc = .ok (.if_icmp .gt off, 3)) (ht : (pc : Int) + off = (tgt : Int)) (kt : y < x → WW Z post tgt ls st G) (kf : ¬ y < x → WW Z post (pc + 3) ls st G) : WW Z post pc ls (.int y :: .int x :: st) G := by
  obtain ⟨Y, ⟨p, l, e, s, m, args, below, meth, c⟩, rm0, A⟩ := Z
  obtain ⟨⟨hx, hb⟩, -⟩ := C
  exact fun H locs la hP hS hl => lv_icmp_gt hx hb d ht (fun h => kt (by first | exact h | simpa using h) H locs la hP hS hl) (fun h => kf (by first | exact h | exact Classical.not_not.mp h | simpa using h) H locs la hP hS hl)
theorem r_icmp_le {off : Int} {x y : Int32} (tgt : Nat) (C : gC Z w cc own ret nL rm) (d : decode cc pc = .ok (.if_icmp .le off, 3)) (ht : (pc : Int) + off = (tgt : Int)) (kt : x ≤ y → WW Z post tgt ls st G) (kf : ¬ x ≤ y → WW Z post (pc + 3) ls st G) : WW Z post pc ls (.int y :: .int x :: st) G := by
  obtain ⟨Y, ⟨p, l, e, s, m, args, below, meth, c⟩, rm0, A⟩ := Z
  obtain ⟨⟨hx, hb⟩, -⟩ := C
  exact fun H locs la hP hS hl => lv_icmp_le hx hb d ht (fun h => kt (by first | exact h | simpa using h) H locs la hP hS hl) (fun h => kf (by first | exact h | exact Classical.not_not.mp h | simpa using h) H locs la hP hS hl)
theorem r_tableOut {dflt lo hi : Int} {offs : Array Int} {len : Nat} {x : Int32} (tgt : Nat) (C : gC Z w cc own ret nL rm) (d : decode cc pc = .ok (.tableswitch dflt lo hi offs, len)) (h : x.toInt < lo ∨ hi < x.toInt) (ht : (pc : Int) + dflt = (tgt : Int)) (k : WW Z post tgt ls st G) : WW Z post pc ls (.int x :: st) G := by
  obtain ⟨Y, ⟨p, l, e, s, m, args, below, meth, c⟩, rm0, A⟩ := Z
  obtain ⟨⟨hx, hb⟩, -⟩ := C
  exact fun H locs la hP hS hl => lv_tableOut hx hb d h ht (k H locs la hP hS hl)
theorem r_tableIn {dflt lo hi : Int} {offs : Array Int} {len : Nat} {x : Int32} {off : Int} (tgt : Nat) (C : gC Z w cc own ret nL rm) (d : decode cc pc = .ok (.tableswitch dflt lo hi offs, len)) (h1 : ¬ x.toInt < lo) (h2 : ¬ hi < x.toInt) (ho : offs[(x.toInt - lo).toNat]? = some off) (ht : (pc : Int) + off = (tgt : Int)) (k : WW Z post tgt ls st G) : WW Z post pc ls (.int x :: st) G := by
  obtain ⟨Y, ⟨p, l, e, s, m, args, below, meth, c⟩, rm0, A⟩ := Z
  obtain ⟨⟨hx, hb⟩, -⟩ := C
  exact fun H locs la hP hS hl => lv_tableIn hx hb d h1 h2 ho ht (k H locs la hP hS hl)
theorem r_lookup {dflt : Int} {ps : Array (Int × Int)} {len : Nat} {x : Int32} {off : Int} (tgt : Nat) (C : gC Z w cc own ret nL rm) (d : decode cc pc = .ok (.lookupswitch dflt ps, len)) (hp : (ps.toList.zip (ps.toList.drop 1)).all (fun (a, next) => a.1 < next.1) = true) (ho : Op.lookupswitch.offset ps.toList dflt x.toInt = off) (ht : (pc : Int) + off = (tgt : Int)) (k : WW Z post tgt ls st G) : WW Z post pc ls (.int x :: st) G := by
  obtain ⟨Y, ⟨p, l, e, s, m, args, below, meth, c⟩, rm0, A⟩ := Z
  obtain ⟨⟨hx, hb⟩, -⟩ := C
  exact fun H locs la hP hS hl => lv_lookup hx hb d hp ho ht (k H locs la hP hS hl)
theorem r_iload0 {x : Int32} (C : gC Z w cc own ret nL rm) (d : decode cc pc = .ok (.iload_n 0, 1)) (k : WW Z post (pc + 1) (some (.int x) :: ls) (.int x :: st) G) : WW Z post pc (some (.int x) :: ls) st G := by
  obtain ⟨Y, ⟨p, l, e, s, m, args, below, meth, c⟩, rm0, A⟩ := Z
  obtain ⟨⟨hx, hb⟩, -⟩ := C
  exact fun H locs la hP hS hl => lv_iload_n hx hb d rfl (lh_at hl rfl) (k H locs la hP hS hl)
theorem r_istore0 {oo : Option Value} {x : Int32} (C : gC Z w cc own ret nL rm) (d : decode cc pc = .ok (.istore_n 0, 1)) (k : WW Z post (pc + 1) (some (.int x) :: ls) st G) : WW Z post pc (oo :: ls) (.int x :: st) G := by
  obtain ⟨Y, ⟨p, l, e, s, m, args, below, meth, c⟩, rm0, A⟩ := Z
  obtain ⟨⟨hx, hb⟩, -⟩ := C
  exact fun H locs la hP hS hl => lv_istore_n (i := 0) hx hb d rfl hl (by simp only [List.length_cons]; omega) rfl (fun la2 hl2 => k H locs la2 hP hS (lh_s1 (ls := oo :: ls) (i := 0) hl2 (fun j w hj hw => by omega)))
theorem r_iinc0 {x : Int32} {n : Int} (v : Int32) (C : gC Z w cc own ret nL rm) (d : decode cc pc = .ok (.iinc 0 n, 3)) (hv : Int32.ofInt n = v) (k : WW Z post (pc + 3) (some (.int (x + v)) :: ls) st G) : WW Z post pc (some (.int x) :: ls) st G := by
  obtain ⟨Y, ⟨p, l, e, s, m, args, below, meth, c⟩, rm0, A⟩ := Z
  obtain ⟨⟨hx, hb⟩, -⟩ := C
  intro H locs la hP hS hl
  obtain ⟨j, hj⟩ := List.getElem?_of_mem ((prs_mem (some (.int x) :: ls) 0 0 (.int x)).mpr ⟨Nat.zero_le _, rfl⟩)
  exact lv_iinc (i := 0) hx hb d hl hj (by rw [hv]) (by simp only [List.length_cons]; omega) rfl (fun la2 hl2 => k H locs la2 hP hS (lh_s1 (ls := some (.int x) :: ls) (i := 0) hl2 (fun j w hj hw => by omega)))
theorem r_iload1 {o0 : Option Value} {x : Int32} (C : gC Z w cc own ret nL rm) (d : decode cc pc = .ok (.iload_n 1, 1)) (k : WW Z post (pc + 1) (o0 :: some (.int x) :: ls) (.int x :: st) G) : WW Z post pc (o0 :: some (.int x) :: ls) st G := by
  obtain ⟨Y, ⟨p, l, e, s, m, args, below, meth, c⟩, rm0, A⟩ := Z
  obtain ⟨⟨hx, hb⟩, -⟩ := C
  exact fun H locs la hP hS hl => lv_iload_n hx hb d rfl (lh_at hl rfl) (k H locs la hP hS hl)
theorem r_istore1 {o0 oo : Option Value} {x : Int32} (C : gC Z w cc own ret nL rm) (d : decode cc pc = .ok (.istore_n 1, 1)) (h1 : c1 o0 = true) (k : WW Z post (pc + 1) (o0 :: some (.int x) :: ls) st G) : WW Z post pc (o0 :: oo :: ls) (.int x :: st) G := by
  obtain ⟨Y, ⟨p, l, e, s, m, args, below, meth, c⟩, rm0, A⟩ := Z
  obtain ⟨⟨hx, hb⟩, -⟩ := C
  exact fun H locs la hP hS hl => lv_istore_n (i := 1) hx hb d rfl hl (by simp only [List.length_cons]; omega) rfl (fun la2 hl2 => k H locs la2 hP hS (lh_s1 (ls := o0 :: oo :: ls) (i := 1) hl2 (fun j w hj hw => by
      obtain rfl : j = 0 := by omega
      cases hw; exact h1)))
theorem r_iinc1 {o0 : Option Value} {x : Int32} {n : Int} (v : Int32) (C : gC Z w cc own ret nL rm) (d : decode cc pc = .ok (.iinc 1 n, 3)) (hv : Int32.ofInt n = v) (h1 : c1 o0 = true) (k : WW Z post (pc + 3) (o0 :: some (.int (x + v)) :: ls) st G) : WW Z post pc (o0 :: some (.int x) :: ls) st G := by
  obtain ⟨Y, ⟨p, l, e, s, m, args, below, meth, c⟩, rm0, A⟩ := Z
  obtain ⟨⟨hx, hb⟩, -⟩ := C
  intro H locs la hP hS hl
  obtain ⟨j, hj⟩ := List.getElem?_of_mem ((prs_mem (o0 :: some (.int x) :: ls) 0 1 (.int x)).mpr ⟨Nat.zero_le _, rfl⟩)
  exact lv_iinc (i := 1) hx hb d hl hj (by rw [hv]) (by simp only [List.length_cons]; omega) rfl (fun la2 hl2 => k H locs la2 hP hS (lh_s1 (ls := o0 :: some (.int x) :: ls) (i := 1) hl2 (fun j w hj hw => by
      obtain rfl : j = 0 := by omega
      cases hw; exact h1)))
theorem r_iload2 {o0 o1 : Option Value} {x : Int32} (C : gC Z w cc own ret nL rm) (d : decode cc pc = .ok (.iload_n 2, 1)) (k : WW Z post (pc + 1) (o0 :: o1 :: some (.int x) :: ls) (.int x :: st) G) : WW Z post pc (o0 :: o1 :: some (.int x) :: ls) st G := by
  obtain ⟨Y, ⟨p, l, e, s, m, args, below, meth, c⟩, rm0, A⟩ := Z
  obtain ⟨⟨hx, hb⟩, -⟩ := C
  exact fun H locs la hP hS hl => lv_iload_n hx hb d rfl (lh_at hl rfl) (k H locs la hP hS hl)
theorem r_istore2 {o0 o1 oo : Option Value} {x : Int32} (C : gC Z w cc own ret nL rm) (d : decode cc pc = .ok (.istore_n 2, 1)) (h1 : c1 o1 = true) (k : WW Z post (pc + 1) (o0 :: o1 :: some (.int x) :: ls) st G) : WW Z post pc (o0 :: o1 :: oo :: ls) (.int x :: st) G := by
  obtain ⟨Y, ⟨p, l, e, s, m, args, below, meth, c⟩, rm0, A⟩ := Z
  obtain ⟨⟨hx, hb⟩, -⟩ := C
  exact fun H locs la hP hS hl => lv_istore_n (i := 2) hx hb d rfl hl (by simp only [List.length_cons]; omega) rfl (fun la2 hl2 => k H locs la2 hP hS (lh_s1 (ls := o0 :: o1 :: oo :: ls) (i := 2) hl2 (fun j w hj hw => by
      obtain rfl : j = 1 := by omega
      cases hw; exact h1)))
theorem r_iinc2 {o0 o1 : Option Value} {x : Int32} {n : Int} (v : Int32) (C : gC Z w cc own ret nL rm) (d : decode cc pc = .ok (.iinc 2 n, 3)) (hv : Int32.ofInt n = v) (h1 : c1 o1 = true) (k : WW Z post (pc + 3) (o0 :: o1 :: some (.int (x + v)) :: ls) st G) : WW Z post pc (o0 :: o1 :: some (.int x) :: ls) st G := by
  obtain ⟨Y, ⟨p, l, e, s, m, args, below, meth, c⟩, rm0, A⟩ := Z
  obtain ⟨⟨hx, hb⟩, -⟩ := C
  intro H locs la hP hS hl
  obtain ⟨j, hj⟩ := List.getElem?_of_mem ((prs_mem (o0 :: o1 :: some (.int x) :: ls) 0 2 (.int x)).mpr ⟨Nat.zero_le _, rfl⟩)
  exact lv_iinc (i := 2) hx hb d hl hj (by rw [hv]) (by simp only [List.length_cons]; omega) rfl (fun la2 hl2 => k H locs la2 hP hS (lh_s1 (ls := o0 :: o1 :: some (.int x) :: ls) (i := 2) hl2 (fun j w hj hw => by
      obtain rfl : j = 1 := by omega
      cases hw; exact h1)))
theorem r_iload3 {o0 o1 o2 : Option Value} {x : Int32} (C : gC Z w cc own ret nL rm) (d : decode cc pc = .ok (.iload_n 3, 1)) (k : WW Z post (pc + 1) (o0 :: o1 :: o2 :: some (.int x) :: ls) (.int x :: st) G) : WW Z post pc (o0 :: o1 :: o2 :: some (.int x) :: ls) st G := by
  obtain ⟨Y, ⟨p, l, e, s, m, args, below, meth, c⟩, rm0, A⟩ := Z
  obtain ⟨⟨hx, hb⟩, -⟩ := C
  exact fun H locs la hP hS hl => lv_iload_n hx hb d rfl (lh_at hl rfl) (k H locs la hP hS hl)
theorem r_istore3 {o0 o1 o2 oo : Option Value} {x : Int32} (C : gC Z w cc own ret nL rm) (d : decode cc pc = .ok (.istore_n 3, 1)) (h1 : c1 o2 = true) (k : WW Z post (pc + 1) (o0 :: o1 :: o2 :: some (.int x) :: ls) st G) : WW Z post pc (o0 :: o1 :: o2 :: oo :: ls) (.int x :: st) G := by
  obtain ⟨Y, ⟨p, l, e, s, m, args, below, meth, c⟩, rm0, A⟩ := Z
  obtain ⟨⟨hx, hb⟩, -⟩ := C
  exact fun H locs la hP hS hl => lv_istore_n (i := 3) hx hb d rfl hl (by simp only [List.length_cons]; omega) rfl (fun la2 hl2 => k H locs la2 hP hS (lh_s1 (ls := o0 :: o1 :: o2 :: oo :: ls) (i := 3) hl2 (fun j w hj hw => by
      obtain rfl : j = 2 := by omega
      cases hw; exact h1)))
theorem r_iinc3 {o0 o1 o2 : Option Value} {x : Int32} {n : Int} (v : Int32) (C : gC Z w cc own ret nL rm) (d : decode cc pc = .ok (.iinc 3 n, 3)) (hv : Int32.ofInt n = v) (h1 : c1 o2 = true) (k : WW Z post (pc + 3) (o0 :: o1 :: o2 :: some (.int (x + v)) :: ls) st G) : WW Z post pc (o0 :: o1 :: o2 :: some (.int x) :: ls) st G := by
  obtain ⟨Y, ⟨p, l, e, s, m, args, below, meth, c⟩, rm0, A⟩ := Z
  obtain ⟨⟨hx, hb⟩, -⟩ := C
  intro H locs la hP hS hl
  obtain ⟨j, hj⟩ := List.getElem?_of_mem ((prs_mem (o0 :: o1 :: o2 :: some (.int x) :: ls) 0 3 (.int x)).mpr ⟨Nat.zero_le _, rfl⟩)
  exact lv_iinc (i := 3) hx hb d hl hj (by rw [hv]) (by simp only [List.length_cons]; omega) rfl (fun la2 hl2 => k H locs la2 hP hS (lh_s1 (ls := o0 :: o1 :: o2 :: some (.int x) :: ls) (i := 3) hl2 (fun j w hj hw => by
      obtain rfl : j = 2 := by omega
      cases hw; exact h1)))
theorem r_iload4 {o0 o1 o2 o3 : Option Value} {x : Int32} (C : gC Z w cc own ret nL rm) (d : decode cc pc = .ok (.iload 4, 2)) (k : WW Z post (pc + 2) (o0 :: o1 :: o2 :: o3 :: some (.int x) :: ls) (.int x :: st) G) : WW Z post pc (o0 :: o1 :: o2 :: o3 :: some (.int x) :: ls) st G := by
  obtain ⟨Y, ⟨p, l, e, s, m, args, below, meth, c⟩, rm0, A⟩ := Z
  obtain ⟨⟨hx, hb⟩, -⟩ := C
  exact fun H locs la hP hS hl => lv_iload hx hb d (lh_at hl rfl) (k H locs la hP hS hl)
theorem r_istore4 {o0 o1 o2 o3 oo : Option Value} {x : Int32} (C : gC Z w cc own ret nL rm) (d : decode cc pc = .ok (.istore 4, 2)) (h1 : c1 o3 = true) (k : WW Z post (pc + 2) (o0 :: o1 :: o2 :: o3 :: some (.int x) :: ls) st G) : WW Z post pc (o0 :: o1 :: o2 :: o3 :: oo :: ls) (.int x :: st) G := by
  obtain ⟨Y, ⟨p, l, e, s, m, args, below, meth, c⟩, rm0, A⟩ := Z
  obtain ⟨⟨hx, hb⟩, -⟩ := C
  exact fun H locs la hP hS hl => lv_istore (i := 4) hx hb d hl (by simp only [List.length_cons]; omega) rfl (fun la2 hl2 => k H locs la2 hP hS (lh_s1 (ls := o0 :: o1 :: o2 :: o3 :: oo :: ls) (i := 4) hl2 (fun j w hj hw => by
      obtain rfl : j = 3 := by omega
      cases hw; exact h1)))
theorem r_iinc4 {o0 o1 o2 o3 : Option Value} {x : Int32} {n : Int} (v : Int32) (C : gC Z w cc own ret nL rm) (d : decode cc pc = .ok (.iinc 4 n, 3)) (hv : Int32.ofInt n = v) (h1 : c1 o3 = true) (k : WW Z post (pc + 3) (o0 :: o1 :: o2 :: o3 :: some (.int (x + v)) :: ls) st G) : WW Z post pc (o0 :: o1 :: o2 :: o3 :: some (.int x) :: ls) st G := by
  obtain ⟨Y, ⟨p, l, e, s, m, args, below, meth, c⟩, rm0, A⟩ := Z
  obtain ⟨⟨hx, hb⟩, -⟩ := C
  intro H locs la hP hS hl
  obtain ⟨j, hj⟩ := List.getElem?_of_mem ((prs_mem (o0 :: o1 :: o2 :: o3 :: some (.int x) :: ls) 0 4 (.int x)).mpr ⟨Nat.zero_le _, rfl⟩)
  exact lv_iinc (i := 4) hx hb d hl hj (by rw [hv]) (by simp only [List.length_cons]; omega) rfl (fun la2 hl2 => k H locs la2 hP hS (lh_s1 (ls := o0 :: o1 :: o2 :: o3 :: some (.int x) :: ls) (i := 4) hl2 (fun j w hj hw => by
      obtain rfl : j = 3 := by omega
      cases hw; exact h1)))
theorem r_iload5 {o0 o1 o2 o3 o4 : Option Value} {x : Int32} (C : gC Z w cc own ret nL rm) (d : decode cc pc = .ok (.iload 5, 2)) (k : WW Z post (pc + 2) (o0 :: o1 :: o2 :: o3 :: o4 :: some (.int x) :: ls) (.int x :: st) G) : WW Z post pc (o0 :: o1 :: o2 :: o3 :: o4 :: some (.int x) :: ls) st G := by
  obtain ⟨Y, ⟨p, l, e, s, m, args, below, meth, c⟩, rm0, A⟩ := Z
  obtain ⟨⟨hx, hb⟩, -⟩ := C
  exact fun H locs la hP hS hl => lv_iload hx hb d (lh_at hl rfl) (k H locs la hP hS hl)
theorem r_istore5 {o0 o1 o2 o3 o4 oo : Option Value} {x : Int32} (C : gC Z w cc own ret nL rm) (d : decode cc pc = .ok (.istore 5, 2)) (h1 : c1 o4 = true) (k : WW Z post (pc + 2) (o0 :: o1 :: o2 :: o3 :: o4 :: some (.int x) :: ls) st G) : WW Z post pc (o0 :: o1 :: o2 :: o3 :: o4 :: oo :: ls) (.int x :: st) G := by
  obtain ⟨Y, ⟨p, l, e, s, m, args, below, meth, c⟩, rm0, A⟩ := Z
  obtain ⟨⟨hx, hb⟩, -⟩ := C
  exact fun H locs la hP hS hl => lv_istore (i := 5) hx hb d hl (by simp only [List.length_cons]; omega) rfl (fun la2 hl2 => k H locs la2 hP hS (lh_s1 (ls := o0 :: o1 :: o2 :: o3 :: o4 :: oo :: ls) (i := 5) hl2 (fun j w hj hw => by
      obtain rfl : j = 4 := by omega
      cases hw; exact h1)))
theorem r_iinc5 {o0 o1 o2 o3 o4 : Option Value} {x : Int32} {n : Int} (v : Int32) (C : gC Z w cc own ret nL rm) (d : decode cc pc = .ok (.iinc 5 n, 3)) (hv : Int32.ofInt n = v) (h1 : c1 o4 = true) (k : WW Z post (pc + 3) (o0 :: o1 :: o2 :: o3 :: o4 :: some (.int (x + v)) :: ls) st G) : WW Z post pc (o0 :: o1 :: o2 :: o3 :: o4 :: some (.int x) :: ls) st G := by
  obtain ⟨Y, ⟨p, l, e, s, m, args, below, meth, c⟩, rm0, A⟩ := Z
  obtain ⟨⟨hx, hb⟩, -⟩ := C
  intro H locs la hP hS hl
  obtain ⟨j, hj⟩ := List.getElem?_of_mem ((prs_mem (o0 :: o1 :: o2 :: o3 :: o4 :: some (.int x) :: ls) 0 5 (.int x)).mpr ⟨Nat.zero_le _, rfl⟩)
  exact lv_iinc (i := 5) hx hb d hl hj (by rw [hv]) (by simp only [List.length_cons]; omega) rfl (fun la2 hl2 => k H locs la2 hP hS (lh_s1 (ls := o0 :: o1 :: o2 :: o3 :: o4 :: some (.int x) :: ls) (i := 5) hl2 (fun j w hj hw => by
      obtain rfl : j = 4 := by omega
      cases hw; exact h1)))
theorem r_iload6 {o0 o1 o2 o3 o4 o5 : Option Value} {x : Int32} (C : gC Z w cc own ret nL rm) (d : decode cc pc = .ok (.iload 6, 2)) (k : WW Z post (pc + 2) (o0 :: o1 :: o2 :: o3 :: o4 :: o5 :: some (.int x) :: ls) (.int x :: st) G) : WW Z post pc (o0 :: o1 :: o2 :: o3 :: o4 :: o5 :: some (.int x) :: ls) st G := by
  obtain ⟨Y, ⟨p, l, e, s, m, args, below, meth, c⟩, rm0, A⟩ := Z
  obtain ⟨⟨hx, hb⟩, -⟩ := C
  exact fun H locs la hP hS hl => lv_iload hx hb d (lh_at hl rfl) (k H locs la hP hS hl)
theorem r_istore6 {o0 o1 o2 o3 o4 o5 oo : Option Value} {x : Int32} (C : gC Z w cc own ret nL rm) (d : decode cc pc = .ok (.istore 6, 2)) (h1 : c1 o5 = true) (k : WW Z post (pc + 2) (o0 :: o1 :: o2 :: o3 :: o4 :: o5 :: some (.int x) :: ls) st G) : WW Z post pc (o0 :: o1 :: o2 :: o3 :: o4 :: o5 :: oo :: ls) (.int x :: st) G := by
  obtain ⟨Y, ⟨p, l, e, s, m, args, below, meth, c⟩, rm0, A⟩ := Z
  obtain ⟨⟨hx, hb⟩, -⟩ := C
  exact fun H locs la hP hS hl => lv_istore (i := 6) hx hb d hl (by simp only [List.length_cons]; omega) rfl (fun la2 hl2 => k H locs la2 hP hS (lh_s1 (ls := o0 :: o1 :: o2 :: o3 :: o4 :: o5 :: oo :: ls) (i := 6) hl2 (fun j w hj hw => by
      obtain rfl : j = 5 := by omega
      cases hw; exact h1)))
theorem r_iinc6 {o0 o1 o2 o3 o4 o5 : Option Value} {x : Int32} {n : Int} (v : Int32) (C : gC Z w cc own ret nL rm) (d : decode cc pc = .ok (.iinc 6 n, 3)) (hv : Int32.ofInt n = v) (h1 : c1 o5 = true) (k : WW Z post (pc + 3) (o0 :: o1 :: o2 :: o3 :: o4 :: o5 :: some (.int (x + v)) :: ls) st G) : WW Z post pc (o0 :: o1 :: o2 :: o3 :: o4 :: o5 :: some (.int x) :: ls) st G := by
  obtain ⟨Y, ⟨p, l, e, s, m, args, below, meth, c⟩, rm0, A⟩ := Z
  obtain ⟨⟨hx, hb⟩, -⟩ := C
  intro H locs la hP hS hl
  obtain ⟨j, hj⟩ := List.getElem?_of_mem ((prs_mem (o0 :: o1 :: o2 :: o3 :: o4 :: o5 :: some (.int x) :: ls) 0 6 (.int x)).mpr ⟨Nat.zero_le _, rfl⟩)
  exact lv_iinc (i := 6) hx hb d hl hj (by rw [hv]) (by simp only [List.length_cons]; omega) rfl (fun la2 hl2 => k H locs la2 hP hS (lh_s1 (ls := o0 :: o1 :: o2 :: o3 :: o4 :: o5 :: some (.int x) :: ls) (i := 6) hl2 (fun j w hj hw => by
      obtain rfl : j = 5 := by omega
      cases hw; exact h1)))
theorem r_iload7 {o0 o1 o2 o3 o4 o5 o6 : Option Value} {x : Int32} (C : gC Z w cc own ret nL rm) (d : decode cc pc = .ok (.iload 7, 2)) (k : WW Z post (pc + 2) (o0 :: o1 :: o2 :: o3 :: o4 :: o5 :: o6 :: some (.int x) :: ls) (.int x :: st) G) : WW Z post pc (o0 :: o1 :: o2 :: o3 :: o4 :: o5 :: o6 :: some (.int x) :: ls) st G := by
  obtain ⟨Y, ⟨p, l, e, s, m, args, below, meth, c⟩, rm0, A⟩ := Z
  obtain ⟨⟨hx, hb⟩, -⟩ := C
  exact fun H locs la hP hS hl => lv_iload hx hb d (lh_at hl rfl) (k H locs la hP hS hl)
theorem r_istore7 {o0 o1 o2 o3 o4 o5 o6 oo : Option Value} {x : Int32} (C : gC Z w cc own ret nL rm) (d : decode cc pc = .ok (.istore 7, 2)) (h1 : c1 o6 = true) (k : WW Z post (pc + 2) (o0 :: o1 :: o2 :: o3 :: o4 :: o5 :: o6 :: some (.int x) :: ls) st G) : WW Z post pc (o0 :: o1 :: o2 :: o3 :: o4 :: o5 :: o6 :: oo :: ls) (.int x :: st) G := by
  obtain ⟨Y, ⟨p, l, e, s, m, args, below, meth, c⟩, rm0, A⟩ := Z
  obtain ⟨⟨hx, hb⟩, -⟩ := C
  exact fun H locs la hP hS hl => lv_istore (i := 7) hx hb d hl (by simp only [List.length_cons]; omega) rfl (fun la2 hl2 => k H locs la2 hP hS (lh_s1 (ls := o0 :: o1 :: o2 :: o3 :: o4 :: o5 :: o6 :: oo :: ls) (i := 7) hl2 (fun j w hj hw => by
      obtain rfl : j = 6 := by omega
      cases hw; exact h1)))
theorem r_iinc7 {o0 o1 o2 o3 o4 o5 o6 : Option Value} {x : Int32} {n : Int} (v : Int32) (C : gC Z w cc own ret nL rm) (d : decode cc pc = .ok (.iinc 7 n, 3)) (hv : Int32.ofInt n = v) (h1 : c1 o6 = true) (k : WW Z post (pc + 3) (o0 :: o1 :: o2 :: o3 :: o4 :: o5 :: o6 :: some (.int (x + v)) :: ls) st G) : WW Z post pc (o0 :: o1 :: o2 :: o3 :: o4 :: o5 :: o6 :: some (.int x) :: ls) st G := by
  obtain ⟨Y, ⟨p, l, e, s, m, args, below, meth, c⟩, rm0, A⟩ := Z
  obtain ⟨⟨hx, hb⟩, -⟩ := C
  intro H locs la hP hS hl
  obtain ⟨j, hj⟩ := List.getElem?_of_mem ((prs_mem (o0 :: o1 :: o2 :: o3 :: o4 :: o5 :: o6 :: some (.int x) :: ls) 0 7 (.int x)).mpr ⟨Nat.zero_le _, rfl⟩)
  exact lv_iinc (i := 7) hx hb d hl hj (by rw [hv]) (by simp only [List.length_cons]; omega) rfl (fun la2 hl2 => k H locs la2 hP hS (lh_s1 (ls := o0 :: o1 :: o2 :: o3 :: o4 :: o5 :: o6 :: some (.int x) :: ls) (i := 7) hl2 (fun j w hj hw => by
      obtain rfl : j = 6 := by omega
      cases hw; exact h1)))
theorem r_iload8 {o0 o1 o2 o3 o4 o5 o6 o7 : Option Value} {x : Int32} (C : gC Z w cc own ret nL rm) (d : decode cc pc = .ok (.iload 8, 2)) (k : WW Z post (pc + 2) (o0 :: o1 :: o2 :: o3 :: o4 :: o5 :: o6 :: o7 :: some (.int x) :: ls) (.int x :: st) G) : WW Z post pc (o0 :: o1 :: o2 :: o3 :: o4 :: o5 :: o6 :: o7 :: some (.int x) :: ls) st G := by
  obtain ⟨Y, ⟨p, l, e, s, m, args, below, meth, c⟩, rm0, A⟩ := Z
  obtain ⟨⟨hx, hb⟩, -⟩ := C
  exact fun H locs la hP hS hl => lv_iload hx hb d (lh_at hl rfl) (k H locs la hP hS hl)
theorem r_istore8 {o0 o1 o2 o3 o4 o5 o6 o7 oo : Option Value} {x : Int32} (C : gC Z w cc own ret nL rm) (d : decode cc pc = .ok (.istore 8, 2)) (h1 : c1 o7 = true) (k : WW Z post (pc + 2) (o0 :: o1 :: o2 :: o3 :: o4 :: o5 :: o6 :: o7 :: some (.int x) :: ls) st G) : WW Z post pc (o0 :: o1 :: o2 :: o3 :: o4 :: o5 :: o6 :: o7 :: oo :: ls) (.int x :: st) G := by
  obtain ⟨Y, ⟨p, l, e, s, m, args, below, meth, c⟩, rm0, A⟩ := Z
  obtain ⟨⟨hx, hb⟩, -⟩ := C
  exact fun H locs la hP hS hl => lv_istore (i := 8) hx hb d hl (by simp only [List.length_cons]; omega) rfl (fun la2 hl2 => k H locs la2 hP hS (lh_s1 (ls := o0 :: o1 :: o2 :: o3 :: o4 :: o5 :: o6 :: o7 :: oo :: ls) (i := 8) hl2 (fun j w hj hw => by
      obtain rfl : j = 7 := by omega
      cases hw; exact h1)))
theorem r_iinc8 {o0 o1 o2 o3 o4 o5 o6 o7 : Option Value} {x : Int32} {n : Int} (v : Int32) (C : gC Z w cc own ret nL rm) (d : decode cc pc = .ok (.iinc 8 n, 3)) (hv : Int32.ofInt n = v) (h1 : c1 o7 = true) (k : WW Z post (pc + 3) (o0 :: o1 :: o2 :: o3 :: o4 :: o5 :: o6 :: o7 :: some (.int (x + v)) :: ls) st G) : WW Z post pc (o0 :: o1 :: o2 :: o3 :: o4 :: o5 :: o6 :: o7 :: some (.int x) :: ls) st G := by
  obtain ⟨Y, ⟨p, l, e, s, m, args, below, meth, c⟩, rm0, A⟩ := Z
  obtain ⟨⟨hx, hb⟩, -⟩ := C
  intro H locs la hP hS hl
  obtain ⟨j, hj⟩ := List.getElem?_of_mem ((prs_mem (o0 :: o1 :: o2 :: o3 :: o4 :: o5 :: o6 :: o7 :: some (.int x) :: ls) 0 8 (.int x)).mpr ⟨Nat.zero_le _, rfl⟩)
  exact lv_iinc (i := 8) hx hb d hl hj (by rw [hv]) (by simp only [List.length_cons]; omega) rfl (fun la2 hl2 => k H locs la2 hP hS (lh_s1 (ls := o0 :: o1 :: o2 :: o3 :: o4 :: o5 :: o6 :: o7 :: some (.int x) :: ls) (i := 8) hl2 (fun j w hj hw => by
      obtain rfl : j = 7 := by omega
      cases hw; exact h1)))
theorem r_iload9 {o0 o1 o2 o3 o4 o5 o6 o7 o8 : Option Value} {x : Int32} (C : gC Z w cc own ret nL rm) (d : decode cc pc = .ok (.iload 9, 2)) (k : WW Z post (pc + 2) (o0 :: o1 :: o2 :: o3 :: o4 :: o5 :: o6 :: o7 :: o8 :: some (.int x) :: ls) (.int x :: st) G) : WW Z post pc (o0 :: o1 :: o2 :: o3 :: o4 :: o5 :: o6 :: o7 :: o8 :: some (.int x) :: ls) st G := by
  obtain ⟨Y, ⟨p, l, e, s, m, args, below, meth, c⟩, rm0, A⟩ := Z
  obtain ⟨⟨hx, hb⟩, -⟩ := C
  exact fun H locs la hP hS hl => lv_iload hx hb d (lh_at hl rfl) (k H locs la hP hS hl)
theorem r_istore9 {o0 o1 o2 o3 o4 o5 o6 o7 o8 oo : Option Value} {x : Int32} (C : gC Z w cc own ret nL rm) (d : decode cc pc = .ok (.istore 9, 2)) (h1 : c1 o8 = true) (k : WW Z post (pc + 2) (o0 :: o1 :: o2 :: o3 :: o4 :: o5 :: o6 :: o7 :: o8 :: some (.int x) :: ls) st G) : WW Z post pc (o0 :: o1 :: o2 :: o3 :: o4 :: o5 :: o6 :: o7 :: o8 :: oo :: ls) (.int x :: st) G := by
  obtain ⟨Y, ⟨p, l, e, s, m, args, below, meth, c⟩, rm0, A⟩ := Z
  obtain ⟨⟨hx, hb⟩, -⟩ := C
  exact fun H locs la hP hS hl => lv_istore (i := 9) hx hb d hl (by simp only [List.length_cons]; omega) rfl (fun la2 hl2 => k H locs la2 hP hS (lh_s1 (ls := o0 :: o1 :: o2 :: o3 :: o4 :: o5 :: o6 :: o7 :: o8 :: oo :: ls) (i := 9) hl2 (fun j w hj hw => by
      obtain rfl : j = 8 := by omega
      cases hw; exact h1)))
theorem r_iinc9 {o0 o1 o2 o3 o4 o5 o6 o7 o8 : Option Value} {x : Int32} {n : Int} (v : Int32) (C : gC Z w cc own ret nL rm) (d : decode cc pc = .ok (.iinc 9 n, 3)) (hv : Int32.ofInt n = v) (h1 : c1 o8 = true) (k : WW Z post (pc + 3) (o0 :: o1 :: o2 :: o3 :: o4 :: o5 :: o6 :: o7 :: o8 :: some (.int (x + v)) :: ls) st G) : WW Z post pc (o0 :: o1 :: o2 :: o3 :: o4 :: o5 :: o6 :: o7 :: o8 :: some (.int x) :: ls) st G := by
  obtain ⟨Y, ⟨p, l, e, s, m, args, below, meth, c⟩, rm0, A⟩ := Z
  obtain ⟨⟨hx, hb⟩, -⟩ := C
  intro H locs la hP hS hl
  obtain ⟨j, hj⟩ := List.getElem?_of_mem ((prs_mem (o0 :: o1 :: o2 :: o3 :: o4 :: o5 :: o6 :: o7 :: o8 :: some (.int x) :: ls) 0 9 (.int x)).mpr ⟨Nat.zero_le _, rfl⟩)
  exact lv_iinc (i := 9) hx hb d hl hj (by rw [hv]) (by simp only [List.length_cons]; omega) rfl (fun la2 hl2 => k H locs la2 hP hS (lh_s1 (ls := o0 :: o1 :: o2 :: o3 :: o4 :: o5 :: o6 :: o7 :: o8 :: some (.int x) :: ls) (i := 9) hl2 (fun j w hj hw => by
      obtain rfl : j = 8 := by omega
      cases hw; exact h1)))
theorem r_iload10 {o0 o1 o2 o3 o4 o5 o6 o7 o8 o9 : Option Value} {x : Int32} (C : gC Z w cc own ret nL rm) (d : decode cc pc = .ok (.iload 10, 2)) (k : WW Z post (pc + 2) (o0 :: o1 :: o2 :: o3 :: o4 :: o5 :: o6 :: o7 :: o8 :: o9 :: some (.int x) :: ls) (.int x :: st) G) : WW Z post pc (o0 :: o1 :: o2 :: o3 :: o4 :: o5 :: o6 :: o7 :: o8 :: o9 :: some (.int x) :: ls) st G := by
  obtain ⟨Y, ⟨p, l, e, s, m, args, below, meth, c⟩, rm0, A⟩ := Z
  obtain ⟨⟨hx, hb⟩, -⟩ := C
  exact fun H locs la hP hS hl => lv_iload hx hb d (lh_at hl rfl) (k H locs la hP hS hl)
theorem r_istore10 {o0 o1 o2 o3 o4 o5 o6 o7 o8 o9 oo : Option Value} {x : Int32} (C : gC Z w cc own ret nL rm) (d : decode cc pc = .ok (.istore 10, 2)) (h1 : c1 o9 = true) (k : WW Z post (pc + 2) (o0 :: o1 :: o2 :: o3 :: o4 :: o5 :: o6 :: o7 :: o8 :: o9 :: some (.int x) :: ls) st G) : WW Z post pc (o0 :: o1 :: o2 :: o3 :: o4 :: o5 :: o6 :: o7 :: o8 :: o9 :: oo :: ls) (.int x :: st) G := by
  obtain ⟨Y, ⟨p, l, e, s, m, args, below, meth, c⟩, rm0, A⟩ := Z
  obtain ⟨⟨hx, hb⟩, -⟩ := C
  exact fun H locs la hP hS hl => lv_istore (i := 10) hx hb d hl (by simp only [List.length_cons]; omega) rfl (fun la2 hl2 => k H locs la2 hP hS (lh_s1 (ls := o0 :: o1 :: o2 :: o3 :: o4 :: o5 :: o6 :: o7 :: o8 :: o9 :: oo :: ls) (i := 10) hl2 (fun j w hj hw => by
      obtain rfl : j = 9 := by omega
      cases hw; exact h1)))
theorem r_iinc10 {o0 o1 o2 o3 o4 o5 o6 o7 o8 o9 : Option Value} {x : Int32} {n : Int} (v : Int32) (C : gC Z w cc own ret nL rm) (d : decode cc pc = .ok (.iinc 10 n, 3)) (hv : Int32.ofInt n = v) (h1 : c1 o9 = true) (k : WW Z post (pc + 3) (o0 :: o1 :: o2 :: o3 :: o4 :: o5 :: o6 :: o7 :: o8 :: o9 :: some (.int (x + v)) :: ls) st G) : WW Z post pc (o0 :: o1 :: o2 :: o3 :: o4 :: o5 :: o6 :: o7 :: o8 :: o9 :: some (.int x) :: ls) st G := by
  obtain ⟨Y, ⟨p, l, e, s, m, args, below, meth, c⟩, rm0, A⟩ := Z
  obtain ⟨⟨hx, hb⟩, -⟩ := C
  intro H locs la hP hS hl
  obtain ⟨j, hj⟩ := List.getElem?_of_mem ((prs_mem (o0 :: o1 :: o2 :: o3 :: o4 :: o5 :: o6 :: o7 :: o8 :: o9 :: some (.int x) :: ls) 0 10 (.int x)).mpr ⟨Nat.zero_le _, rfl⟩)
  exact lv_iinc (i := 10) hx hb d hl hj (by rw [hv]) (by simp only [List.length_cons]; omega) rfl (fun la2 hl2 => k H locs la2 hP hS (lh_s1 (ls := o0 :: o1 :: o2 :: o3 :: o4 :: o5 :: o6 :: o7 :: o8 :: o9 :: some (.int x) :: ls) (i := 10) hl2 (fun j w hj hw => by
      obtain rfl : j = 9 := by omega
      cases hw; exact h1)))
theorem r_iload11 {o0 o1 o2 o3 o4 o5 o6 o7 o8 o9 o10 : Option Value} {x : Int32} (C : gC Z w cc own ret nL rm) (d : decode cc pc = .ok (.iload 11, 2)) (k : WW Z post (pc + 2) (o0 :: o1 :: o2 :: o3 :: o4 :: o5 :: o6 :: o7 :: o8 :: o9 :: o10 :: some (.int x) :: ls) (.int x :: st) G) : WW Z post pc (o0 :: o1 :: o2 :: o3 :: o4 :: o5 :: o6 :: o7 :: o8 :: o9 :: o10 :: some (.int x) :: ls) st G := by
  obtain ⟨Y, ⟨p, l, e, s, m, args, below, meth, c⟩, rm0, A⟩ := Z
  obtain ⟨⟨hx, hb⟩, -⟩ := C
  exact fun H locs la hP hS hl => lv_iload hx hb d (lh_at hl rfl) (k H locs la hP hS hl)
theorem r_istore11 {o0 o1 o2 o3 o4 o5 o6 o7 o8 o9 o10 oo : Option Value} {x : Int32} (C : gC Z w cc own ret nL rm) (d : decode cc pc = .ok (.istore 11, 2)) (h1 : c1 o10 = true) (k : WW Z post (pc + 2) (o0 :: o1 :: o2 :: o3 :: o4 :: o5 :: o6 :: o7 :: o8 :: o9 :: o10 :: some (.int x) :: ls) st G) : WW Z post pc (o0 :: o1 :: o2 :: o3 :: o4 :: o5 :: o6 :: o7 :: o8 :: o9 :: o10 :: oo :: ls) (.int x :: st) G := by
  obtain ⟨Y, ⟨p, l, e, s, m, args, below, meth, c⟩, rm0, A⟩ := Z
  obtain ⟨⟨hx, hb⟩, -⟩ := C
  exact fun H locs la hP hS hl => lv_istore (i := 11) hx hb d hl (by simp only [List.length_cons]; omega) rfl (fun la2 hl2 => k H locs la2 hP hS (lh_s1 (ls := o0 :: o1 :: o2 :: o3 :: o4 :: o5 :: o6 :: o7 :: o8 :: o9 :: o10 :: oo :: ls) (i := 11) hl2 (fun j w hj hw => by
      obtain rfl : j = 10 := by omega
      cases hw; exact h1)))
theorem r_iinc11 {o0 o1 o2 o3 o4 o5 o6 o7 o8 o9 o10 : Option Value} {x : Int32} {n : Int} (v : Int32) (C : gC Z w cc own ret nL rm) (d : decode cc pc = .ok (.iinc 11 n, 3)) (hv : Int32.ofInt n = v) (h1 : c1 o10 = true) (k : WW Z post (pc + 3) (o0 :: o1 :: o2 :: o3 :: o4 :: o5 :: o6 :: o7 :: o8 :: o9 :: o10 :: some (.int (x + v)) :: ls) st G) : WW Z post pc (o0 :: o1 :: o2 :: o3 :: o4 :: o5 :: o6 :: o7 :: o8 :: o9 :: o10 :: some (.int x) :: ls) st G := by
  obtain ⟨Y, ⟨p, l, e, s, m, args, below, meth, c⟩, rm0, A⟩ := Z
  obtain ⟨⟨hx, hb⟩, -⟩ := C
  intro H locs la hP hS hl
  obtain ⟨j, hj⟩ := List.getElem?_of_mem ((prs_mem (o0 :: o1 :: o2 :: o3 :: o4 :: o5 :: o6 :: o7 :: o8 :: o9 :: o10 :: some (.int x) :: ls) 0 11 (.int x)).mpr ⟨Nat.zero_le _, rfl⟩)
  exact lv_iinc (i := 11) hx hb d hl hj (by rw [hv]) (by simp only [List.length_cons]; omega) rfl (fun la2 hl2 => k H locs la2 hP hS (lh_s1 (ls := o0 :: o1 :: o2 :: o3 :: o4 :: o5 :: o6 :: o7 :: o8 :: o9 :: o10 :: some (.int x) :: ls) (i := 11) hl2 (fun j w hj hw => by
      obtain rfl : j = 10 := by omega
      cases hw; exact h1)))
theorem r_iload12 {o0 o1 o2 o3 o4 o5 o6 o7 o8 o9 o10 o11 : Option Value} {x : Int32} (C : gC Z w cc own ret nL rm) (d : decode cc pc = .ok (.iload 12, 2)) (k : WW Z post (pc + 2) (o0 :: o1 :: o2 :: o3 :: o4 :: o5 :: o6 :: o7 :: o8 :: o9 :: o10 :: o11 :: some (.int x) :: ls) (.int x :: st) G) : WW Z post pc (o0 :: o1 :: o2 :: o3 :: o4 :: o5 :: o6 :: o7 :: o8 :: o9 :: o10 :: o11 :: some (.int x) :: ls) st G := by
  obtain ⟨Y, ⟨p, l, e, s, m, args, below, meth, c⟩, rm0, A⟩ := Z
  obtain ⟨⟨hx, hb⟩, -⟩ := C
  exact fun H locs la hP hS hl => lv_iload hx hb d (lh_at hl rfl) (k H locs la hP hS hl)
theorem r_istore12 {o0 o1 o2 o3 o4 o5 o6 o7 o8 o9 o10 o11 oo : Option Value} {x : Int32} (C : gC Z w cc own ret nL rm) (d : decode cc pc = .ok (.istore 12, 2)) (h1 : c1 o11 = true) (k : WW Z post (pc + 2) (o0 :: o1 :: o2 :: o3 :: o4 :: o5 :: o6 :: o7 :: o8 :: o9 :: o10 :: o11 :: some (.int x) :: ls) st G) : WW Z post pc (o0 :: o1 :: o2 :: o3 :: o4 :: o5 :: o6 :: o7 :: o8 :: o9 :: o10 :: o11 :: oo :: ls) (.int x :: st) G := by
  obtain ⟨Y, ⟨p, l, e, s, m, args, below, meth, c⟩, rm0, A⟩ := Z
  obtain ⟨⟨hx, hb⟩, -⟩ := C
  exact fun H locs la hP hS hl => lv_istore (i := 12) hx hb d hl (by simp only [List.length_cons]; omega) rfl (fun la2 hl2 => k H locs la2 hP hS (lh_s1 (ls := o0 :: o1 :: o2 :: o3 :: o4 :: o5 :: o6 :: o7 :: o8 :: o9 :: o10 :: o11 :: oo :: ls) (i := 12) hl2 (fun j w hj hw => by
      obtain rfl : j = 11 := by omega
      cases hw; exact h1)))
theorem r_iinc12 {o0 o1 o2 o3 o4 o5 o6 o7 o8 o9 o10 o11 : Option Value} {x : Int32} {n : Int} (v : Int32) (C : gC Z w cc own ret nL rm) (d : decode cc pc = .ok (.iinc 12 n, 3)) (hv : Int32.ofInt n = v) (h1 : c1 o11 = true) (k : WW Z post (pc + 3) (o0 :: o1 :: o2 :: o3 :: o4 :: o5 :: o6 :: o7 :: o8 :: o9 :: o10 :: o11 :: some (.int (x + v)) :: ls) st G) : WW Z post pc (o0 :: o1 :: o2 :: o3 :: o4 :: o5 :: o6 :: o7 :: o8 :: o9 :: o10 :: o11 :: some (.int x) :: ls) st G := by
  obtain ⟨Y, ⟨p, l, e, s, m, args, below, meth, c⟩, rm0, A⟩ := Z
  obtain ⟨⟨hx, hb⟩, -⟩ := C
  intro H locs la hP hS hl
  obtain ⟨j, hj⟩ := List.getElem?_of_mem ((prs_mem (o0 :: o1 :: o2 :: o3 :: o4 :: o5 :: o6 :: o7 :: o8 :: o9 :: o10 :: o11 :: some (.int x) :: ls) 0 12 (.int x)).mpr ⟨Nat.zero_le _, rfl⟩)
  exact lv_iinc (i := 12) hx hb d hl hj (by rw [hv]) (by simp only [List.length_cons]; omega) rfl (fun la2 hl2 => k H locs la2 hP hS (lh_s1 (ls := o0 :: o1 :: o2 :: o3 :: o4 :: o5 :: o6 :: o7 :: o8 :: o9 :: o10 :: o11 :: some (.int x) :: ls) (i := 12) hl2 (fun j w hj hw => by
      obtain rfl : j = 11 := by omega
      cases hw; exact h1)))
theorem r_iload13 {o0 o1 o2 o3 o4 o5 o6 o7 o8 o9 o10 o11 o12 : Option Value} {x : Int32} (C : gC Z w cc own ret nL rm) (d : decode cc pc = .ok (.iload 13, 2)) (k : WW Z post (pc + 2) (o0 :: o1 :: o2 :: o3 :: o4 :: o5 :: o6 :: o7 :: o8 :: o9 :: o10 :: o11 :: o12 :: some (.int x) :: ls) (.int x :: st) G) : WW Z post pc (o0 :: o1 :: o2 :: o3 :: o4 :: o5 :: o6 :: o7 :: o8 :: o9 :: o10 :: o11 :: o12 :: some (.int x) :: ls) st G := by
  obtain ⟨Y, ⟨p, l, e, s, m, args, below, meth, c⟩, rm0, A⟩ := Z
  obtain ⟨⟨hx, hb⟩, -⟩ := C
  exact fun H locs la hP hS hl => lv_iload hx hb d (lh_at hl rfl) (k H locs la hP hS hl)
theorem r_istore13 {o0 o1 o2 o3 o4 o5 o6 o7 o8 o9 o10 o11 o12 oo : Option Value} {x : Int32} (C : gC Z w cc own ret nL rm) (d : decode cc pc = .ok (.istore 13, 2)) (h1 : c1 o12 = true) (k : WW Z post (pc + 2) (o0 :: o1 :: o2 :: o3 :: o4 :: o5 :: o6 :: o7 :: o8 :: o9 :: o10 :: o11 :: o12 :: some (.int x) :: ls) st G) : WW Z post pc (o0 :: o1 :: o2 :: o3 :: o4 :: o5 :: o6 :: o7 :: o8 :: o9 :: o10 :: o11 :: o12 :: oo :: ls) (.int x :: st) G := by
  obtain ⟨Y, ⟨p, l, e, s, m, args, below, meth, c⟩, rm0, A⟩ := Z
  obtain ⟨⟨hx, hb⟩, -⟩ := C
  exact fun H locs la hP hS hl => lv_istore (i := 13) hx hb d hl (by simp only [List.length_cons]; omega) rfl (fun la2 hl2 => k H locs la2 hP hS (lh_s1 (ls := o0 :: o1 :: o2 :: o3 :: o4 :: o5 :: o6 :: o7 :: o8 :: o9 :: o10 :: o11 :: o12 :: oo :: ls) (i := 13) hl2 (fun j w hj hw => by
      obtain rfl : j = 12 := by omega
      cases hw; exact h1)))
theorem r_iinc13 {o0 o1 o2 o3 o4 o5 o6 o7 o8 o9 o10 o11 o12 : Option Value} {x : Int32} {n : Int} (v : Int32) (C : gC Z w cc own ret nL rm) (d : decode cc pc = .ok (.iinc 13 n, 3)) (hv : Int32.ofInt n = v) (h1 : c1 o12 = true) (k : WW Z post (pc + 3) (o0 :: o1 :: o2 :: o3 :: o4 :: o5 :: o6 :: o7 :: o8 :: o9 :: o10 :: o11 :: o12 :: some (.int (x + v)) :: ls) st G) : WW Z post pc (o0 :: o1 :: o2 :: o3 :: o4 :: o5 :: o6 :: o7 :: o8 :: o9 :: o10 :: o11 :: o12 :: some (.int x) :: ls) st G := by
  obtain ⟨Y, ⟨p, l, e, s, m, args, below, meth, c⟩, rm0, A⟩ := Z
  obtain ⟨⟨hx, hb⟩, -⟩ := C
  intro H locs la hP hS hl
  obtain ⟨j, hj⟩ := List.getElem?_of_mem ((prs_mem (o0 :: o1 :: o2 :: o3 :: o4 :: o5 :: o6 :: o7 :: o8 :: o9 :: o10 :: o11 :: o12 :: some (.int x) :: ls) 0 13 (.int x)).mpr ⟨Nat.zero_le _, rfl⟩)
  exact lv_iinc (i := 13) hx hb d hl hj (by rw [hv]) (by simp only [List.length_cons]; omega) rfl (fun la2 hl2 => k H locs la2 hP hS (lh_s1 (ls := o0 :: o1 :: o2 :: o3 :: o4 :: o5 :: o6 :: o7 :: o8 :: o9 :: o10 :: o11 :: o12 :: some (.int x) :: ls) (i := 13) hl2 (fun j w hj hw => by
      obtain rfl : j = 12 := by omega
      cases hw; exact h1)))
theorem r_lload0 {x : Int64} (C : gC Z w cc own ret nL rm) (d : decode cc pc = .ok (.lload_n 0, 1)) (k : WW Z post (pc + 1) (some (.long x) :: ls) (.long x :: st) G) : WW Z post pc (some (.long x) :: ls) st G := by
  obtain ⟨Y, ⟨p, l, e, s, m, args, below, meth, c⟩, rm0, A⟩ := Z
  obtain ⟨⟨hx, hb⟩, -⟩ := C
  exact fun H locs la hP hS hl => lv_lload_n hx hb d rfl (lh_at hl rfl) (k H locs la hP hS hl)
theorem r_lstore0 {oo ox : Option Value} {x : Int64} (C : gC Z w cc own ret nL rm) (d : decode cc pc = .ok (.lstore_n 0, 1)) (k : WW Z post (pc + 1) (some (.long x) :: none :: ls) st G) : WW Z post pc (oo :: ox :: ls) (.long x :: st) G := by
  obtain ⟨Y, ⟨p, l, e, s, m, args, below, meth, c⟩, rm0, A⟩ := Z
  obtain ⟨⟨hx, hb⟩, -⟩ := C
  exact fun H locs la hP hS hl => lv_lstore_n (i := 0) hx hb d rfl hl (by simp only [List.length_cons]; omega) rfl (fun la2 hl2 => k H locs la2 hP hS (lh_s2 (ls := oo :: ox :: ls) (i := 0) hl2 (fun j w hj hw => by omega)))
theorem r_lload1 {o0 : Option Value} {x : Int64} (C : gC Z w cc own ret nL rm) (d : decode cc pc = .ok (.lload_n 1, 1)) (k : WW Z post (pc + 1) (o0 :: some (.long x) :: ls) (.long x :: st) G) : WW Z post pc (o0 :: some (.long x) :: ls) st G := by
  obtain ⟨Y, ⟨p, l, e, s, m, args, below, meth, c⟩, rm0, A⟩ := Z
  obtain ⟨⟨hx, hb⟩, -⟩ := C
  exact fun H locs la hP hS hl => lv_lload_n hx hb d rfl (lh_at hl rfl) (k H locs la hP hS hl)
theorem r_lstore1 {o0 oo ox : Option Value} {x : Int64} (C : gC Z w cc own ret nL rm) (d : decode cc pc = .ok (.lstore_n 1, 1)) (h1 : c1 o0 = true) (k : WW Z post (pc + 1) (o0 :: some (.long x) :: none :: ls) st G) : WW Z post pc (o0 :: oo :: ox :: ls) (.long x :: st) G := by
  obtain ⟨Y, ⟨p, l, e, s, m, args, below, meth, c⟩, rm0, A⟩ := Z
  obtain ⟨⟨hx, hb⟩, -⟩ := C
  exact fun H locs la hP hS hl => lv_lstore_n (i := 1) hx hb d rfl hl (by simp only [List.length_cons]; omega) rfl (fun la2 hl2 => k H locs la2 hP hS (lh_s2 (ls := o0 :: oo :: ox :: ls) (i := 1) hl2 (fun j w hj hw => by
      obtain rfl : j = 0 := by omega
      cases hw; exact h1)))
theorem r_lload2 {o0 o1 : Option Value} {x : Int64} (C : gC Z w cc own ret nL rm) (d : decode cc pc = .ok (.lload_n 2, 1)) (k : WW Z post (pc + 1) (o0 :: o1 :: some (.long x) :: ls) (.long x :: st) G) : WW Z post pc (o0 :: o1 :: some (.long x) :: ls) st G := by
  obtain ⟨Y, ⟨p, l, e, s, m, args, below, meth, c⟩, rm0, A⟩ := Z
  obtain ⟨⟨hx, hb⟩, -⟩ := C
  exact fun H locs la hP hS hl => lv_lload_n hx hb d rfl (lh_at hl rfl) (k H locs la hP hS hl)
theorem r_lstore2 {o0 o1 oo ox : Option Value} {x : Int64} (C : gC Z w cc own ret nL rm) (d : decode cc pc = .ok (.lstore_n 2, 1)) (h1 : c1 o1 = true) (k : WW Z post (pc + 1) (o0 :: o1 :: some (.long x) :: none :: ls) st G) : WW Z post pc (o0 :: o1 :: oo :: ox :: ls) (.long x :: st) G := by
  obtain ⟨Y, ⟨p, l, e, s, m, args, below, meth, c⟩, rm0, A⟩ := Z
  obtain ⟨⟨hx, hb⟩, -⟩ := C
  exact fun H locs la hP hS hl => lv_lstore_n (i := 2) hx hb d rfl hl (by simp only [List.length_cons]; omega) rfl (fun la2 hl2 => k H locs la2 hP hS (lh_s2 (ls := o0 :: o1 :: oo :: ox :: ls) (i := 2) hl2 (fun j w hj hw => by
      obtain rfl : j = 1 := by omega
      cases hw; exact h1)))
theorem r_lload3 {o0 o1 o2 : Option Value} {x : Int64} (C : gC Z w cc own ret nL rm) (d : decode cc pc = .ok (.lload_n 3, 1)) (k : WW Z post (pc + 1) (o0 :: o1 :: o2 :: some (.long x) :: ls) (.long x :: st) G) : WW Z post pc (o0 :: o1 :: o2 :: some (.long x) :: ls) st G := by
  obtain ⟨Y, ⟨p, l, e, s, m, args, below, meth, c⟩, rm0, A⟩ := Z
  obtain ⟨⟨hx, hb⟩, -⟩ := C
  exact fun H locs la hP hS hl => lv_lload_n hx hb d rfl (lh_at hl rfl) (k H locs la hP hS hl)
theorem r_lstore3 {o0 o1 o2 oo ox : Option Value} {x : Int64} (C : gC Z w cc own ret nL rm) (d : decode cc pc = .ok (.lstore_n 3, 1)) (h1 : c1 o2 = true) (k : WW Z post (pc + 1) (o0 :: o1 :: o2 :: some (.long x) :: none :: ls) st G) : WW Z post pc (o0 :: o1 :: o2 :: oo :: ox :: ls) (.long x :: st) G := by
  obtain ⟨Y, ⟨p, l, e, s, m, args, below, meth, c⟩, rm0, A⟩ := Z
  obtain ⟨⟨hx, hb⟩, -⟩ := C
  exact fun H locs la hP hS hl => lv_lstore_n (i := 3) hx hb d rfl hl (by simp only [List.length_cons]; omega) rfl (fun la2 hl2 => k H locs la2 hP hS (lh_s2 (ls := o0 :: o1 :: o2 :: oo :: ox :: ls) (i := 3) hl2 (fun j w hj hw => by
      obtain rfl : j = 2 := by omega
      cases hw; exact h1)))
theorem r_lload4 {o0 o1 o2 o3 : Option Value} {x : Int64} (C : gC Z w cc own ret nL rm) (d : decode cc pc = .ok (.lload 4, 2)) (k : WW Z post (pc + 2) (o0 :: o1 :: o2 :: o3 :: some (.long x) :: ls) (.long x :: st) G) : WW Z post pc (o0 :: o1 :: o2 :: o3 :: some (.long x) :: ls) st G := by
  obtain ⟨Y, ⟨p, l, e, s, m, args, below, meth, c⟩, rm0, A⟩ := Z
  obtain ⟨⟨hx, hb⟩, -⟩ := C
  exact fun H locs la hP hS hl => lv_lload hx hb d (lh_at hl rfl) (k H locs la hP hS hl)
theorem r_lstore4 {o0 o1 o2 o3 oo ox : Option Value} {x : Int64} (C : gC Z w cc own ret nL rm) (d : decode cc pc = .ok (.lstore 4, 2)) (h1 : c1 o3 = true) (k : WW Z post (pc + 2) (o0 :: o1 :: o2 :: o3 :: some (.long x) :: none :: ls) st G) : WW Z post pc (o0 :: o1 :: o2 :: o3 :: oo :: ox :: ls) (.long x :: st) G := by
  obtain ⟨Y, ⟨p, l, e, s, m, args, below, meth, c⟩, rm0, A⟩ := Z
  obtain ⟨⟨hx, hb⟩, -⟩ := C
  exact fun H locs la hP hS hl => lv_lstore (i := 4) hx hb d hl (by simp only [List.length_cons]; omega) rfl (fun la2 hl2 => k H locs la2 hP hS (lh_s2 (ls := o0 :: o1 :: o2 :: o3 :: oo :: ox :: ls) (i := 4) hl2 (fun j w hj hw => by
      obtain rfl : j = 3 := by omega
      cases hw; exact h1)))
theorem r_lload5 {o0 o1 o2 o3 o4 : Option Value} {x : Int64} (C : gC Z w cc own ret nL rm) (d : decode cc pc = .ok (.lload 5, 2)) (k : WW Z post (pc + 2) (o0 :: o1 :: o2 :: o3 :: o4 :: some (.long x) :: ls) (.long x :: st) G) : WW Z post pc (o0 :: o1 :: o2 :: o3 :: o4 :: some (.long x) :: ls) st G := by
  obtain ⟨Y, ⟨p, l, e, s, m, args, below, meth, c⟩, rm0, A⟩ := Z
  obtain ⟨⟨hx, hb⟩, -⟩ := C
  exact fun H locs la hP hS hl => lv_lload hx hb d (lh_at hl rfl) (k H locs la hP hS hl)
theorem r_lstore5 {o0 o1 o2 o3 o4 oo ox : Option Value} {x : Int64} (C : gC Z w cc own ret nL rm) (d : decode cc pc = .ok (.lstore 5, 2)) (h1 : c1 o4 = true) (k : WW Z post (pc + 2) (o0 :: o1 :: o2 :: o3 :: o4 :: some (.long x) :: none :: ls) st G) : WW Z post pc (o0 :: o1 :: o2 :: o3 :: o4 :: oo :: ox :: ls) (.long x :: st) G := by
  obtain ⟨Y, ⟨p, l, e, s, m, args, below, meth, c⟩, rm0, A⟩ := Z
  obtain ⟨⟨hx, hb⟩, -⟩ := C
  exact fun H locs la hP hS hl => lv_lstore (i := 5) hx hb d hl (by simp only [List.length_cons]; omega) rfl (fun la2 hl2 => k H locs la2 hP hS (lh_s2 (ls := o0 :: o1 :: o2 :: o3 :: o4 :: oo :: ox :: ls) (i := 5) hl2 (fun j w hj hw => by
      obtain rfl : j = 4 := by omega
      cases hw; exact h1)))
theorem r_lload6 {o0 o1 o2 o3 o4 o5 : Option Value} {x : Int64} (C : gC Z w cc own ret nL rm) (d : decode cc pc = .ok (.lload 6, 2)) (k : WW Z post (pc + 2) (o0 :: o1 :: o2 :: o3 :: o4 :: o5 :: some (.long x) :: ls) (.long x :: st) G) : WW Z post pc (o0 :: o1 :: o2 :: o3 :: o4 :: o5 :: some (.long x) :: ls) st G := by
  obtain ⟨Y, ⟨p, l, e, s, m, args, below, meth, c⟩, rm0, A⟩ := Z
  obtain ⟨⟨hx, hb⟩, -⟩ := C
  exact fun H locs la hP hS hl => lv_lload hx hb d (lh_at hl rfl) (k H locs la hP hS hl)
theorem r_lstore6 {o0 o1 o2 o3 o4 o5 oo ox : Option Value} {x : Int64} (C : gC Z w cc own ret nL rm) (d : decode cc pc = .ok (.lstore 6, 2)) (h1 : c1 o5 = true) (k : WW Z post (pc + 2) (o0 :: o1 :: o2 :: o3 :: o4 :: o5 :: some (.long x) :: none :: ls) st G) : WW Z post pc (o0 :: o1 :: o2 :: o3 :: o4 :: o5 :: oo :: ox :: ls) (.long x :: st) G := by
  obtain ⟨Y, ⟨p, l, e, s, m, args, below, meth, c⟩, rm0, A⟩ := Z
  obtain ⟨⟨hx, hb⟩, -⟩ := C
  exact fun H locs la hP hS hl => lv_lstore (i := 6) hx hb d hl (by simp only [List.length_cons]; omega) rfl (fun la2 hl2 => k H locs la2 hP hS (lh_s2 (ls := o0 :: o1 :: o2 :: o3 :: o4 :: o5 :: oo :: ox :: ls) (i := 6) hl2 (fun j w hj hw => by
      obtain rfl : j = 5 := by omega
      cases hw; exact h1)))
theorem r_lload7 {o0 o1 o2 o3 o4 o5 o6 : Option Value} {x : Int64} (C : gC Z w cc own ret nL rm) (d : decode cc pc = .ok (.lload 7, 2)) (k : WW Z post (pc + 2) (o0 :: o1 :: o2 :: o3 :: o4 :: o5 :: o6 :: some (.long x) :: ls) (.long x :: st) G) : WW Z post pc (o0 :: o1 :: o2 :: o3 :: o4 :: o5 :: o6 :: some (.long x) :: ls) st G := by
  obtain ⟨Y, ⟨p, l, e, s, m, args, below, meth, c⟩, rm0, A⟩ := Z
  obtain ⟨⟨hx, hb⟩, -⟩ := C
  exact fun H locs la hP hS hl => lv_lload hx hb d (lh_at hl rfl) (k H locs la hP hS hl)
theorem r_lstore7 {o0 o1 o2 o3 o4 o5 o6 oo ox : Option Value} {x : Int64} (C : gC Z w cc own ret nL rm) (d : decode cc pc = .ok (.lstore 7, 2)) (h1 : c1 o6 = true) (k : WW Z post (pc + 2) (o0 :: o1 :: o2 :: o3 :: o4 :: o5 :: o6 :: some (.long x) :: none :: ls) st G) : WW Z post pc (o0 :: o1 :: o2 :: o3 :: o4 :: o5 :: o6 :: oo :: ox :: ls) (.long x :: st) G := by
  obtain ⟨Y, ⟨p, l, e, s, m, args, below, meth, c⟩, rm0, A⟩ := Z
  obtain ⟨⟨hx, hb⟩, -⟩ := C
  exact fun H locs la hP hS hl => lv_lstore (i := 7) hx hb d hl (by simp only [List.length_cons]; omega) rfl (fun la2 hl2 => k H locs la2 hP hS (lh_s2 (ls := o0 :: o1 :: o2 :: o3 :: o4 :: o5 :: o6 :: oo :: ox :: ls) (i := 7) hl2 (fun j w hj hw => by
      obtain rfl : j = 6 := by omega
      cases hw; exact h1)))
theorem r_lload8 {o0 o1 o2 o3 o4 o5 o6 o7 : Option Value} {x : Int64} (C : gC Z w cc own ret nL rm) (d : decode cc pc = .ok (.lload 8, 2)) (k : WW Z post (pc + 2) (o0 :: o1 :: o2 :: o3 :: o4 :: o5 :: o6 :: o7 :: some (.long x) :: ls) (.long x :: st) G) : WW Z post pc (o0 :: o1 :: o2 :: o3 :: o4 :: o5 :: o6 :: o7 :: some (.long x) :: ls) st G := by
  obtain ⟨Y, ⟨p, l, e, s, m, args, below, meth, c⟩, rm0, A⟩ := Z
  obtain ⟨⟨hx, hb⟩, -⟩ := C
  exact fun H locs la hP hS hl => lv_lload hx hb d (lh_at hl rfl) (k H locs la hP hS hl)
theorem r_lstore8 {o0 o1 o2 o3 o4 o5 o6 o7 oo ox : Option Value} {x : Int64} (C : gC Z w cc own ret nL rm) (d : decode cc pc = .ok (.lstore 8, 2)) (h1 : c1 o7 = true) (k : WW Z post (pc + 2) (o0 :: o1 :: o2 :: o3 :: o4 :: o5 :: o6 :: o7 :: some (.long x) :: none :: ls) st G) : WW Z post pc (o0 :: o1 :: o2 :: o3 :: o4 :: o5 :: o6 :: o7 :: oo :: ox :: ls) (.long x :: st) G := by
  obtain ⟨Y, ⟨p, l, e, s, m, args, below, meth, c⟩, rm0, A⟩ := Z
  obtain ⟨⟨hx, hb⟩, -⟩ := C
  exact fun H locs la hP hS hl => lv_lstore (i := 8) hx hb d hl (by simp only [List.length_cons]; omega) rfl (fun la2 hl2 => k H locs la2 hP hS (lh_s2 (ls := o0 :: o1 :: o2 :: o3 :: o4 :: o5 :: o6 :: o7 :: oo :: ox :: ls) (i := 8) hl2 (fun j w hj hw => by
      obtain rfl : j = 7 := by omega
      cases hw; exact h1)))
theorem r_lload9 {o0 o1 o2 o3 o4 o5 o6 o7 o8 : Option Value} {x : Int64} (C : gC Z w cc own ret nL rm) (d : decode cc pc = .ok (.lload 9, 2)) (k : WW Z post (pc + 2) (o0 :: o1 :: o2 :: o3 :: o4 :: o5 :: o6 :: o7 :: o8 :: some (.long x) :: ls) (.long x :: st) G) : WW Z post pc (o0 :: o1 :: o2 :: o3 :: o4 :: o5 :: o6 :: o7 :: o8 :: some (.long x) :: ls) st G := by
  obtain ⟨Y, ⟨p, l, e, s, m, args, below, meth, c⟩, rm0, A⟩ := Z
  obtain ⟨⟨hx, hb⟩, -⟩ := C
  exact fun H locs la hP hS hl => lv_lload hx hb d (lh_at hl rfl) (k H locs la hP hS hl)
theorem r_lstore9 {o0 o1 o2 o3 o4 o5 o6 o7 o8 oo ox : Option Value} {x : Int64} (C : gC Z w cc own ret nL rm) (d : decode cc pc = .ok (.lstore 9, 2)) (h1 : c1 o8 = true) (k : WW Z post (pc + 2) (o0 :: o1 :: o2 :: o3 :: o4 :: o5 :: o6 :: o7 :: o8 :: some (.long x) :: none :: ls) st G) : WW Z post pc (o0 :: o1 :: o2 :: o3 :: o4 :: o5 :: o6 :: o7 :: o8 :: oo :: ox :: ls) (.long x :: st) G := by
  obtain ⟨Y, ⟨p, l, e, s, m, args, below, meth, c⟩, rm0, A⟩ := Z
  obtain ⟨⟨hx, hb⟩, -⟩ := C
  exact fun H locs la hP hS hl => lv_lstore (i := 9) hx hb d hl (by simp only [List.length_cons]; omega) rfl (fun la2 hl2 => k H locs la2 hP hS (lh_s2 (ls := o0 :: o1 :: o2 :: o3 :: o4 :: o5 :: o6 :: o7 :: o8 :: oo :: ox :: ls) (i := 9) hl2 (fun j w hj hw => by
      obtain rfl : j = 8 := by omega
      cases hw; exact h1)))
theorem r_lload10 {o0 o1 o2 o3 o4 o5 o6 o7 o8 o9 : Option Value} {x : Int64} (C : gC Z w cc own ret nL rm) (d : decode cc pc = .ok (.lload 10, 2)) (k : WW Z post (pc + 2) (o0 :: o1 :: o2 :: o3 :: o4 :: o5 :: o6 :: o7 :: o8 :: o9 :: some (.long x) :: ls) (.long x :: st) G) : WW Z post pc (o0 :: o1 :: o2 :: o3 :: o4 :: o5 :: o6 :: o7 :: o8 :: o9 :: some (.long x) :: ls) st G := by
  obtain ⟨Y, ⟨p, l, e, s, m, args, below, meth, c⟩, rm0, A⟩ := Z
  obtain ⟨⟨hx, hb⟩, -⟩ := C
  exact fun H locs la hP hS hl => lv_lload hx hb d (lh_at hl rfl) (k H locs la hP hS hl)
theorem r_lstore10 {o0 o1 o2 o3 o4 o5 o6 o7 o8 o9 oo ox : Option Value} {x : Int64} (C : gC Z w cc own ret nL rm) (d : decode cc pc = .ok (.lstore 10, 2)) (h1 : c1 o9 = true) (k : WW Z post (pc + 2) (o0 :: o1 :: o2 :: o3 :: o4 :: o5 :: o6 :: o7 :: o8 :: o9 :: some (.long x) :: none :: ls) st G) : WW Z post pc (o0 :: o1 :: o2 :: o3 :: o4 :: o5 :: o6 :: o7 :: o8 :: o9 :: oo :: ox :: ls) (.long x :: st) G := by
  obtain ⟨Y, ⟨p, l, e, s, m, args, below, meth, c⟩, rm0, A⟩ := Z
  obtain ⟨⟨hx, hb⟩, -⟩ := C
  exact fun H locs la hP hS hl => lv_lstore (i := 10) hx hb d hl (by simp only [List.length_cons]; omega) rfl (fun la2 hl2 => k H locs la2 hP hS (lh_s2 (ls := o0 :: o1 :: o2 :: o3 :: o4 :: o5 :: o6 :: o7 :: o8 :: o9 :: oo :: ox :: ls) (i := 10) hl2 (fun j w hj hw => by
      obtain rfl : j = 9 := by omega
      cases hw; exact h1)))
theorem r_lload11 {o0 o1 o2 o3 o4 o5 o6 o7 o8 o9 o10 : Option Value} {x : Int64} (C : gC Z w cc own ret nL rm) (d : decode cc pc = .ok (.lload 11, 2)) (k : WW Z post (pc + 2) (o0 :: o1 :: o2 :: o3 :: o4 :: o5 :: o6 :: o7 :: o8 :: o9 :: o10 :: some (.long x) :: ls) (.long x :: st) G) : WW Z post pc (o0 :: o1 :: o2 :: o3 :: o4 :: o5 :: o6 :: o7 :: o8 :: o9 :: o10 :: some (.long x) :: ls) st G := by
  obtain ⟨Y, ⟨p, l, e, s, m, args, below, meth, c⟩, rm0, A⟩ := Z
  obtain ⟨⟨hx, hb⟩, -⟩ := C
  exact fun H locs la hP hS hl => lv_lload hx hb d (lh_at hl rfl) (k H locs la hP hS hl)
theorem r_lstore11 {o0 o1 o2 o3 o4 o5 o6 o7 o8 o9 o10 oo ox : Option Value} {x : Int64} (C : gC Z w cc own ret nL rm) (d : decode cc pc = .ok (.lstore 11, 2)) (h1 : c1 o10 = true) (k : WW Z post (pc + 2) (o0 :: o1 :: o2 :: o3 :: o4 :: o5 :: o6 :: o7 :: o8 :: o9 :: o10 :: some (.long x) :: none :: ls) st G) : WW Z post pc (o0 :: o1 :: o2 :: o3 :: o4 :: o5 :: o6 :: o7 :: o8 :: o9 :: o10 :: oo :: ox :: ls) (.long x :: st) G := by
  obtain ⟨Y, ⟨p, l, e, s, m, args, below, meth, c⟩, rm0, A⟩ := Z
  obtain ⟨⟨hx, hb⟩, -⟩ := C
  exact fun H locs la hP hS hl => lv_lstore (i := 11) hx hb d hl (by simp only [List.length_cons]; omega) rfl (fun la2 hl2 => k H locs la2 hP hS (lh_s2 (ls := o0 :: o1 :: o2 :: o3 :: o4 :: o5 :: o6 :: o7 :: o8 :: o9 :: o10 :: oo :: ox :: ls) (i := 11) hl2 (fun j w hj hw => by
      obtain rfl : j = 10 := by omega
      cases hw; exact h1)))
theorem r_lload12 {o0 o1 o2 o3 o4 o5 o6 o7 o8 o9 o10 o11 : Option Value} {x : Int64} (C : gC Z w cc own ret nL rm) (d : decode cc pc = .ok (.lload 12, 2)) (k : WW Z post (pc + 2) (o0 :: o1 :: o2 :: o3 :: o4 :: o5 :: o6 :: o7 :: o8 :: o9 :: o10 :: o11 :: some (.long x) :: ls) (.long x :: st) G) : WW Z post pc (o0 :: o1 :: o2 :: o3 :: o4 :: o5 :: o6 :: o7 :: o8 :: o9 :: o10 :: o11 :: some (.long x) :: ls) st G := by
  obtain ⟨Y, ⟨p, l, e, s, m, args, below, meth, c⟩, rm0, A⟩ := Z
  obtain ⟨⟨hx, hb⟩, -⟩ := C
  exact fun H locs la hP hS hl => lv_lload hx hb d (lh_at hl rfl) (k H locs la hP hS hl)
theorem r_lstore12 {o0 o1 o2 o3 o4 o5 o6 o7 o8 o9 o10 o11 oo ox : Option Value} {x : Int64} (C : gC Z w cc own ret nL rm) (d : decode cc pc = .ok (.lstore 12, 2)) (h1 : c1 o11 = true) (k : WW Z post (pc + 2) (o0 :: o1 :: o2 :: o3 :: o4 :: o5 :: o6 :: o7 :: o8 :: o9 :: o10 :: o11 :: some (.long x) :: none :: ls) st G) : WW Z post pc (o0 :: o1 :: o2 :: o3 :: o4 :: o5 :: o6 :: o7 :: o8 :: o9 :: o10 :: o11 :: oo :: ox :: ls) (.long x :: st) G := by
  obtain ⟨Y, ⟨p, l, e, s, m, args, below, meth, c⟩, rm0, A⟩ := Z
  obtain ⟨⟨hx, hb⟩, -⟩ := C
  exact fun H locs la hP hS hl => lv_lstore (i := 12) hx hb d hl (by simp only [List.length_cons]; omega) rfl (fun la2 hl2 => k H locs la2 hP hS (lh_s2 (ls := o0 :: o1 :: o2 :: o3 :: o4 :: o5 :: o6 :: o7 :: o8 :: o9 :: o10 :: o11 :: oo :: ox :: ls) (i := 12) hl2 (fun j w hj hw => by
      obtain rfl : j = 11 := by omega
      cases hw; exact h1)))
theorem r_lload13 {o0 o1 o2 o3 o4 o5 o6 o7 o8 o9 o10 o11 o12 : Option Value} {x : Int64} (C : gC Z w cc own ret nL rm) (d : decode cc pc = .ok (.lload 13, 2)) (k : WW Z post (pc + 2) (o0 :: o1 :: o2 :: o3 :: o4 :: o5 :: o6 :: o7 :: o8 :: o9 :: o10 :: o11 :: o12 :: some (.long x) :: ls) (.long x :: st) G) : WW Z post pc (o0 :: o1 :: o2 :: o3 :: o4 :: o5 :: o6 :: o7 :: o8 :: o9 :: o10 :: o11 :: o12 :: some (.long x) :: ls) st G := by
  obtain ⟨Y, ⟨p, l, e, s, m, args, below, meth, c⟩, rm0, A⟩ := Z
  obtain ⟨⟨hx, hb⟩, -⟩ := C
  exact fun H locs la hP hS hl => lv_lload hx hb d (lh_at hl rfl) (k H locs la hP hS hl)
theorem r_lstore13 {o0 o1 o2 o3 o4 o5 o6 o7 o8 o9 o10 o11 o12 oo ox : Option Value} {x : Int64} (C : gC Z w cc own ret nL rm) (d : decode cc pc = .ok (.lstore 13, 2)) (h1 : c1 o12 = true) (k : WW Z post (pc + 2) (o0 :: o1 :: o2 :: o3 :: o4 :: o5 :: o6 :: o7 :: o8 :: o9 :: o10 :: o11 :: o12 :: some (.long x) :: none :: ls) st G) : WW Z post pc (o0 :: o1 :: o2 :: o3 :: o4 :: o5 :: o6 :: o7 :: o8 :: o9 :: o10 :: o11 :: o12 :: oo :: ox :: ls) (.long x :: st) G := by
  obtain ⟨Y, ⟨p, l, e, s, m, args, below, meth, c⟩, rm0, A⟩ := Z
  obtain ⟨⟨hx, hb⟩, -⟩ := C
  exact fun H locs la hP hS hl => lv_lstore (i := 13) hx hb d hl (by simp only [List.length_cons]; omega) rfl (fun la2 hl2 => k H locs la2 hP hS (lh_s2 (ls := o0 :: o1 :: o2 :: o3 :: o4 :: o5 :: o6 :: o7 :: o8 :: o9 :: o10 :: o11 :: o12 :: oo :: ox :: ls) (i := 13) hl2 (fun j w hj hw => by
      obtain rfl : j = 12 := by omega
      cases hw; exact h1)))
theorem r_aload0 {x : Nat} (C : gC Z w cc own ret nL rm) (d : decode cc pc = .ok (.aload_n 0, 1)) (k : WW Z post (pc + 1) (some (.ref x) :: ls) (.ref x :: st) G) : WW Z post pc (some (.ref x) :: ls) st G := by
  obtain ⟨Y, ⟨p, l, e, s, m, args, below, meth, c⟩, rm0, A⟩ := Z
  obtain ⟨⟨hx, hb⟩, -⟩ := C
  exact fun H locs la hP hS hl => lv_aload_n hx hb d rfl (lh_at hl rfl) (k H locs la hP hS hl)
theorem r_astore0 {oo : Option Value} {x : Nat} (C : gC Z w cc own ret nL rm) (d : decode cc pc = .ok (.astore_n 0, 1)) (k : WW Z post (pc + 1) (some (.ref x) :: ls) st G) : WW Z post pc (oo :: ls) (.ref x :: st) G := by
  obtain ⟨Y, ⟨p, l, e, s, m, args, below, meth, c⟩, rm0, A⟩ := Z
  obtain ⟨⟨hx, hb⟩, -⟩ := C
  exact fun H locs la hP hS hl => lv_astore_n (i := 0) hx hb d rfl hl (by simp only [List.length_cons]; omega) rfl (fun la2 hl2 => k H locs la2 hP hS (lh_s1 (ls := oo :: ls) (i := 0) hl2 (fun j w hj hw => by omega)))
theorem r_aload1 {o0 : Option Value} {x : Nat} (C : gC Z w cc own ret nL rm) (d : decode cc pc = .ok (.aload_n 1, 1)) (k : WW Z post (pc + 1) (o0 :: some (.ref x) :: ls) (.ref x :: st) G) : WW Z post pc (o0 :: some (.ref x) :: ls) st G := by
  obtain ⟨Y, ⟨p, l, e, s, m, args, below, meth, c⟩, rm0, A⟩ := Z
  obtain ⟨⟨hx, hb⟩, -⟩ := C
  exact fun H locs la hP hS hl => lv_aload_n hx hb d rfl (lh_at hl rfl) (k H locs la hP hS hl)
theorem r_astore1 {o0 oo : Option Value} {x : Nat} (C : gC Z w cc own ret nL rm) (d : decode cc pc = .ok (.astore_n 1, 1)) (h1 : c1 o0 = true) (k : WW Z post (pc + 1) (o0 :: some (.ref x) :: ls) st G) : WW Z post pc (o0 :: oo :: ls) (.ref x :: st) G := by
  obtain ⟨Y, ⟨p, l, e, s, m, args, below, meth, c⟩, rm0, A⟩ := Z
  obtain ⟨⟨hx, hb⟩, -⟩ := C
  exact fun H locs la hP hS hl => lv_astore_n (i := 1) hx hb d rfl hl (by simp only [List.length_cons]; omega) rfl (fun la2 hl2 => k H locs la2 hP hS (lh_s1 (ls := o0 :: oo :: ls) (i := 1) hl2 (fun j w hj hw => by
      obtain rfl : j = 0 := by omega
      cases hw; exact h1)))
theorem r_aload2 {o0 o1 : Option Value} {x : Nat} (C : gC Z w cc own ret nL rm) (d : decode cc pc = .ok (.aload_n 2, 1)) (k : WW Z post (pc + 1) (o0 :: o1 :: some (.ref x) :: ls) (.ref x :: st) G) : WW Z post pc (o0 :: o1 :: some (.ref x) :: ls) st G := by
  obtain ⟨Y, ⟨p, l, e, s, m, args, below, meth, c⟩, rm0, A⟩ := Z
  obtain ⟨⟨hx, hb⟩, -⟩ := C
  exact fun H locs la hP hS hl => lv_aload_n hx hb d rfl (lh_at hl rfl) (k H locs la hP hS hl)
theorem r_astore2 {o0 o1 oo : Option Value} {x : Nat} (C : gC Z w cc own ret nL rm) (d : decode cc pc = .ok (.astore_n 2, 1)) (h1 : c1 o1 = true) (k : WW Z post (pc + 1) (o0 :: o1 :: some (.ref x) :: ls) st G) : WW Z post pc (o0 :: o1 :: oo :: ls) (.ref x :: st) G := by
  obtain ⟨Y, ⟨p, l, e, s, m, args, below, meth, c⟩, rm0, A⟩ := Z
  obtain ⟨⟨hx, hb⟩, -⟩ := C
  exact fun H locs la hP hS hl => lv_astore_n (i := 2) hx hb d rfl hl (by simp only [List.length_cons]; omega) rfl (fun la2 hl2 => k H locs la2 hP hS (lh_s1 (ls := o0 :: o1 :: oo :: ls) (i := 2) hl2 (fun j w hj hw => by
      obtain rfl : j = 1 := by omega
      cases hw; exact h1)))
theorem r_aload3 {o0 o1 o2 : Option Value} {x : Nat} (C : gC Z w cc own ret nL rm) (d : decode cc pc = .ok (.aload_n 3, 1)) (k : WW Z post (pc + 1) (o0 :: o1 :: o2 :: some (.ref x) :: ls) (.ref x :: st) G) : WW Z post pc (o0 :: o1 :: o2 :: some (.ref x) :: ls) st G := by
  obtain ⟨Y, ⟨p, l, e, s, m, args, below, meth, c⟩, rm0, A⟩ := Z
  obtain ⟨⟨hx, hb⟩, -⟩ := C
  exact fun H locs la hP hS hl => lv_aload_n hx hb d rfl (lh_at hl rfl) (k H locs la hP hS hl)
theorem r_astore3 {o0 o1 o2 oo : Option Value} {x : Nat} (C : gC Z w cc own ret nL rm) (d : decode cc pc = .ok (.astore_n 3, 1)) (h1 : c1 o2 = true) (k : WW Z post (pc + 1) (o0 :: o1 :: o2 :: some (.ref x) :: ls) st G) : WW Z post pc (o0 :: o1 :: o2 :: oo :: ls) (.ref x :: st) G := by
  obtain ⟨Y, ⟨p, l, e, s, m, args, below, meth, c⟩, rm0, A⟩ := Z
  obtain ⟨⟨hx, hb⟩, -⟩ := C
  exact fun H locs la hP hS hl => lv_astore_n (i := 3) hx hb d rfl hl (by simp only [List.length_cons]; omega) rfl (fun la2 hl2 => k H locs la2 hP hS (lh_s1 (ls := o0 :: o1 :: o2 :: oo :: ls) (i := 3) hl2 (fun j w hj hw => by
      obtain rfl : j = 2 := by omega
      cases hw; exact h1)))
theorem r_aload4 {o0 o1 o2 o3 : Option Value} {x : Nat} (C : gC Z w cc own ret nL rm) (d : decode cc pc = .ok (.aload 4, 2)) (k : WW Z post (pc + 2) (o0 :: o1 :: o2 :: o3 :: some (.ref x) :: ls) (.ref x :: st) G) : WW Z post pc (o0 :: o1 :: o2 :: o3 :: some (.ref x) :: ls) st G := by
  obtain ⟨Y, ⟨p, l, e, s, m, args, below, meth, c⟩, rm0, A⟩ := Z
  obtain ⟨⟨hx, hb⟩, -⟩ := C
  exact fun H locs la hP hS hl => lv_aload hx hb d (lh_at hl rfl) (k H locs la hP hS hl)
theorem r_astore4 {o0 o1 o2 o3 oo : Option Value} {x : Nat} (C : gC Z w cc own ret nL rm) (d : decode cc pc = .ok (.astore 4, 2)) (h1 : c1 o3 = true) (k : WW Z post (pc + 2) (o0 :: o1 :: o2 :: o3 :: some (.ref x) :: ls) st G) : WW Z post pc (o0 :: o1 :: o2 :: o3 :: oo :: ls) (.ref x :: st) G := by
  obtain ⟨Y, ⟨p, l, e, s, m, args, below, meth, c⟩, rm0, A⟩ := Z
  obtain ⟨⟨hx, hb⟩, -⟩ := C
  exact fun H locs la hP hS hl => lv_astore (i := 4) hx hb d hl (by simp only [List.length_cons]; omega) rfl (fun la2 hl2 => k H locs la2 hP hS (lh_s1 (ls := o0 :: o1 :: o2 :: o3 :: oo :: ls) (i := 4) hl2 (fun j w hj hw => by
      obtain rfl : j = 3 := by omega
      cases hw; exact h1)))
theorem r_aload5 {o0 o1 o2 o3 o4 : Option Value} {x : Nat} (C : gC Z w cc own ret nL rm) (d : decode cc pc = .ok (.aload 5, 2)) (k : WW Z post (pc + 2) (o0 :: o1 :: o2 :: o3 :: o4 :: some (.ref x) :: ls) (.ref x :: st) G) : WW Z post pc (o0 :: o1 :: o2 :: o3 :: o4 :: some (.ref x) :: ls) st G := by
  obtain ⟨Y, ⟨p, l, e, s, m, args, below, meth, c⟩, rm0, A⟩ := Z
  obtain ⟨⟨hx, hb⟩, -⟩ := C
  exact fun H locs la hP hS hl => lv_aload hx hb d (lh_at hl rfl) (k H locs la hP hS hl)
theorem r_astore5 {o0 o1 o2 o3 o4 oo : Option Value} {x : Nat} (C : gC Z w cc own ret nL rm) (d : decode cc pc = .ok (.astore 5, 2)) (h1 : c1 o4 = true) (k : WW Z post (pc + 2) (o0 :: o1 :: o2 :: o3 :: o4 :: some (.ref x) :: ls) st G) : WW Z post pc (o0 :: o1 :: o2 :: o3 :: o4 :: oo :: ls) (.ref x :: st) G := by
  obtain ⟨Y, ⟨p, l, e, s, m, args, below, meth, c⟩, rm0, A⟩ := Z
  obtain ⟨⟨hx, hb⟩, -⟩ := C
  exact fun H locs la hP hS hl => lv_astore (i := 5) hx hb d hl (by simp only [List.length_cons]; omega) rfl (fun la2 hl2 => k H locs la2 hP hS (lh_s1 (ls := o0 :: o1 :: o2 :: o3 :: o4 :: oo :: ls) (i := 5) hl2 (fun j w hj hw => by
      obtain rfl : j = 4 := by omega
      cases hw; exact h1)))
theorem r_aload6 {o0 o1 o2 o3 o4 o5 : Option Value} {x : Nat} (C : gC Z w cc own ret nL rm) (d : decode cc pc = .ok (.aload 6, 2)) (k : WW Z post (pc + 2) (o0 :: o1 :: o2 :: o3 :: o4 :: o5 :: some (.ref x) :: ls) (.ref x :: st) G) : WW Z post pc (o0 :: o1 :: o2 :: o3 :: o4 :: o5 :: some (.ref x) :: ls) st G := by
  obtain ⟨Y, ⟨p, l, e, s, m, args, below, meth, c⟩, rm0, A⟩ := Z
  obtain ⟨⟨hx, hb⟩, -⟩ := C
  exact fun H locs la hP hS hl => lv_aload hx hb d (lh_at hl rfl) (k H locs la hP hS hl)
theorem r_astore6 {o0 o1 o2 o3 o4 o5 oo : Option Value} {x : Nat} (C : gC Z w cc own ret nL rm) (d : decode cc pc = .ok (.astore 6, 2)) (h1 : c1 o5 = true) (k : WW Z post (pc + 2) (o0 :: o1 :: o2 :: o3 :: o4 :: o5 :: some (.ref x) :: ls) st G) : WW Z post pc (o0 :: o1 :: o2 :: o3 :: o4 :: o5 :: oo :: ls) (.ref x :: st) G := by
  obtain ⟨Y, ⟨p, l, e, s, m, args, below, meth, c⟩, rm0, A⟩ := Z
  obtain ⟨⟨hx, hb⟩, -⟩ := C
  exact fun H locs la hP hS hl => lv_astore (i := 6) hx hb d hl (by simp only [List.length_cons]; omega) rfl (fun la2 hl2 => k H locs la2 hP hS (lh_s1 (ls := o0 :: o1 :: o2 :: o3 :: o4 :: o5 :: oo :: ls) (i := 6) hl2 (fun j w hj hw => by
      obtain rfl : j = 5 := by omega
      cases hw; exact h1)))
theorem r_aload7 {o0 o1 o2 o3 o4 o5 o6 : Option Value} {x : Nat} (C : gC Z w cc own ret nL rm) (d : decode cc pc = .ok (.aload 7, 2)) (k : WW Z post (pc + 2) (o0 :: o1 :: o2 :: o3 :: o4 :: o5 :: o6 :: some (.ref x) :: ls) (.ref x :: st) G) : WW Z post pc (o0 :: o1 :: o2 :: o3 :: o4 :: o5 :: o6 :: some (.ref x) :: ls) st G := by
  obtain ⟨Y, ⟨p, l, e, s, m, args, below, meth, c⟩, rm0, A⟩ := Z
  obtain ⟨⟨hx, hb⟩, -⟩ := C
  exact fun H locs la hP hS hl => lv_aload hx hb d (lh_at hl rfl) (k H locs la hP hS hl)
theorem r_astore7 {o0 o1 o2 o3 o4 o5 o6 oo : Option Value} {x : Nat} (C : gC Z w cc own ret nL rm) (d : decode cc pc = .ok (.astore 7, 2)) (h1 : c1 o6 = true) (k : WW Z post (pc + 2) (o0 :: o1 :: o2 :: o3 :: o4 :: o5 :: o6 :: some (.ref x) :: ls) st G) : WW Z post pc (o0 :: o1 :: o2 :: o3 :: o4 :: o5 :: o6 :: oo :: ls) (.ref x :: st) G := by
  obtain ⟨Y, ⟨p, l, e, s, m, args, below, meth, c⟩, rm0, A⟩ := Z
  obtain ⟨⟨hx, hb⟩, -⟩ := C
  exact fun H locs la hP hS hl => lv_astore (i := 7) hx hb d hl (by simp only [List.length_cons]; omega) rfl (fun la2 hl2 => k H locs la2 hP hS (lh_s1 (ls := o0 :: o1 :: o2 :: o3 :: o4 :: o5 :: o6 :: oo :: ls) (i := 7) hl2 (fun j w hj hw => by
      obtain rfl : j = 6 := by omega
      cases hw; exact h1)))
theorem r_aload8 {o0 o1 o2 o3 o4 o5 o6 o7 : Option Value} {x : Nat} (C : gC Z w cc own ret nL rm) (d : decode cc pc = .ok (.aload 8, 2)) (k : WW Z post (pc + 2) (o0 :: o1 :: o2 :: o3 :: o4 :: o5 :: o6 :: o7 :: some (.ref x) :: ls) (.ref x :: st) G) : WW Z post pc (o0 :: o1 :: o2 :: o3 :: o4 :: o5 :: o6 :: o7 :: some (.ref x) :: ls) st G := by
  obtain ⟨Y, ⟨p, l, e, s, m, args, below, meth, c⟩, rm0, A⟩ := Z
  obtain ⟨⟨hx, hb⟩, -⟩ := C
  exact fun H locs la hP hS hl => lv_aload hx hb d (lh_at hl rfl) (k H locs la hP hS hl)
theorem r_astore8 {o0 o1 o2 o3 o4 o5 o6 o7 oo : Option Value} {x : Nat} (C : gC Z w cc own ret nL rm) (d : decode cc pc = .ok (.astore 8, 2)) (h1 : c1 o7 = true) (k : WW Z post (pc + 2) (o0 :: o1 :: o2 :: o3 :: o4 :: o5 :: o6 :: o7 :: some (.ref x) :: ls) st G) : WW Z post pc (o0 :: o1 :: o2 :: o3 :: o4 :: o5 :: o6 :: o7 :: oo :: ls) (.ref x :: st) G := by
  obtain ⟨Y, ⟨p, l, e, s, m, args, below, meth, c⟩, rm0, A⟩ := Z
  obtain ⟨⟨hx, hb⟩, -⟩ := C
  exact fun H locs la hP hS hl => lv_astore (i := 8) hx hb d hl (by simp only [List.length_cons]; omega) rfl (fun la2 hl2 => k H locs la2 hP hS (lh_s1 (ls := o0 :: o1 :: o2 :: o3 :: o4 :: o5 :: o6 :: o7 :: oo :: ls) (i := 8) hl2 (fun j w hj hw => by
      obtain rfl : j = 7 := by omega
      cases hw; exact h1)))
theorem r_aload9 {o0 o1 o2 o3 o4 o5 o6 o7 o8 : Option Value} {x : Nat} (C : gC Z w cc own ret nL rm) (d : decode cc pc = .ok (.aload 9, 2)) (k : WW Z post (pc + 2) (o0 :: o1 :: o2 :: o3 :: o4 :: o5 :: o6 :: o7 :: o8 :: some (.ref x) :: ls) (.ref x :: st) G) : WW Z post pc (o0 :: o1 :: o2 :: o3 :: o4 :: o5 :: o6 :: o7 :: o8 :: some (.ref x) :: ls) st G := by
  obtain ⟨Y, ⟨p, l, e, s, m, args, below, meth, c⟩, rm0, A⟩ := Z
  obtain ⟨⟨hx, hb⟩, -⟩ := C
  exact fun H locs la hP hS hl => lv_aload hx hb d (lh_at hl rfl) (k H locs la hP hS hl)
theorem r_astore9 {o0 o1 o2 o3 o4 o5 o6 o7 o8 oo : Option Value} {x : Nat} (C : gC Z w cc own ret nL rm) (d : decode cc pc = .ok (.astore 9, 2)) (h1 : c1 o8 = true) (k : WW Z post (pc + 2) (o0 :: o1 :: o2 :: o3 :: o4 :: o5 :: o6 :: o7 :: o8 :: some (.ref x) :: ls) st G) : WW Z post pc (o0 :: o1 :: o2 :: o3 :: o4 :: o5 :: o6 :: o7 :: o8 :: oo :: ls) (.ref x :: st) G := by
  obtain ⟨Y, ⟨p, l, e, s, m, args, below, meth, c⟩, rm0, A⟩ := Z
  obtain ⟨⟨hx, hb⟩, -⟩ := C
  exact fun H locs la hP hS hl => lv_astore (i := 9) hx hb d hl (by simp only [List.length_cons]; omega) rfl (fun la2 hl2 => k H locs la2 hP hS (lh_s1 (ls := o0 :: o1 :: o2 :: o3 :: o4 :: o5 :: o6 :: o7 :: o8 :: oo :: ls) (i := 9) hl2 (fun j w hj hw => by
      obtain rfl : j = 8 := by omega
      cases hw; exact h1)))
theorem r_aload10 {o0 o1 o2 o3 o4 o5 o6 o7 o8 o9 : Option Value} {x : Nat} (C : gC Z w cc own ret nL rm) (d : decode cc pc = .ok (.aload 10, 2)) (k : WW Z post (pc + 2) (o0 :: o1 :: o2 :: o3 :: o4 :: o5 :: o6 :: o7 :: o8 :: o9 :: some (.ref x) :: ls) (.ref x :: st) G) : WW Z post pc (o0 :: o1 :: o2 :: o3 :: o4 :: o5 :: o6 :: o7 :: o8 :: o9 :: some (.ref x) :: ls) st G := by
  obtain ⟨Y, ⟨p, l, e, s, m, args, below, meth, c⟩, rm0, A⟩ := Z
  obtain ⟨⟨hx, hb⟩, -⟩ := C
  exact fun H locs la hP hS hl => lv_aload hx hb d (lh_at hl rfl) (k H locs la hP hS hl)
theorem r_astore10 {o0 o1 o2 o3 o4 o5 o6 o7 o8 o9 oo : Option Value} {x : Nat} (C : gC Z w cc own ret nL rm) (d : decode cc pc = .ok (.astore 10, 2)) (h1 : c1 o9 = true) (k : WW Z post (pc + 2) (o0 :: o1 :: o2 :: o3 :: o4 :: o5 :: o6 :: o7 :: o8 :: o9 :: some (.ref x) :: ls) st G) : WW Z post pc (o0 :: o1 :: o2 :: o3 :: o4 :: o5 :: o6 :: o7 :: o8 :: o9 :: oo :: ls) (.ref x :: st) G := by
  obtain ⟨Y, ⟨p, l, e, s, m, args, below, meth, c⟩, rm0, A⟩ := Z
  obtain ⟨⟨hx, hb⟩, -⟩ := C
  exact fun H locs la hP hS hl => lv_astore (i := 10) hx hb d hl (by simp only [List.length_cons]; omega) rfl (fun la2 hl2 => k H locs la2 hP hS (lh_s1 (ls := o0 :: o1 :: o2 :: o3 :: o4 :: o5 :: o6 :: o7 :: o8 :: o9 :: oo :: ls) (i := 10) hl2 (fun j w hj hw => by
      obtain rfl : j = 9 := by omega
      cases hw; exact h1)))
theorem r_aload11 {o0 o1 o2 o3 o4 o5 o6 o7 o8 o9 o10 : Option Value} {x : Nat} (C : gC Z w cc own ret nL rm) (d : decode cc pc = .ok (.aload 11, 2)) (k : WW Z post (pc + 2) (o0 :: o1 :: o2 :: o3 :: o4 :: o5 :: o6 :: o7 :: o8 :: o9 :: o10 :: some (.ref x) :: ls) (.ref x :: st) G) : WW Z post pc (o0 :: o1 :: o2 :: o3 :: o4 :: o5 :: o6 :: o7 :: o8 :: o9 :: o10 :: some (.ref x) :: ls) st G := by
  obtain ⟨Y, ⟨p, l, e, s, m, args, below, meth, c⟩, rm0, A⟩ := Z
  obtain ⟨⟨hx, hb⟩, -⟩ := C
  exact fun H locs la hP hS hl => lv_aload hx hb d (lh_at hl rfl) (k H locs la hP hS hl)
theorem r_astore11 {o0 o1 o2 o3 o4 o5 o6 o7 o8 o9 o10 oo : Option Value} {x : Nat} (C : gC Z w cc own ret nL rm) (d : decode cc pc = .ok (.astore 11, 2)) (h1 : c1 o10 = true) (k : WW Z post (pc + 2) (o0 :: o1 :: o2 :: o3 :: o4 :: o5 :: o6 :: o7 :: o8 :: o9 :: o10 :: some (.ref x) :: ls) st G) : WW Z post pc (o0 :: o1 :: o2 :: o3 :: o4 :: o5 :: o6 :: o7 :: o8 :: o9 :: o10 :: oo :: ls) (.ref x :: st) G := by
  obtain ⟨Y, ⟨p, l, e, s, m, args, below, meth, c⟩, rm0, A⟩ := Z
  obtain ⟨⟨hx, hb⟩, -⟩ := C
  exact fun H locs la hP hS hl => lv_astore (i := 11) hx hb d hl (by simp only [List.length_cons]; omega) rfl (fun la2 hl2 => k H locs la2 hP hS (lh_s1 (ls := o0 :: o1 :: o2 :: o3 :: o4 :: o5 :: o6 :: o7 :: o8 :: o9 :: o10 :: oo :: ls) (i := 11) hl2 (fun j w hj hw => by
      obtain rfl : j = 10 := by omega
      cases hw; exact h1)))
theorem r_aload12 {o0 o1 o2 o3 o4 o5 o6 o7 o8 o9 o10 o11 : Option Value} {x : Nat} (C : gC Z w cc own ret nL rm) (d : decode cc pc = .ok (.aload 12, 2)) (k : WW Z post (pc + 2) (o0 :: o1 :: o2 :: o3 :: o4 :: o5 :: o6 :: o7 :: o8 :: o9 :: o10 :: o11 :: some (.ref x) :: ls) (.ref x :: st) G) : WW Z post pc (o0 :: o1 :: o2 :: o3 :: o4 :: o5 :: o6 :: o7 :: o8 :: o9 :: o10 :: o11 :: some (.ref x) :: ls) st G := by
  obtain ⟨Y, ⟨p, l, e, s, m, args, below, meth, c⟩, rm0, A⟩ := Z
  obtain ⟨⟨hx, hb⟩, -⟩ := C
  exact fun H locs la hP hS hl => lv_aload hx hb d (lh_at hl rfl) (k H locs la hP hS hl)
theorem r_astore12 {o0 o1 o2 o3 o4 o5 o6 o7 o8 o9 o10 o11 oo : Option Value} {x : Nat} (C : gC Z w cc own ret nL rm) (d : decode cc pc = .ok (.astore 12, 2)) (h1 : c1 o11 = true) (k : WW Z post (pc + 2) (o0 :: o1 :: o2 :: o3 :: o4 :: o5 :: o6 :: o7 :: o8 :: o9 :: o10 :: o11 :: some (.ref x) :: ls) st G) : WW Z post pc (o0 :: o1 :: o2 :: o3 :: o4 :: o5 :: o6 :: o7 :: o8 :: o9 :: o10 :: o11 :: oo :: ls) (.ref x :: st) G := by
  obtain ⟨Y, ⟨p, l, e, s, m, args, below, meth, c⟩, rm0, A⟩ := Z
  obtain ⟨⟨hx, hb⟩, -⟩ := C
  exact fun H locs la hP hS hl => lv_astore (i := 12) hx hb d hl (by simp only [List.length_cons]; omega) rfl (fun la2 hl2 => k H locs la2 hP hS (lh_s1 (ls := o0 :: o1 :: o2 :: o3 :: o4 :: o5 :: o6 :: o7 :: o8 :: o9 :: o10 :: o11 :: oo :: ls) (i := 12) hl2 (fun j w hj hw => by
      obtain rfl : j = 11 := by omega
      cases hw; exact h1)))
theorem r_aload13 {o0 o1 o2 o3 o4 o5 o6 o7 o8 o9 o10 o11 o12 : Option Value} {x : Nat} (C : gC Z w cc own ret nL rm) (d : decode cc pc = .ok (.aload 13, 2)) (k : WW Z post (pc + 2) (o0 :: o1 :: o2 :: o3 :: o4 :: o5 :: o6 :: o7 :: o8 :: o9 :: o10 :: o11 :: o12 :: some (.ref x) :: ls) (.ref x :: st) G) : WW Z post pc (o0 :: o1 :: o2 :: o3 :: o4 :: o5 :: o6 :: o7 :: o8 :: o9 :: o10 :: o11 :: o12 :: some (.ref x) :: ls) st G := by
  obtain ⟨Y, ⟨p, l, e, s, m, args, below, meth, c⟩, rm0, A⟩ := Z
  obtain ⟨⟨hx, hb⟩, -⟩ := C
  exact fun H locs la hP hS hl => lv_aload hx hb d (lh_at hl rfl) (k H locs la hP hS hl)
theorem r_astore13 {o0 o1 o2 o3 o4 o5 o6 o7 o8 o9 o10 o11 o12 oo : Option Value} {x : Nat} (C : gC Z w cc own ret nL rm) (d : decode cc pc = .ok (.astore 13, 2)) (h1 : c1 o12 = true) (k : WW Z post (pc + 2) (o0 :: o1 :: o2 :: o3 :: o4 :: o5 :: o6 :: o7 :: o8 :: o9 :: o10 :: o11 :: o12 :: some (.ref x) :: ls) st G) : WW Z post pc (o0 :: o1 :: o2 :: o3 :: o4 :: o5 :: o6 :: o7 :: o8 :: o9 :: o10 :: o11 :: o12 :: oo :: ls) (.ref x :: st) G := by
  obtain ⟨Y, ⟨p, l, e, s, m, args, below, meth, c⟩, rm0, A⟩ := Z
  obtain ⟨⟨hx, hb⟩, -⟩ := C
  exact fun H locs la hP hS hl => lv_astore (i := 13) hx hb d hl (by simp only [List.length_cons]; omega) rfl (fun la2 hl2 => k H locs la2 hP hS (lh_s1 (ls := o0 :: o1 :: o2 :: o3 :: o4 :: o5 :: o6 :: o7 :: o8 :: o9 :: o10 :: o11 :: o12 :: oo :: ls) (i := 13) hl2 (fun j w hj hw => by
      obtain rfl : j = 12 := by omega
      cases hw; exact h1)))
end R
