/-! the parser as a machine over tokens: expected, brackets open, related, the first wrong number, operators that wait (the latest ahead), rules (the latest ahead; code latest ahead) -/
abbrev pR : Type := Bool × Int32 × List Int32
abbrev pS : Type := Nat × Nat × Bool × Int32 × List Nat × List pR
def lenC (rs : List pR) : Nat := rs.foldr (fun r n => r.2.2.length + n) 0
theorem lenC_cons (r : pR) (rs : List pR) : lenC (r :: rs) = r.2.2.length + lenC rs := rfl
/-- the rows that hold rules; b: the latest one's number is set -/
def RRp (af nu st en co : Nat → Int32) : Bool → List pR → Prop
  | _, [] => True
  | b, r :: rs => af rs.length = bI r.1 ∧ (b = true → nu rs.length = r.2.1) ∧ st rs.length = nI (lenC rs) ∧ en rs.length = nI (lenC rs + r.2.2.length) ∧ (∀ k, k < r.2.2.length → co (lenC rs + k) = r.2.2.reverse.getD k 0) ∧ RRp af nu st en co true rs
theorem RRp_ext {af nu st en co af' nu' st' en' co' : Nat → Int32} : ∀ {rs : List pR} {b : Bool}, RRp af nu st en co b rs → (∀ k, k < rs.length → af' k = af k ∧ nu' k = nu k ∧ st' k = st k ∧ en' k = en k) → (∀ k, k < lenC rs → co' k = co k) → RRp af' nu' st' en' co' b rs
  | [], _, _, _, _ => trivial
  | r :: rs, b, h, h1, h2 => by
    obtain ⟨a1, a2, a3, a4, a5, a6⟩ := h
    obtain ⟨e1, e2, e3, e4⟩ := h1 rs.length (Nat.lt_succ_self _)
    rw [lenC_cons] at h2
    exact ⟨e1.trans a1, fun hb => e2.trans (a2 hb), e3.trans a3, e4.trans a4, fun k hk => (h2 _ (by omega)).trans (a5 k hk), RRp_ext a6 (fun k hk => h1 k (Nat.lt_succ_of_lt hk)) (fun k hk => h2 k (by omega))⟩
theorem RRp_add {af nu st en co : Nat → Int32} {rs : List pR} (h : RRp af nu st en co true rs) (a : Bool) (m : Int32) : RRp (upd af rs.length (bI a)) nu (upd st rs.length (nI (lenC rs))) (upd en rs.length (nI (lenC rs))) co false ((a, m, []) :: rs) :=
  ⟨upd_s, fun hb => absurd hb (by decide), upd_s, upd_s, fun k hk => absurd hk (Nat.not_lt_zero k), RRp_ext h (fun k hk => ⟨upd_o (by omega), rfl, upd_o (by omega), upd_o (by omega)⟩) (fun _ _ => rfl)⟩
theorem RRp_num {af nu st en co : Nat → Int32} {rs : List pR} {r : pR} {b : Bool} (h : RRp af nu st en co b (r :: rs)) (v : Int32) : RRp af (upd nu rs.length v) st en co true ((r.1, v, r.2.2) :: rs) :=
  ⟨h.1, fun _ => upd_s, h.2.2.1, h.2.2.2.1, h.2.2.2.2.1, RRp_ext h.2.2.2.2.2 (fun k hk => ⟨rfl, upd_o (by omega), rfl, rfl⟩) (fun _ _ => rfl)⟩
theorem RRp_emit {af nu st en co : Nat → Int32} {rs : List pR} {r : pR} {b : Bool} (h : RRp af nu st en co b (r :: rs)) (x : Int32) : RRp af nu st (upd en rs.length (nI (lenC rs + r.2.2.length + 1))) (upd co (lenC rs + r.2.2.length) x) b ((r.1, r.2.1, x :: r.2.2) :: rs) := by
  obtain ⟨a1, a2, a3, a4, a5, a6⟩ := h
  refine ⟨a1, a2, a3, upd_s, fun k hk => ?_, RRp_ext a6 (fun k hk => ⟨rfl, rfl, rfl, upd_o (by omega)⟩) (fun k hk => upd_o (by omega))⟩
  have hk : k < r.2.2.length + 1 := hk
  show upd co (lenC rs + r.2.2.length) x (lenC rs + k) = (x :: r.2.2).reverse.getD k 0
  rw [List.reverse_cons, List.getD_eq_getElem?_getD]
  by_cases e : k = r.2.2.length
  · subst e
    rw [upd_s, List.getElem?_append_right (by simp)]
    simp
  · rw [upd_o (by omega), a5 k (by omega), List.getElem?_append_left (by simp; omega), ← List.getD_eq_getElem?_getD]
/-- Rules j hold these rules -/
def RS (G : gS) (j : Nat) (b : Bool) (rs : List pR) : Prop := G.1 (40 + j) 0 = nI rs.length ∧ G.1 (40 + j) 1 = nI (lenC rs) ∧ RRp (G.1 (50 + j)) (G.1 (60 + j)) (G.1 (70 + j)) (G.1 (80 + j)) (G.1 (90 + j)) b rs
def opR (f : Nat → Int32) (ops : List Nat) : Prop := ∀ k, k < ops.length → f k = nI (ops.reverse.getD k 0)
theorem opR_push {f : Nat → Int32} {ops : List Nat} (h : opR f ops) (x : Nat) : opR (upd f ops.length (nI x)) (x :: ops) := by
  intro k hk
  have hk : k < ops.length + 1 := hk
  rw [List.reverse_cons, List.getD_eq_getElem?_getD]
  by_cases e : k = ops.length
  · subst e
    rw [upd_s, List.getElem?_append_right (by simp)]
    simp
  · rw [upd_o e, h k (by omega), List.getElem?_append_left (by simp; omega), ← List.getD_eq_getElem?_getD]
theorem opR_pop {f : Nat → Int32} {ops : List Nat} {x : Nat} (h : opR f (x :: ops)) : opR f ops ∧ f ops.length = nI x := by
  constructor
  · intro k hk
    have := h k (Nat.lt_succ_of_lt hk)
    rw [List.reverse_cons, List.getD_eq_getElem?_getD, List.getElem?_append_left (by simp; omega), ← List.getD_eq_getElem?_getD] at this
    exact this
  · have := h ops.length (Nat.lt_succ_self _)
    rw [List.reverse_cons, List.getD_eq_getElem?_getD, List.getElem?_append_right (by simp)] at this
    simpa using this
def rk (x : Nat) : Nat := cN (tOr.getD x 0)
theorem rk_ok : ∀ x, x < 10 → tOr.getD x 0 = nI (rk x) ∧ rk x ≤ 5 := by decide +kernel
/-- operators of rank q at least go out -/
def edn (q : Nat) : List Nat → List Int32 → List Nat × List Int32
  | [], c => ([], c)
  | x :: t, c => if q ≤ rk x then edn q t ((nI x ^^^ -1) :: c) else (x :: t, c)
theorem edn_len (q : Nat) : ∀ (l : List Nat) (c : List Int32), (edn q l c).1.length + (edn q l c).2.length = l.length + c.length
  | [], c => rfl
  | x :: t, c => by
    rw [edn]
    split
    · rw [edn_len q t]; simp; omega
    · rfl
theorem edn_sub (q : Nat) : ∀ (l : List Nat) (c : List Int32) {f : Nat → Int32}, opR f l → opR f (edn q l c).1
  | [], _, _, h => h
  | x :: t, c, f, h => by
    rw [edn]
    split
    · exact edn_sub q t _ (opR_pop h).1
    · exact h
theorem edn_all (q : Nat) {P : Nat → Prop} : ∀ (l : List Nat) (c : List Int32), (∀ x, x ∈ l → P x) → ∀ x, x ∈ (edn q l c).1 → P x
  | [], _, h => h
  | x :: t, c, h => by
    rw [edn]
    split
    · exact edn_all q t _ (fun y hy => h y (List.mem_cons_of_mem _ hy))
    · exact h
/-- what may follow: 9 for nothing -/
def folU (o : Nat) (rel : Bool) (so : Nat) : Nat := if so = 9 then 5 else if 0 < o then (if so = 11 then 6 else 9) else if rel = false then (if so = 8 then 5 else 9) else if so = 7 then 5 else if so = 12 then 0 else 9
def fol (e o : Nat) (rel : Bool) (so : Nat) : Nat :=
  if e = 0 then (if so = 4 then 1 else if so = 5 then 3 else if so = 0 then 7 else 9)
  else if e = 1 then (if so = 2 then 2 else 9)
  else if e = 2 then (if so = 6 then 5 else if so = 12 then 0 else 9)
  else if e = 3 then (if so = 2 then 4 else 9)
  else if e = 4 then (if so = 6 then 5 else 9)
  else if e = 5 then (if so = 2 ∨ so = 3 then 6 else if so = 10 then 5 else 9)
  else folU o rel so
/-- 9 as the class has it -/
def n9 (x : Nat) : Int32 := if x = 9 then -1 else nI x
def hdU (f : pR → pR) : List pR → List pR
  | [] => []
  | r :: rs => f r :: rs
/-- a token taken: so its sort, v its value, at its place -/
def takeS (s : pS) (so : Nat) (v : Int32) (a : Nat) : pS :=
  match s with
  | (e, o, rel, fw, ops, rs) =>
    if e = 0 then (e, o, rel, fw, ops, (decide (so = 5), 0, []) :: rs)
    else if e = 1 ∨ e = 3 then (e, o, rel, if ¬ v < (if e = 1 then nI 6 else nI 4) ∧ fw = -1 then nI a else fw, ops, hdU (fun r => (r.1, v, r.2.2)) rs)
    else if e = 5 then (if so = 10 then (e, o + 1, rel, fw, 0 :: ops, rs) else (e, o, rel, fw, ops, hdU (fun r => (r.1, r.2.1, (if so = 3 then ((nI 16 + v) ^^^ -1) else v) :: r.2.2)) rs))
    else if e = 6 then
      (if so = 11 then (e, o - 1, rel, fw, (edn 1 ops []).1.tail, hdU (fun r => (r.1, r.2.1, (edn 1 ops r.2.2).2)) rs)
       else if so = 12 then (e, o, rel, fw, (edn 1 ops []).1, hdU (fun r => (r.1, r.2.1, (edn 1 ops r.2.2).2)) rs)
       else (e, o, decide (so = 8) || (rel && decide (so = 9)), fw, cN v :: (edn (rk (cN v)) ops []).1, hdU (fun r => (r.1, r.2.1, (edn (rk (cN v)) ops r.2.2).2)) rs))
    else (e, o, false, fw, ops, rs)
theorem edn_1 (q : Nat) : ∀ (l : List Nat) (c d : List Int32), (edn q l c).1 = (edn q l d).1
  | [], _, _ => rfl
  | x :: t, c, d => by
    rw [edn, edn]
    split
    · exact edn_1 q t _ _
    · rfl
def overS (s : pS) (so : Nat) : Bool := decide ((s.1 = 0 ∧ 20 ≤ s.2.2.2.2.2.length) ∨ (so = 10 ∧ 6 ≤ s.2.1))
def setE (s : pS) (e : Nat) : pS := (e, s.2)
/-- the parse from token k at place p on: fault, its place, the state -/
def pRun (B : Nat → Nat) (n : Nat) : Nat → Nat → Nat → pS → Int32 × Int32 × pS
  | 0, _, _, s => (nI 2, 0, s)
  | f + 1, k, p, s =>
    let T := tokC B n p
    let th := fol s.1 s.2.1 s.2.2.1 (cN T.1)
    if th = 9 then (nI 1, nI T.2.2.1, s)
    else if th = 7 then (if s.2.2.2.1 = -1 then nI 0 else nI 5, s.2.2.2.1, s)
    else if k = 400 ∨ overS s (cN T.1) = true then (nI 2, nI T.2.2.1, s)
    else pRun B n f (k + 1) T.2.2.2 (setE (takeS s (cN T.1) T.2.1 T.2.2.1) th)
def pS0 : pS := (0, 0, false, -1, [], [])
/-- operators that wait: brackets (0) as many as are open; between them ranks fall, in brackets none below 4 -/
def stk : Nat → Nat → List Nat → Prop
  | o, _, [] => o = 0
  | o, r, x :: t => (x = 0 ∧ ∃ p, o = p + 1 ∧ stk p 6 t) ∨ (1 ≤ x ∧ x ≤ 9 ∧ rk x < r ∧ (0 < o → 4 ≤ rk x) ∧ stk o (rk x) t)
theorem rk_pos : ∀ x, x < 10 → 1 ≤ x → 1 ≤ rk x := by decide +kernel
theorem rk_0 : rk 0 = 0 := by decide +kernel
theorem stk_mono : ∀ {l : List Nat} {o r r' : Nat}, stk o r l → r ≤ r' → stk o r' l
  | [], _, _, _, h, _ => h
  | x :: t, o, r, r', h, hr => by
    rcases h with h | ⟨h1, h2, h3, h4⟩
    · exact Or.inl h
    · exact Or.inr ⟨h1, h2, by omega, h4⟩
theorem stk_len : ∀ {l : List Nat} {o r : Nat}, stk o r l → r ≤ 6 → l.length ≤ (if o = 0 then r - 1 else (r - 4) + 3 * o + 3)
  | [], _, _, _, _ => Nat.zero_le _
  | x :: t, o, r, h, hr => by
    rcases h with ⟨-, p, rfl, h⟩ | ⟨h1, h2, h3, h4, h5⟩
    · have := stk_len h (Nat.le_refl 6)
      rw [if_neg (by omega)]
      simp only [List.length_cons]
      split at this <;> omega
    · have := stk_len h5 (by omega)
      have hp := rk_pos x (by omega) h1
      simp only [List.length_cons]
      split at this
      · rename_i h0; rw [if_pos h0]; omega
      · rename_i h0; rw [if_neg h0]; have := h4 (by omega); omega
theorem stk_9 : ∀ {l : List Nat} {o r : Nat}, stk o r l → ∀ x, x ∈ l → x ≤ 9
  | y :: t, o, r, h, x, hx => by
    rcases h with ⟨h0, p, -, h⟩ | ⟨h1, h2, h3, h4, h5⟩
    · rcases List.mem_cons.mp hx with rfl | hx
      · omega
      · exact stk_9 h x hx
    · rcases List.mem_cons.mp hx with rfl | hx
      · exact h2
      · exact stk_9 h5 x hx
theorem stk_edn {q : Nat} (hq : 1 ≤ q) : ∀ {l : List Nat} {o r : Nat} (c : List Int32), stk o r l → stk o q (edn q l c).1
  | [], _, _, _, h => h
  | x :: t, o, r, c, h => by
    rw [edn]
    rcases h with ⟨h0, p, hp, h⟩ | ⟨h1, h2, h3, h4, h5⟩
    · subst h0
      rw [if_neg (by rw [rk_0]; omega)]
      exact Or.inl ⟨rfl, p, hp, h⟩
    · split
      · exact stk_edn hq _ h5
      · exact Or.inr ⟨h1, h2, by omega, h4, h5⟩
theorem stk_1 {l : List Nat} {o : Nat} (h : stk o 1 l) : (o = 0 ∧ l = []) ∨ ∃ t p, l = 0 :: t ∧ o = p + 1 ∧ stk p 6 t := by
  cases l with
  | nil => exact Or.inl ⟨h, rfl⟩
  | cons x t =>
    rcases h with ⟨h0, p, hp, h⟩ | ⟨h1, h2, h3, -⟩
    · subst h0; exact Or.inr ⟨t, p, rfl, hp, h⟩
    · have := rk_pos x (by omega) h1; omega
