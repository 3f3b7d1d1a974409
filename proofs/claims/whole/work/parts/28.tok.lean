/-! tokens: B gives the bytes, n is how many -/
def isBl (c : Nat) : Bool := c == 32 || c == 9 || c == 10 || c == 13
def isLe (c : Nat) : Bool := decide (97 ≤ c ∧ c ≤ 122)
def isDi (c : Nat) : Bool := decide (48 ≤ c ∧ c ≤ 57)
def whB (p : Nat → Bool) (B : Nat → Nat) (n : Nat) : Nat → Nat → Nat
  | 0, i => i
  | f + 1, i => if i < n ∧ p (B i) = true then whB p B n f (i + 1) else i
def skB (p : Nat → Bool) (B : Nat → Nat) (n i : Nat) : Nat := whB p B n (n - i) i
theorem skB_go {p : Nat → Bool} {B : Nat → Nat} {n i : Nat} (h : i < n) (hp : p (B i) = true) : skB p B n i = skB p B n (i + 1) := by
  rw [skB, skB, show n - i = (n - (i + 1)) + 1 by omega, whB, if_pos ⟨h, hp⟩]
theorem skB_no {p : Nat → Bool} {B : Nat → Nat} {n i : Nat} (h : ¬ (i < n ∧ p (B i) = true)) : skB p B n i = i := by
  rw [skB]
  cases n - i with
  | zero => rfl
  | succ f => rw [whB, if_neg h]
theorem whB_le {p : Nat → Bool} {B : Nat → Nat} {n : Nat} : ∀ (f i : Nat), i ≤ n → whB p B n f i ≤ n
  | 0, _, h => h
  | f + 1, i, h => by
    rw [whB]
    split
    · exact whB_le f (i + 1) (by omega)
    · exact h
theorem whB_ge {p : Nat → Bool} {B : Nat → Nat} {n : Nat} : ∀ (f i : Nat), i ≤ whB p B n f i
  | 0, i => Nat.le_refl i
  | f + 1, i => by
    rw [whB]
    split
    · exact Nat.le_trans (Nat.le_succ i) (whB_ge f (i + 1))
    · exact Nat.le_refl i
theorem skB_le {p : Nat → Bool} {B : Nat → Nat} {n i : Nat} (h : i ≤ n) : skB p B n i ≤ n := whB_le _ _ h
theorem skB_ge {p : Nat → Bool} {B : Nat → Nat} {n i : Nat} : i ≤ skB p B n i := whB_ge _ _
theorem skB_gt {p : Nat → Bool} {B : Nat → Nat} {n i : Nat} (h : i < n) (hp : p (B i) = true) : i < skB p B n i := by
  rw [skB_go h hp]; exact skB_ge
/-- a word's letters in one long, as the class has them -/
def accW (B : Nat → Nat) : Nat → Nat → Int64 → Int64
  | 0, _, a => a
  | k + 1, i, a => accW B k (i + 1) ((a <<< ((nI 8).toInt64 &&& 63)) ||| (nI (B i)).toInt64)
/-- a word's sort and value, by the class's rows of words -/
def wsF (x : Int64) : Nat → Int32 × Int32
  | 0 => (nI 1, nI 0)
  | k + 1 => if tWd.getD k 0 = x then (tWs.getD k 0, tWv.getD k 0) else wsF x k
def intW (B : Nat → Nat) : Nat → Nat → Int32 → Int32
  | 0, _, v => v
  | k + 1, i, v => intW B k (i + 1) (v * nI 10 + nI (B i) - nI 48)
/-- a sign: sort, value, length; eq: '=' stands behind it -/
def sgF (c : Nat) (eq : Bool) : Nat × Nat × Nat :=
  if c = 59 then (12, 0, 1) else if c = 40 then (10, 0, 1) else if c = 41 then (11, 0, 1) else if c = 43 then (9, 7, 1) else if c = 45 then (9, 8, 1) else if c = 42 then (9, 9, 1)
  else if c = 60 then (if eq then (8, 6, 2) else (8, 5, 1)) else if eq = true ∧ c = 61 then (8, 3, 2) else if eq = true ∧ c = 33 then (8, 4, 2) else (1, 0, 1)
def eqB (B : Nat → Nat) (n i : Nat) : Bool := decide (i < n ∧ B i = 61)
/-- the token from i on: sort, value, where it stands, where it ends -/
def tokC (B : Nat → Nat) (n i : Nat) : Int32 × Int32 × Nat × Nat :=
  let s := skB isBl B n i
  if n ≤ s then (nI 0, nI 0, s, s)
  else if isLe (B s) = true then ((wsF (accW B (skB isLe B n s - s) s 0) 12).1, (wsF (accW B (skB isLe B n s - s) s 0) 12).2, s, skB isLe B n s)
  else if isDi (B s) = true then (if skB isDi B n s - s ≤ 4 then nI 2 else nI 1, intW B (skB isDi B n s - s) s (nI 0), s, skB isDi B n s)
  else (nI (sgF (B s) (eqB B n (s + 1))).1, nI (sgF (B s) (eqB B n (s + 1))).2.1, s, s + (sgF (B s) (eqB B n (s + 1))).2.2)
/-- the scanner's row behind a token -/
def scR (f : Nat → Int32) (T : Int32 × Int32 × Nat × Nat) : Nat → Int32 := upd (upd (upd (upd f 1 (nI T.2.2.2)) 2 (nI T.2.2.1)) 3 T.1) 4 T.2.1
/-- the tape of the class: n bytes -/
def tB (G : gS) : Nat → Nat := fun k => cN (G.1 2 k)
def tapeOk (G : gS) (n : Nat) : Prop := G.1 1 1 = nI n ∧ n ≤ 2000 ∧ ∀ k, k < n → G.1 2 k = nI (tB G k) ∧ tB G k < 256
theorem upd_id {f : Nat → Int32} {k : Nat} {v : Int32} (h : f k = v) : upd f k v = f := by
  funext q
  by_cases e : q = k
  · subst e; rw [upd_s, h]
  · rw [upd_o e]
theorem lcmp_z {x y : Int64} : lg_cmp x y = 0 ↔ x = y := by
  unfold lg_cmp
  split
  · rename_i h
    refine ⟨fun e => absurd e (by decide), fun e => ?_⟩
    subst e
    exact absurd h (Int64.lt_irrefl)
  · split
    · rename_i h; exact ⟨fun _ => h, fun _ => rfl⟩
    · rename_i h; exact ⟨fun e => absurd e (by decide), fun e => absurd e h⟩
theorem sgF_len {c : Nat} {eq : Bool} : (sgF c eq).2.2 = 1 ∨ ((sgF c eq).2.2 = 2 ∧ eq = true) := by
  unfold sgF
  repeat' split
  all_goals first | exact Or.inl rfl | exact Or.inr ⟨rfl, by simp_all⟩
theorem tokC_le {B : Nat → Nat} {n i : Nat} (h : i ≤ n) : (tokC B n i).2.2.2 ≤ n ∧ i ≤ (tokC B n i).2.2.1 ∧ (tokC B n i).2.2.1 ≤ (tokC B n i).2.2.2 := by
  have h1 : skB isBl B n i ≤ n := skB_le h
  have h2 : i ≤ skB isBl B n i := skB_ge
  unfold tokC
  dsimp only
  split
  · exact ⟨h1, h2, Nat.le_refl _⟩
  · split
    · exact ⟨skB_le h1, h2, skB_ge⟩
    · split
      · exact ⟨skB_le h1, h2, skB_ge⟩
      · refine ⟨?_, h2, Nat.le_add_right _ _⟩
        show skB isBl B n i + _ ≤ n
        rcases sgF_len (c := B (skB isBl B n i)) (eq := eqB B n (skB isBl B n i + 1)) with e | ⟨e, e2⟩
        · omega
        · have := (of_decide_eq_true e2).1
          omega
