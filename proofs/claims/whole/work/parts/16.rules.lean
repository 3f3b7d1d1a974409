/-! a keeper's rules: what one holds, and what they answer -/
theorem tsw_o {x : Int32} (lo hi : Nat) (h : ∀ v, lo ≤ v → v ≤ hi → ¬ x = nI v) (hh : hi < 2 ^ 31) : x.toInt < (lo : Int) ∨ (hi : Int) < x.toInt := by
  by_cases h0 : x < 0
  · left
    have := Int32.lt_iff_toInt_lt.mp h0
    have e : (0 : Int32).toInt = 0 := rfl
    omega
  · obtain ⟨j, hj, rfl⟩ := nI_of h0
    rw [nI_toInt hj]
    by_cases h1 : j < lo
    · left; omega
    · by_cases h2 : hi < j
      · right; omega
      · exact absurd rfl (h j (by omega) (by omega))
def cN (x : Int32) : Nat := x.toNatClampNeg
theorem cN_nI {n : Nat} (h : n < 2 ^ 31) : cN (nI n) = n := nI_clamp h
def applyP (op a b : Int32) : Int32 := if op = nI 1 then a ||| b else if op = nI 2 then a &&& b else if op = nI 3 then bI (decide (a = b)) else if op = nI 4 then bI (decide (¬ a = b)) else if op = nI 5 then bI (decide (¬ b ≤ a)) else if op = nI 6 then bI (decide (¬ b < a)) else if op = nI 7 then a + b else if op = nI 8 then a - b else a * b
/-- an instruction that stands for an operand -/
def opnd (x : Int32) : Bool := decide ((x ^^^ (-1)) < 0 ∨ nI 16 ≤ (x ^^^ (-1)))
def valP (x : Int32) (vars : Nat → Int32) : Int32 := if (x ^^^ (-1)) < 0 then x else if nI 7 ≤ (x ^^^ (-1)) - nI 16 then nI 0 else vars (cN ((x ^^^ (-1)) - nI 16))
def evS (vars : Nat → Int32) (x : Int32) (S : Nat × (Nat → Int32)) : Nat × (Nat → Int32) :=
  if opnd x then (if S.1 < 32 then (S.1 + 1, upd S.2 S.1 (valP x vars)) else S)
  else if 2 ≤ S.1 then (S.1 - 1, upd S.2 (S.1 - 2) (applyP (x ^^^ (-1)) (S.2 (S.1 - 2)) (S.2 (S.1 - 1)))) else S
def evR (vars code : Nat → Int32) : Nat → Nat → Nat × (Nat → Int32) → Nat × (Nat → Int32)
  | 0, _, S => S
  | n + 1, i, S => evR vars code n (i + 1) (evS vars (code i) S)
theorem evS_le {vars : Nat → Int32} {x : Int32} {S : Nat × (Nat → Int32)} (h : S.1 ≤ 32) : (evS vars x S).1 ≤ 32 := by
  unfold evS
  split
  · split
    · show S.1 + 1 ≤ 32; omega
    · exact h
  · split
    · show S.1 - 1 ≤ 32; omega
    · exact h
theorem evS_pos {vars : Nat → Int32} {x : Int32} {S : Nat × (Nat → Int32)} (h : 1 ≤ S.1) : 1 ≤ (evS vars x S).1 := by
  unfold evS
  split
  · split
    · show 1 ≤ S.1 + 1; omega
    · exact h
  · split
    · show 1 ≤ S.1 - 1; omega
    · exact h
/-- two stacks alike below their tops -/
def evE (S T : Nat × (Nat → Int32)) : Prop := S.1 = T.1 ∧ ∀ k, k < S.1 → S.2 k = T.2 k
theorem evS_E {vars : Nat → Int32} {x : Int32} {S T : Nat × (Nat → Int32)} (h : evE S T) : evE (evS vars x S) (evS vars x T) := by
  obtain ⟨n, f⟩ := S
  obtain ⟨m, g⟩ := T
  obtain ⟨h1, h2⟩ := h
  dsimp only at h1 h2
  subst h1
  unfold evS
  dsimp only
  split
  · split
    · refine ⟨rfl, fun k hk => ?_⟩
      show upd f n _ k = upd g n _ k
      by_cases e : k = n
      · subst e; rw [upd_s, upd_s]
      · rw [upd_o e, upd_o e]; exact h2 k (by have : k < n + 1 := hk; omega)
    · exact ⟨rfl, h2⟩
  · split
    · rename_i h3
      refine ⟨rfl, fun k hk => ?_⟩
      show upd f (n - 2) _ k = upd g (n - 2) _ k
      have hk : k < n - 1 := hk
      rw [h2 (n - 2) (by omega), h2 (n - 1) (by omega)]
      by_cases e : k = n - 2
      · subst e; rw [upd_s, upd_s]
      · rw [upd_o e, upd_o e]; exact h2 k (by omega)
    · exact ⟨rfl, h2⟩
theorem evR_E {vars code : Nat → Int32} : ∀ (n i : Nat) {S T : Nat × (Nat → Int32)}, evE S T → evE (evR vars code n i S) (evR vars code n i T)
  | 0, _, _, _, h => h
  | n + 1, i, _, _, h => evR_E n (i + 1) (evS_E h)
theorem evR_pos {vars code : Nat → Int32} : ∀ (n i : Nat) {S : Nat × (Nat → Int32)}, 1 ≤ S.1 → 1 ≤ (evR vars code n i S).1
  | 0, _, _, h => h
  | n + 1, i, _, h => evR_pos n (i + 1) (evS_pos h)
/-- whether code s .. e-1 holds -/
def hP (vars code : Nat → Int32) (s e : Nat) : Bool := decide (s = e) || !((evR vars code (e - s) s (0, fun _ => 0)).2 0 == 0)
theorem hP_any {vars code : Nat → Int32} {s e : Nat} (h : s < e) (ho : opnd (code s) = true) (row : Nat → Int32) : hP vars code s e = !((evR vars code (e - s) s (0, row)).2 0 == 0) := by
  have hE : evE (evR vars code (e - s) s (0, fun _ => 0)) (evR vars code (e - s) s (0, row)) := evR_E _ _ ⟨rfl, fun k hk => absurd hk (Nat.not_lt_zero k)⟩
  have hp : 1 ≤ (evR vars code (e - s) s (0, fun _ => 0)).1 := by
    obtain ⟨n, hn⟩ : ∃ n, e - s = n + 1 := ⟨e - s - 1, by omega⟩
    rw [hn]
    show 1 ≤ (evR vars code n (s + 1) (evS vars (code s) (0, fun _ => 0))).1
    refine evR_pos _ _ ?_
    unfold evS
    rw [if_pos ho]
    exact Nat.le_refl _
  rw [hP, hE.2 0 (by omega), show decide (s = e) = false from decide_eq_false (by omega), Bool.false_or]
/-- which FILE rules r .. r+n-1 choose, with ch chosen so far -/
def chR (fc : Int32) (aft hold : Nat → Bool) (num : Nat → Int32) : Nat → Nat → Int32 → Int32
  | 0, _, ch => if fc ≤ ch then -2 else ch
  | n + 1, r, ch => if !aft r && hold r then (if ¬ ch = -1 ∧ ¬ ch = num r then -2 else chR fc aft hold num n (r + 1) (num r)) else chR fc aft hold num n (r + 1) ch
def ahR (aft hold : Nat → Bool) (num : Nat → Int32) : Nat → Nat → Int32 → Int32
  | 0, _, acc => acc
  | n + 1, r, acc => if aft r && hold r then ahR aft hold num n (r + 1) (acc ||| (nI 1 <<< (num r &&& 31))) else ahR aft hold num n (r + 1) acc
def aftC (G : gS) (j r : Nat) : Bool := !(G.1 (50 + j) r == 0)
def holdC (G : gS) (j : Nat) (vars : Nat → Int32) (r : Nat) : Bool := hP vars (G.1 (90 + j)) (cN (G.1 (70 + j) r)) (cN (G.1 (80 + j) r))
/-- Rules j are well made: n of them -/
def RW (G : gS) (j n : Nat) : Prop := G.1 (40 + j) 0 = nI n ∧ n ≤ 20 ∧ ∀ r, r < n → G.1 (70 + j) r = nI (cN (G.1 (70 + j) r)) ∧ G.1 (80 + j) r = nI (cN (G.1 (80 + j) r)) ∧ cN (G.1 (70 + j) r) ≤ cN (G.1 (80 + j) r) ∧ cN (G.1 (80 + j) r) ≤ 400 ∧ (cN (G.1 (70 + j) r) < cN (G.1 (80 + j) r) → opnd (G.1 (90 + j) (cN (G.1 (70 + j) r))) = true)
def chC (G : gS) (j n : Nat) (vars : Nat → Int32) (fc : Int32) : Int32 := chR fc (aftC G j) (holdC G j vars) (G.1 (60 + j)) n 0 (-1)
def ahC (G : gS) (j n : Nat) (vars : Nat → Int32) : Int32 := ahR (aftC G j) (holdC G j vars) (G.1 (60 + j)) n 0 (nI 0)
theorem RW.fr {S : Nat → Prop} {G G' : gS} {j n : Nat} (h : RW G j n) (hF : Fr S G G') (h1 : ¬ S (40 + j)) (h2 : ¬ S (70 + j)) (h3 : ¬ S (80 + j)) (h4 : ¬ S (90 + j)) : RW G' j n := by
  unfold RW
  rw [hF.1 _ h1, hF.1 _ h2, hF.1 _ h3, hF.1 _ h4]
  exact h
theorem chC_fr {S : Nat → Prop} {G G' : gS} {j n : Nat} {vars : Nat → Int32} {fc : Int32} (hF : Fr S G G') (h0 : ¬ S (50 + j)) (h1 : ¬ S (60 + j)) (h2 : ¬ S (70 + j)) (h3 : ¬ S (80 + j)) (h4 : ¬ S (90 + j)) : chC G' j n vars fc = chC G j n vars fc := by
  unfold chC holdC aftC
  rw [hF.1 _ h0, hF.1 _ h1, hF.1 _ h2, hF.1 _ h3, hF.1 _ h4]
theorem ahC_fr {S : Nat → Prop} {G G' : gS} {j n : Nat} {vars : Nat → Int32} (hF : Fr S G G') (h0 : ¬ S (50 + j)) (h1 : ¬ S (60 + j)) (h2 : ¬ S (70 + j)) (h3 : ¬ S (80 + j)) (h4 : ¬ S (90 + j)) : ahC G' j n vars = ahC G j n vars := by
  unfold ahC holdC aftC
  rw [hF.1 _ h0, hF.1 _ h1, hF.1 _ h2, hF.1 _ h3, hF.1 _ h4]
