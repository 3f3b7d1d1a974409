/-! tokens of both programs -/
def a27 (B : Nat → Nat) (i : Nat) : Nat → Nat
  | 0 => 0
  | k + 1 => 27 * a27 B i k + (B (i + k) - 96)
def a256 (B : Nat → Nat) (i : Nat) : Nat → Nat
  | 0 => 0
  | k + 1 => a256 B i k * 256 + B (i + k)
theorem accW_s (B : Nat → Nat) : ∀ (k i : Nat) (a : Int64), accW B (k + 1) i a = ((accW B k i a <<< ((nI 8).toInt64 &&& 63)) ||| (nI (B (i + k))).toInt64)
  | 0, i, a => rfl
  | k + 1, i, a => by
    rw [accW, accW_s B k (i + 1), accW, show i + 1 + k = i + (k + 1) by omega]
theorem accW_n {B : Nat → Nat} (hB : ∀ k, B k < 256) (i : Nat) : ∀ k, accW B k i 0 = lN (a256 B i k)
  | 0 => rfl
  | k + 1 => by
    rw [accW_s, accW_n hB i k, wb_shl _ (by decide), nI_l (by have := hB (i + k); omega), a256]
    generalize a256 B i k = a
    have hb := hB (i + k)
    generalize B (i + k) = b at hb
    rw [wb_mod (a * 2 ^ 8), wb_mod (a * 256 + b)]
    have e : a * 2 ^ 8 % 2 ^ 64 = (a % 2 ^ 56) * 2 ^ 8 := by omega
    rw [e, wb_or (by omega) (by omega), ← Nat.shiftLeft_eq, ← Nat.shiftLeft_add_eq_or_of_lt (show b < 2 ^ 8 by omega), Nat.shiftLeft_eq]
    congr 1
    omega
theorem a256_add (B : Nat → Nat) (i j : Nat) : ∀ k, ∃ r, a256 B i (j + k) = a256 B i j * 256 ^ k + r ∧ ((∀ q, B q < 256) → r < 256 ^ k)
  | 0 => ⟨0, by simp, fun _ => by simp⟩
  | k + 1 => by
    obtain ⟨r, h1, h2⟩ := a256_add B i j k
    refine ⟨r * 256 + B (i + (j + k)), ?_, fun hB => ?_⟩
    · rw [show j + (k + 1) = (j + k) + 1 by omega, a256, h1, Nat.pow_succ, Nat.add_mul, Nat.mul_assoc, Nat.add_assoc]
    · have := h2 hB
      have := hB (i + (j + k))
      rw [Nat.pow_succ]
      omega
theorem a256_big {B : Nat → Nat} (hB : ∀ k, B k < 256) {i m : Nat} (hm : 6 ≤ m) (hl : ∀ k, i ≤ k → k < i + m → 97 ≤ B k) : 2 ^ 40 ≤ a256 B i m % 2 ^ 64 := by
  obtain ⟨r, h1, h2⟩ := a256_add B i (m - 5) 5
  have h2 := h2 hB
  rw [show m - 5 + 5 = m by omega] at h1
  obtain ⟨q, hq⟩ : ∃ q, m - 5 = q + 1 := ⟨m - 6, by omega⟩
  rw [hq, a256] at h1
  have h3 := hl (i + q) (by omega) (by omega)
  have h4 := hB (i + q)
  rw [h1]
  generalize a256 B i q = x at *
  generalize B (i + q) = b at *
  simp only [Nat.reducePow] at *
  omega
theorem a27_big {B : Nat → Nat} {i m : Nat} (hm : 6 ≤ m) (hl : ∀ k, i ≤ k → k < i + m → 97 ≤ B k) : 14348907 ≤ a27 B i m := by
  induction m with
  | zero => omega
  | succ m ih =>
    have h := hl (i + m) (by omega) (by omega)
    rw [a27]
    by_cases e : 6 ≤ m
    · have := ih e (fun k h1 h2 => hl k h1 (by omega)); omega
    · obtain rfl : m = 5 := by omega
      have l0 := hl i (by omega) (by omega)
      simp only [a27, Nat.add_zero]
      omega
theorem a27_lt {B : Nat → Nat} {i : Nat} (hB : ∀ k, B k ≤ 122) : ∀ m, a27 B i m < 27 ^ m
  | 0 => by show 0 < 1; decide
  | m + 1 => by
    have := a27_lt (i := i) hB m
    have := hB (i + m)
    rw [a27, Nat.pow_succ]
    omega
def wN : List Nat := [1718185061, 418330731890, 26982, 28530, 6385252, 1802071652, 482854658917, 1835102827, 500135716211, 6447460, 422608074094, 1953063787]
def kyN : List Nat := [124988, 249, 664272, 423, 1111, 223456, 8740067, 257105, 10989829, 1489, 1166981, 400313]
def rho : List Nat := [0, 2, 1, 3, 4, 5, 6, 7, 8, 9, 10, 11]
theorem tWd_n : ∀ k, k < 12 → tWd.getD k 0 = lN (wN.getD k 0) ∧ wN.getD k 0 < 2 ^ 40 := by decide +kernel
theorem kyN_lt : ∀ k, k < 12 → kyN.getD k 0 < 14348907 := by decide +kernel
theorem rho_lt : ∀ k, k < 12 → rho.getD k 0 < 12 := by decide +kernel
theorem rho_on : ∀ j, j < 12 → ∃ k, k < 12 ∧ rho.getD k 0 = j := by decide +kernel
theorem ky_ne : ∀ j, j < 12 → ∀ k, k < 12 → kyN.getD j 0 = kyN.getD k 0 → j = k := by decide +kernel
theorem wN_ne : ∀ j, j < 12 → ∀ k, k < 12 → wN.getD j 0 = wN.getD k 0 → j = k := by decide +kernel
theorem kw_1 {b0 : Nat} (h0 : 97 ≤ b0 ∧ b0 ≤ 122) : ∀ k, k < 12 → ((0) * 256 + b0 = wN.getD k 0 ↔ 27 * (0) + (b0 - 96) = kyN.getD (rho.getD k 0) 0) := by
  intro k hk
  rcases (show k = 0 ∨ k = 1 ∨ k = 2 ∨ k = 3 ∨ k = 4 ∨ k = 5 ∨ k = 6 ∨ k = 7 ∨ k = 8 ∨ k = 9 ∨ k = 10 ∨ k = 11 by omega) with rfl | rfl | rfl | rfl | rfl | rfl | rfl | rfl | rfl | rfl | rfl | rfl
  · show _ = 1718185061 ↔ _ = 124988
    omega
  · show _ = 418330731890 ↔ _ = 664272
    omega
  · show _ = 26982 ↔ _ = 249
    omega
  · show _ = 28530 ↔ _ = 423
    omega
  · show _ = 6385252 ↔ _ = 1111
    omega
  · show _ = 1802071652 ↔ _ = 223456
    omega
  · show _ = 482854658917 ↔ _ = 8740067
    omega
  · show _ = 1835102827 ↔ _ = 257105
    omega
  · show _ = 500135716211 ↔ _ = 10989829
    omega
  · show _ = 6447460 ↔ _ = 1489
    omega
  · show _ = 422608074094 ↔ _ = 1166981
    omega
  · show _ = 1953063787 ↔ _ = 400313
    omega
theorem kw_2 {b0 b1 : Nat} (h0 : 97 ≤ b0 ∧ b0 ≤ 122) (h1 : 97 ≤ b1 ∧ b1 ≤ 122) : ∀ k, k < 12 → (((0) * 256 + b0) * 256 + b1 = wN.getD k 0 ↔ 27 * (27 * (0) + (b0 - 96)) + (b1 - 96) = kyN.getD (rho.getD k 0) 0) := by
  intro k hk
  rcases (show k = 0 ∨ k = 1 ∨ k = 2 ∨ k = 3 ∨ k = 4 ∨ k = 5 ∨ k = 6 ∨ k = 7 ∨ k = 8 ∨ k = 9 ∨ k = 10 ∨ k = 11 by omega) with rfl | rfl | rfl | rfl | rfl | rfl | rfl | rfl | rfl | rfl | rfl | rfl
  · show _ = 1718185061 ↔ _ = 124988
    omega
  · show _ = 418330731890 ↔ _ = 664272
    omega
  · show _ = 26982 ↔ _ = 249
    omega
  · show _ = 28530 ↔ _ = 423
    omega
  · show _ = 6385252 ↔ _ = 1111
    omega
  · show _ = 1802071652 ↔ _ = 223456
    omega
  · show _ = 482854658917 ↔ _ = 8740067
    omega
  · show _ = 1835102827 ↔ _ = 257105
    omega
  · show _ = 500135716211 ↔ _ = 10989829
    omega
  · show _ = 6447460 ↔ _ = 1489
    omega
  · show _ = 422608074094 ↔ _ = 1166981
    omega
  · show _ = 1953063787 ↔ _ = 400313
    omega
theorem kw_3 {b0 b1 b2 : Nat} (h0 : 97 ≤ b0 ∧ b0 ≤ 122) (h1 : 97 ≤ b1 ∧ b1 ≤ 122) (h2 : 97 ≤ b2 ∧ b2 ≤ 122) : ∀ k, k < 12 → ((((0) * 256 + b0) * 256 + b1) * 256 + b2 = wN.getD k 0 ↔ 27 * (27 * (27 * (0) + (b0 - 96)) + (b1 - 96)) + (b2 - 96) = kyN.getD (rho.getD k 0) 0) := by
  intro k hk
  rcases (show k = 0 ∨ k = 1 ∨ k = 2 ∨ k = 3 ∨ k = 4 ∨ k = 5 ∨ k = 6 ∨ k = 7 ∨ k = 8 ∨ k = 9 ∨ k = 10 ∨ k = 11 by omega) with rfl | rfl | rfl | rfl | rfl | rfl | rfl | rfl | rfl | rfl | rfl | rfl
  · show _ = 1718185061 ↔ _ = 124988
    omega
  · show _ = 418330731890 ↔ _ = 664272
    omega
  · show _ = 26982 ↔ _ = 249
    omega
  · show _ = 28530 ↔ _ = 423
    omega
  · show _ = 6385252 ↔ _ = 1111
    omega
  · show _ = 1802071652 ↔ _ = 223456
    omega
  · show _ = 482854658917 ↔ _ = 8740067
    omega
  · show _ = 1835102827 ↔ _ = 257105
    omega
  · show _ = 500135716211 ↔ _ = 10989829
    omega
  · show _ = 6447460 ↔ _ = 1489
    omega
  · show _ = 422608074094 ↔ _ = 1166981
    omega
  · show _ = 1953063787 ↔ _ = 400313
    omega
theorem kw_4 {b0 b1 b2 b3 : Nat} (h0 : 97 ≤ b0 ∧ b0 ≤ 122) (h1 : 97 ≤ b1 ∧ b1 ≤ 122) (h2 : 97 ≤ b2 ∧ b2 ≤ 122) (h3 : 97 ≤ b3 ∧ b3 ≤ 122) : ∀ k, k < 12 → (((((0) * 256 + b0) * 256 + b1) * 256 + b2) * 256 + b3 = wN.getD k 0 ↔ 27 * (27 * (27 * (27 * (0) + (b0 - 96)) + (b1 - 96)) + (b2 - 96)) + (b3 - 96) = kyN.getD (rho.getD k 0) 0) := by
  intro k hk
  rcases (show k = 0 ∨ k = 1 ∨ k = 2 ∨ k = 3 ∨ k = 4 ∨ k = 5 ∨ k = 6 ∨ k = 7 ∨ k = 8 ∨ k = 9 ∨ k = 10 ∨ k = 11 by omega) with rfl | rfl | rfl | rfl | rfl | rfl | rfl | rfl | rfl | rfl | rfl | rfl
  · show _ = 1718185061 ↔ _ = 124988
    omega
  · show _ = 418330731890 ↔ _ = 664272
    omega
  · show _ = 26982 ↔ _ = 249
    omega
  · show _ = 28530 ↔ _ = 423
    omega
  · show _ = 6385252 ↔ _ = 1111
    omega
  · show _ = 1802071652 ↔ _ = 223456
    omega
  · show _ = 482854658917 ↔ _ = 8740067
    omega
  · show _ = 1835102827 ↔ _ = 257105
    omega
  · show _ = 500135716211 ↔ _ = 10989829
    omega
  · show _ = 6447460 ↔ _ = 1489
    omega
  · show _ = 422608074094 ↔ _ = 1166981
    omega
  · show _ = 1953063787 ↔ _ = 400313
    omega
theorem kw_5 {b0 b1 b2 b3 b4 : Nat} (h0 : 97 ≤ b0 ∧ b0 ≤ 122) (h1 : 97 ≤ b1 ∧ b1 ≤ 122) (h2 : 97 ≤ b2 ∧ b2 ≤ 122) (h3 : 97 ≤ b3 ∧ b3 ≤ 122) (h4 : 97 ≤ b4 ∧ b4 ≤ 122) : ∀ k, k < 12 → ((((((0) * 256 + b0) * 256 + b1) * 256 + b2) * 256 + b3) * 256 + b4 = wN.getD k 0 ↔ 27 * (27 * (27 * (27 * (27 * (0) + (b0 - 96)) + (b1 - 96)) + (b2 - 96)) + (b3 - 96)) + (b4 - 96) = kyN.getD (rho.getD k 0) 0) := by
  intro k hk
  rcases (show k = 0 ∨ k = 1 ∨ k = 2 ∨ k = 3 ∨ k = 4 ∨ k = 5 ∨ k = 6 ∨ k = 7 ∨ k = 8 ∨ k = 9 ∨ k = 10 ∨ k = 11 by omega) with rfl | rfl | rfl | rfl | rfl | rfl | rfl | rfl | rfl | rfl | rfl | rfl
  · show _ = 1718185061 ↔ _ = 124988
    omega
  · show _ = 418330731890 ↔ _ = 664272
    omega
  · show _ = 26982 ↔ _ = 249
    omega
  · show _ = 28530 ↔ _ = 423
    omega
  · show _ = 6385252 ↔ _ = 1111
    omega
  · show _ = 1802071652 ↔ _ = 223456
    omega
  · show _ = 482854658917 ↔ _ = 8740067
    omega
  · show _ = 1835102827 ↔ _ = 257105
    omega
  · show _ = 500135716211 ↔ _ = 10989829
    omega
  · show _ = 6447460 ↔ _ = 1489
    omega
  · show _ = 422608074094 ↔ _ = 1166981
    omega
  · show _ = 1953063787 ↔ _ = 400313
    omega
theorem kw_iff {B : Nat → Nat} {i m : Nat} (h1 : 1 ≤ m) (hm : m ≤ 5) (hl : ∀ k, i ≤ k → k < i + m → 97 ≤ B k ∧ B k ≤ 122) : ∀ k, k < 12 → (a256 B i m = wN.getD k 0 ↔ a27 B i m = kyN.getD (rho.getD k 0) 0) := by
  rcases (show m = 1 ∨ m = 2 ∨ m = 3 ∨ m = 4 ∨ m = 5 by omega) with rfl | rfl | rfl | rfl | rfl
  · exact kw_1 (hl (i + 0) (by omega) (by omega))
  · exact kw_2 (hl (i + 0) (by omega) (by omega)) (hl (i + 1) (by omega) (by omega))
  · exact kw_3 (hl (i + 0) (by omega) (by omega)) (hl (i + 1) (by omega) (by omega)) (hl (i + 2) (by omega) (by omega))
  · exact kw_4 (hl (i + 0) (by omega) (by omega)) (hl (i + 1) (by omega) (by omega)) (hl (i + 2) (by omega) (by omega)) (hl (i + 3) (by omega) (by omega))
  · exact kw_5 (hl (i + 0) (by omega) (by omega)) (hl (i + 1) (by omega) (by omega)) (hl (i + 2) (by omega) (by omega)) (hl (i + 3) (by omega) (by omega)) (hl (i + 4) (by omega) (by omega))
theorem ws_cases (A : Nat) (hA : A < 2 ^ 64) : ∀ n, n ≤ 12 → (∃ k, k < n ∧ A = wN.getD k 0 ∧ wsF (lN A) n = (tWs.getD k 0, tWv.getD k 0)) ∨ ((∀ k, k < n → A ≠ wN.getD k 0) ∧ wsF (lN A) n = (nI 1, nI 0))
  | 0, _ => Or.inr ⟨fun k hk => absurd hk (Nat.not_lt_zero k), rfl⟩
  | n + 1, hn => by
    obtain ⟨e1, e2⟩ := tWd_n n (by omega)
    have key : tWd.getD n 0 = lN A ↔ A = wN.getD n 0 := by
      rw [e1]
      constructor
      · intro h
        have : (lN (wN.getD n 0)).toBitVec.toNat = (lN A).toBitVec.toNat := by rw [h]
        rw [wb_tn (by omega), wb_tn hA] at this
        exact this.symm
      · intro h; rw [h]
    rw [wsF]
    by_cases h : A = wN.getD n 0
    · exact Or.inl ⟨n, Nat.lt_succ_self n, h, if_pos (key.mpr h)⟩
    · rw [if_neg (fun z => h (key.mp z))]
      rcases ws_cases A hA n (by omega) with ⟨k, h1, h2, h3⟩ | ⟨h1, h2⟩
      · exact Or.inl ⟨k, by omega, h2, h3⟩
      · refine Or.inr ⟨fun k hk => ?_, h2⟩
        by_cases e : k = n
        · subst e; exact h
        · exact h1 k (by omega)
/-- the reference's search among its keys -/
def kdF (N : Nat) (base : Int32) : Nat → Int32
  | 0 => base
  | k + 1 => if kyN.getD k 0 = N then nI (20 + k) else kdF N base k
theorem kd_cases (N : Nat) (base : Int32) : ∀ n, (∃ j, j < n ∧ kyN.getD j 0 = N ∧ kdF N base n = nI (20 + j)) ∨ ((∀ j, j < n → kyN.getD j 0 ≠ N) ∧ kdF N base n = base)
  | 0 => Or.inr ⟨fun k hk => absurd hk (Nat.not_lt_zero k), rfl⟩
  | n + 1 => by
    rw [kdF]
    by_cases h : kyN.getD n 0 = N
    · exact Or.inl ⟨n, Nat.lt_succ_self n, h, if_pos h⟩
    · rw [if_neg h]
      rcases kd_cases N base n with ⟨k, h1, h2, h3⟩ | ⟨h1, h2⟩
      · exact Or.inl ⟨k, by omega, h2, h3⟩
      · refine Or.inr ⟨fun k hk => ?_, h2⟩
        by_cases e : k = n
        · subst e; exact h
        · exact h1 k (by omega)
/-- a token of the class's sort and value, as the reference names it -/
def tkR (s v kd vl : Int32) : Prop :=
  (s = nI 0 ∧ kd = nI 0) ∨ (s = nI 1 ∧ (kd = nI 1 ∨ kd = nI 3)) ∨ (∃ x, x ≤ 9999 ∧ s = nI 2 ∧ v = nI x ∧ kd = nI 2 ∧ vl = nI x) ∨
  (∃ x, x < 7 ∧ s = nI 3 ∧ v = nI x ∧ kd = nI (25 + x)) ∨ (s = nI 4 ∧ kd = nI 20) ∨ (s = nI 5 ∧ kd = nI 22) ∨ (s = nI 6 ∧ kd = nI 21) ∨
  (∃ x, 1 ≤ x ∧ x ≤ 2 ∧ s = nI 7 ∧ v = nI x ∧ kd = nI (22 + x)) ∨ (∃ x, 3 ≤ x ∧ x ≤ 6 ∧ s = nI 8 ∧ v = nI x ∧ kd = nI (8 + x)) ∨
  (∃ x, 7 ≤ x ∧ x ≤ 9 ∧ s = nI 9 ∧ v = nI x ∧ kd = nI (1 + x)) ∨ (s = nI 10 ∧ kd = nI 6) ∨ (s = nI 11 ∧ kd = nI 7) ∨ (s = nI 12 ∧ kd = nI 4)
theorem tk_key : ∀ k, k < 12 → ∀ vl, tkR (tWs.getD k 0) (tWv.getD k 0) (nI (20 + rho.getD k 0)) vl := by
  intro k hk vl
  unfold tkR
  rcases (show k = 0 ∨ k = 1 ∨ k = 2 ∨ k = 3 ∨ k = 4 ∨ k = 5 ∨ k = 6 ∨ k = 7 ∨ k = 8 ∨ k = 9 ∨ k = 10 ∨ k = 11 by omega) with rfl | rfl | rfl | rfl | rfl | rfl | rfl | rfl | rfl | rfl | rfl | rfl
  · exact Or.inr (Or.inr (Or.inr (Or.inr (Or.inl ⟨rfl, rfl⟩))))
  · exact Or.inr (Or.inr (Or.inr (Or.inr (Or.inr (Or.inl ⟨rfl, rfl⟩)))))
  · exact Or.inr (Or.inr (Or.inr (Or.inr (Or.inr (Or.inr (Or.inl ⟨rfl, rfl⟩))))))
  · exact Or.inr (Or.inr (Or.inr (Or.inr (Or.inr (Or.inr (Or.inr (Or.inl ⟨1, by decide, by decide, rfl, rfl, rfl⟩)))))))
  · exact Or.inr (Or.inr (Or.inr (Or.inr (Or.inr (Or.inr (Or.inr (Or.inl ⟨2, by decide, by decide, rfl, rfl, rfl⟩)))))))
  · exact Or.inr (Or.inr (Or.inr (Or.inl ⟨0, by decide, rfl, rfl, rfl⟩)))
  · exact Or.inr (Or.inr (Or.inr (Or.inl ⟨1, by decide, rfl, rfl, rfl⟩)))
  · exact Or.inr (Or.inr (Or.inr (Or.inl ⟨2, by decide, rfl, rfl, rfl⟩)))
  · exact Or.inr (Or.inr (Or.inr (Or.inl ⟨3, by decide, rfl, rfl, rfl⟩)))
  · exact Or.inr (Or.inr (Or.inr (Or.inl ⟨4, by decide, rfl, rfl, rfl⟩)))
  · exact Or.inr (Or.inr (Or.inr (Or.inl ⟨5, by decide, rfl, rfl, rfl⟩)))
  · exact Or.inr (Or.inr (Or.inr (Or.inl ⟨6, by decide, rfl, rfl, rfl⟩)))
/-- a word: base is NAME or BAD -/
theorem tk_word {B : Nat → Nat} (hB : ∀ k, B k < 256) {i m : Nat} (h1 : 1 ≤ m) (hl : ∀ k, i ≤ k → k < i + m → 97 ≤ B k ∧ B k ≤ 122) {base vl : Int32} (hb : base = nI 1 ∨ base = nI 3) (kd : Int32) (hk7 : m ≤ 7 → kd = kdF (a27 B i m) base 12) (hk8 : 8 ≤ m → kd = base) : tkR (wsF (accW B m i 0) 12).1 (wsF (accW B m i 0) 12).2 kd vl := by
  rw [accW_n hB, wb_mod]
  have hA : a256 B i m % 2 ^ 64 < 2 ^ 64 := Nat.mod_lt _ (by decide)
  have no : wsF (lN (a256 B i m % 2 ^ 64)) 12 = (nI 1, nI 0) → kd = base → tkR (wsF (lN (a256 B i m % 2 ^ 64)) 12).1 (wsF (lN (a256 B i m % 2 ^ 64)) 12).2 kd vl := by
    intro h h2
    rw [h, h2]
    exact Or.inr (Or.inl ⟨rfl, hb⟩)
  by_cases h5 : m ≤ 5
  · have hs : a256 B i m % 2 ^ 64 = a256 B i m := by
      refine Nat.mod_eq_of_lt ?_
      obtain ⟨r, e1, e2⟩ := a256_add B i 0 m
      have e2 := e2 hB
      have : 256 ^ m ≤ 256 ^ 5 := Nat.pow_le_pow_right (by decide) h5
      rw [show 0 + m = m by omega, a256] at e1
      omega
    rw [hs] at hA no ⊢
    have hw := kw_iff h1 h5 hl
    rw [hk7 (by omega)] at no ⊢
    rcases ws_cases (a256 B i m) hA 12 (Nat.le_refl _) with ⟨k, q1, q2, q3⟩ | ⟨q1, q2⟩
    · have e := (hw k q1).mp q2
      rcases kd_cases (a27 B i m) base 12 with ⟨j, p1, p2, p3⟩ | ⟨p1, p2⟩
      · have := ky_ne j p1 (rho.getD k 0) (rho_lt k q1) (p2.trans e)
        rw [q3, p3, this]
        exact tk_key k q1 vl
      · exact absurd e.symm (p1 _ (rho_lt k q1))
    · rcases kd_cases (a27 B i m) base 12 with ⟨j, p1, p2, p3⟩ | ⟨p1, p2⟩
      · obtain ⟨k, r1, r2⟩ := rho_on j p1
        exact absurd ((hw k r1).mpr (by rw [r2]; exact p2.symm)) (q1 k r1)
      · exact no q2 p2
  · have hbig := a256_big hB (show 6 ≤ m by omega) (fun k a b => (hl k a b).1)
    have hb2 := a27_big (B := B) (i := i) (show 6 ≤ m by omega) (fun k a b => (hl k a b).1)
    rcases ws_cases (a256 B i m % 2 ^ 64) hA 12 (Nat.le_refl _) with ⟨k, q1, q2, q3⟩ | ⟨q1, q2⟩
    · have := (tWd_n k q1).2
      omega
    · refine no q2 ?_
      by_cases h7 : m ≤ 7
      · rw [hk7 h7]
        rcases kd_cases (a27 B i m) base 12 with ⟨j, p1, p2, p3⟩ | ⟨p1, p2⟩
        · have := kyN_lt j p1
          omega
        · exact p2
      · exact hk8 (by omega)
def a10 (B : Nat → Nat) (i : Nat) : Nat → Nat
  | 0 => 0
  | k + 1 => 10 * a10 B i k + B (i + k) - 48
theorem intW_s (B : Nat → Nat) : ∀ (k i : Nat) (a : Int32), intW B (k + 1) i a = intW B k i a * nI 10 + nI (B (i + k)) - nI 48
  | 0, i, a => rfl
  | k + 1, i, a => by
    rw [intW, intW_s B k (i + 1), intW, show i + 1 + k = i + (k + 1) by omega]
theorem intW_n {B : Nat → Nat} {i : Nat} : ∀ k, (∀ q, i ≤ q → q < i + k → 48 ≤ B q ∧ B q ≤ 57) → intW B k i (nI 0) = nI (a10 B i k) ∧ a10 B i k < 10 ^ k
  | 0, _ => ⟨rfl, by show 0 < 1; decide⟩
  | k + 1, h => by
    obtain ⟨h1, h2⟩ := intW_n (B := B) (i := i) k (fun q a b => h q a (by omega))
    have h3 := h (i + k) (by omega) (by omega)
    rw [intW_s, h1, pk_mul, nI_add, pk_sub (by omega), a10, Nat.pow_succ, Nat.mul_comm (a10 B i k) 10]
    exact ⟨rfl, by omega⟩
theorem tk_int {B : Nat → Nat} {i m : Nat} (hl : ∀ q, i ≤ q → q < i + m → 48 ≤ B q ∧ B q ≤ 57) {kd vl : Int32} (hk : kd = if m ≤ 4 then nI 2 else nI 3) (hv : m ≤ 4 → vl = nI (a10 B i m)) : tkR (if m ≤ 4 then nI 2 else nI 1) (intW B m i (nI 0)) kd vl := by
  by_cases h : m ≤ 4
  · rw [if_pos h] at hk ⊢
    obtain ⟨h1, h2⟩ := intW_n (B := B) (i := i) m hl
    have : 10 ^ m ≤ 10 ^ 4 := Nat.pow_le_pow_right (by decide) h
    exact Or.inr (Or.inr (Or.inl ⟨a10 B i m, by omega, rfl, h1, hk, hv h⟩))
  · rw [if_neg h] at hk ⊢
    exact Or.inr (Or.inl ⟨rfl, Or.inr hk⟩)
/-- a sign: the reference's name, and its length -/
def sgM (c : Nat) (eq : Bool) : Nat × Nat :=
  if eq = true ∧ c = 61 then (11, 2) else if eq = true ∧ c = 33 then (12, 2) else if eq = true ∧ c = 60 then (14, 2)
  else if c = 59 then (4, 1) else if c = 40 then (6, 1) else if c = 41 then (7, 1) else if c = 43 then (8, 1) else if c = 45 then (9, 1) else if c = 42 then (10, 1) else if c = 60 then (13, 1) else (3, 1)
theorem tk_sign : ∀ c, c < 256 → ∀ eq : Bool, (sgM c eq).2 = (sgF c eq).2.2 ∧ ((sgF c eq).1, (sgF c eq).2.1, (sgM c eq).1) ∈ [(12, 0, 4), (10, 0, 6), (11, 0, 7), (9, 7, 8), (9, 8, 9), (9, 9, 10), (8, 6, 14), (8, 5, 13), (8, 3, 11), (8, 4, 12), (1, 0, 3)] := by decide +kernel
theorem tk_sg {c : Nat} (hc : c < 256) (eq : Bool) (vl : Int32) : tkR (nI (sgF c eq).1) (nI (sgF c eq).2.1) (nI (sgM c eq).1) vl := by
  have h := (tk_sign c hc eq).2
  generalize (sgF c eq).1 = a at h
  generalize (sgF c eq).2.1 = b at h
  generalize (sgM c eq).1 = d at h
  simp only [List.mem_cons, List.not_mem_nil, or_false, Prod.mk.injEq] at h
  unfold tkR
  rcases h with ⟨rfl, rfl, rfl⟩ | ⟨rfl, rfl, rfl⟩ | ⟨rfl, rfl, rfl⟩ | ⟨rfl, rfl, rfl⟩ | ⟨rfl, rfl, rfl⟩ | ⟨rfl, rfl, rfl⟩ | ⟨rfl, rfl, rfl⟩ | ⟨rfl, rfl, rfl⟩ | ⟨rfl, rfl, rfl⟩ | ⟨rfl, rfl, rfl⟩ | ⟨rfl, rfl, rfl⟩
  · exact Or.inr (Or.inr (Or.inr (Or.inr (Or.inr (Or.inr (Or.inr (Or.inr (Or.inr (Or.inr (Or.inr (Or.inr ⟨rfl, rfl⟩)))))))))))
  · exact Or.inr (Or.inr (Or.inr (Or.inr (Or.inr (Or.inr (Or.inr (Or.inr (Or.inr (Or.inr (Or.inl ⟨rfl, rfl⟩))))))))))
  · exact Or.inr (Or.inr (Or.inr (Or.inr (Or.inr (Or.inr (Or.inr (Or.inr (Or.inr (Or.inr (Or.inr (Or.inl ⟨rfl, rfl⟩)))))))))))
  · exact Or.inr (Or.inr (Or.inr (Or.inr (Or.inr (Or.inr (Or.inr (Or.inr (Or.inr (Or.inl ⟨7, by decide, by decide, rfl, rfl, rfl⟩)))))))))
  · exact Or.inr (Or.inr (Or.inr (Or.inr (Or.inr (Or.inr (Or.inr (Or.inr (Or.inr (Or.inl ⟨8, by decide, by decide, rfl, rfl, rfl⟩)))))))))
  · exact Or.inr (Or.inr (Or.inr (Or.inr (Or.inr (Or.inr (Or.inr (Or.inr (Or.inr (Or.inl ⟨9, by decide, by decide, rfl, rfl, rfl⟩)))))))))
  · exact Or.inr (Or.inr (Or.inr (Or.inr (Or.inr (Or.inr (Or.inr (Or.inr (Or.inl ⟨6, by decide, by decide, rfl, rfl, rfl⟩))))))))
  · exact Or.inr (Or.inr (Or.inr (Or.inr (Or.inr (Or.inr (Or.inr (Or.inr (Or.inl ⟨5, by decide, by decide, rfl, rfl, rfl⟩))))))))
  · exact Or.inr (Or.inr (Or.inr (Or.inr (Or.inr (Or.inr (Or.inr (Or.inr (Or.inl ⟨3, by decide, by decide, rfl, rfl, rfl⟩))))))))
  · exact Or.inr (Or.inr (Or.inr (Or.inr (Or.inr (Or.inr (Or.inr (Or.inr (Or.inl ⟨4, by decide, by decide, rfl, rfl, rfl⟩))))))))
  · exact Or.inr (Or.inl ⟨rfl, Or.inr rfl⟩)
/-- where the k-th token begins to be looked for -/
def pP (B : Nat → Nat) (n : Nat) : Nat → Nat
  | 0 => 0
  | k + 1 => (tokC B n (pP B n k)).2.2.2
def tkT (B : Nat → Nat) (n k : Nat) : Int32 × Int32 × Nat × Nat := tokC B n (pP B n k)
theorem pP_le (B : Nat → Nat) (n : Nat) : ∀ k, pP B n k ≤ n
  | 0 => Nat.zero_le n
  | k + 1 => (tokC_le (pP_le B n k)).1
/-- letters from i to the word's end -/
theorem whB_all {p : Nat → Bool} {B : Nat → Nat} {n : Nat} : ∀ (f i q : Nat), i ≤ q → q < whB p B n f i → p (B q) = true ∧ q < n
  | 0, i, q, h1, h2 => by rw [whB] at h2; omega
  | f + 1, i, q, h1, h2 => by
    rw [whB] at h2
    by_cases c : i < n ∧ p (B i) = true
    · rw [if_pos c] at h2
      by_cases e : q = i
      · subst e; exact ⟨c.2, c.1⟩
      · exact whB_all f (i + 1) q (by omega) h2
    · rw [if_neg c] at h2; omega
theorem skB_all {p : Nat → Bool} {B : Nat → Nat} {n i q : Nat} (h1 : i ≤ q) (h2 : q < skB p B n i) : p (B q) = true ∧ q < n := whB_all _ _ q h1 h2
