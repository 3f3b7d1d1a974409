/-- there is a line: one by one, each behind those who have waited as long -/
theorem line_some (t : Int32) (F : Nat → Nat → Int32) : ∀ n, ∃ L, lineOk t n F L
  | 0 => ⟨[], fun i => ⟨fun h => absurd h List.not_mem_nil, fun h => absurd h.1 (Nat.not_lt_zero i)⟩, List.Pairwise.nil⟩
  | n + 1 => by
    obtain ⟨L, hL⟩ := line_some t F n
    cases hw : wantB t (F n) with
    | false => exact ⟨L, line_skip hL hw⟩
    | true =>
      have key : ∀ d a, d = a → a ≤ L.length → (∀ k, a ≤ k → k < L.length → F n 14 < F (L.getD k 0) 14) → ∃ M, lineOk t (n + 1) F M := by
        intro d
        induction d with
        | zero =>
          intro a hd ha hh
          subst hd
          exact ⟨_, line_ins hL hw ha (fun k hk => absurd hk (Nat.not_lt_zero k)) hh⟩
        | succ d ih =>
          intro a hd ha hh
          subst hd
          by_cases hc : F n 14 < F (L.getD d 0) 14
          · refine ih d rfl (by omega) (fun k h1 h2 => ?_)
            by_cases e : k = d
            · subst e; exact hc
            · exact hh k (by omega) h2
          · refine ⟨_, line_ins hL hw ha (fun k hk => ?_) hh⟩
            by_cases e : k = d
            · subst e; exact hc
            · have h1 := line_le hL.2 (k := k) (m := d) (by omega) (by omega)
              exact Int32.not_lt.mpr (Int32.le_trans (Int32.not_lt.mp h1) (Int32.not_lt.mp hc))
      exact key L.length L.length rfl (Nat.le_refl _) (fun k h1 h2 => by omega)
theorem line_ex (t : Int32) (n : Nat) (F : Nat → Nat → Int32) : lineOk t n F (lineC t n F) := Classical.epsilon_spec (line_some t F n)
