/-! two new ones stand side by side -/
theorem rr_start {GC GM : gS} (c61 : GC.1 6 1 = nI 0) (c64 : GC.1 6 4 = nI 0) (c65 : GC.1 6 5 = nI 2) (c10 : ∀ k, k < 4 → GC.1 10 k = nI 0) (c11 : GC.1 11 0 = nI 0) (c12 : ∀ t, t < 300 → GC.1 12 t = nI 0) (c13 : ∀ k, k < 600 → GC.2.1 13 k = 0) (cr0 : ∀ j, j < 3 → GC.1 (40 + j) 0 = nI 0 ∧ GC.1 (40 + j) 1 = nI 0) (ck : ∀ k, k < 2 → GC.2.2 14 k = 40 + k) (c33 : GC.2.2 3 3 = 40 + 2) (c04 : GC.1 0 4 = nI 1) (c11' : GC.1 1 1 = nI 0) (c2 : ∀ k, GC.1 2 k = nI 0) (c38 : GC.1 3 8 = -1)
    (m36 : GM.1 100 36 = nI 0) (m41 : GM.1 100 41 = nI 0) (m44 : GM.1 100 44 = nI 2) (m45 : GM.1 100 45 = nI 0) (m53 : GM.1 100 53 = nI 0) (m2 : GM.1 100 2 = nI 0) (m17 : GM.1 100 17 = -1) (m40 : ∀ k, k < 4 → GM.1 40 k = nI 0) (m46 : ∀ k, k < 2400 → GM.1 46 k = nI 0 ∧ GM.1 47 k = nI 0) (m48 : ∀ k, k < 600 → GM.1 48 k = nI 0) (m49 : ∀ k, k < 21600 → GM.1 49 k = nI 0) (m18 : ∀ k, k < 2 → GM.1 18 k = nI 0) (m20 : ∀ k, k < 4 → GM.1 20 k = nI 0) (mk : ∀ k, k < 12 → GM.2.1 9 k = lN (kyN.getD k 0)) : RR GC GM := by
  have b0 : ∀ k, bt (nI 0) k = false := fun k => by unfold bt; simp [show (nI 0).toBitVec.toNat = 0 from rfl]
  have bl0 : ∀ k, btL 0 k = false := fun k => by unfold btL; simp [show (0 : Int64).toBitVec.toNat = 0 from rfl]
  have htb : ∀ k, tB GC k = 0 := fun k => by unfold tB; rw [c2]; exact cN_nI (by decide)
  refine ⟨0, 0, 2, 0, fun k => if k = 0 then 0 else 1, fun _ => 0, fun _ => 0, true, 0, 2, ⟨⟨c61, m36, by decide⟩, ⟨c64, m41, by decide⟩, fun f hf => absurd hf (Nat.not_lt_zero f), ⟨c65, m44, by decide, by decide⟩, fun k hk => by rw [m40 k hk, c10 k hk], ⟨c11, m45, by decide⟩, fun t ht i hi => ?_, fun t ht k hk => ?_, fun t ht b hb => ?_, fun t i ht hi hb => ?_, fun i hi => absurd hi (Nat.not_lt_zero i), fun i hi => absurd hi (Nat.not_lt_zero i), ⟨fun k => ?_, fun k hk => ⟨?_, ?_⟩⟩, fun k hk => ?_⟩, ran.st c04 m53, ⟨⟨c11', by decide, fun k hk => absurd hk (Nat.not_lt_zero k)⟩, fun k => by rw [htb]; decide, m2, fun j hj => absurd hj (Nat.not_lt_zero j)⟩, by rw [c38, m17], mk, c33, by decide, by decide, by decide, by decide, fun k hk => ?_⟩
  · rw [c12 t ht, b0, b0]
    exact m46 _ (by omega)
  · rw [c12 t ht, b0]
    exact m48 _ (by omega)
  · unfold wrC
    rw [c13 _ (by omega), bl0]
    exact m49 _ (by omega)
  · rw [c12 t ht, b0] at hb
    cases hb
  · show (if k = 0 then 0 else 1) < 3
    split <;> decide
  · rw [ck k hk]
    show 40 + k = 40 + (if k = 0 then 0 else 1)
    split <;> omega
  · have hj : (if k = 0 then 0 else 1 : Nat) < 3 := by split <;> decide
    exact ⟨(cr0 _ hj).1, Nat.zero_le 20, fun r hr => absurd hr (Nat.not_lt_zero r)⟩
  · have hj : (if k = 0 then 0 else 1 : Nat) < 3 := by split <;> decide
    exact ⟨m18 k hk, Nat.zero_lt_two, [], [], 500 * (2 * k + 0), ⟨(cr0 _ hj).1, (cr0 _ hj).2, trivial⟩, trivial, rfl, by decide, by decide, trivial, by omega, by decide, m20 (2 * k + 0) (by omega)⟩
  · show (if k = 0 then 0 else 1) = (if 1 = 0 then 0 else 1)
    rw [if_neg (by omega)]
    rfl
