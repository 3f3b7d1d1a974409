/-! rules, by both parsers -/
theorem tkk {s v kd vl : Int32} (h : tkR s v kd vl) : ∃ b, b < 40 ∧ kd = nI b ∧ s = nI (cN s) ∧ cN s ≤ 12 ∧ (b = 20 ↔ cN s = 4) ∧ (b = 22 ↔ cN s = 5) ∧ (b = 2 ↔ cN s = 2) ∧ (b = 21 ↔ cN s = 6) ∧ ((b = 23 ∨ b = 24) ↔ cN s = 7) ∧ (b = 4 ↔ cN s = 12) ∧ (b = 0 ↔ cN s = 0) ∧ (cN s = 7 → v = nI (b - 22)) ∧ (cN s = 2 → ∃ x, x ≤ 9999 ∧ v = nI x ∧ vl = nI x) := by
  have o : ∀ a b, s = nI a → kd = nI b → a ≤ 12 → b < 40 → (b = 20 ↔ a = 4) → (b = 22 ↔ a = 5) → (b = 2 ↔ a = 2) → (b = 21 ↔ a = 6) → ((b = 23 ∨ b = 24) ↔ a = 7) → (b = 4 ↔ a = 12) → (b = 0 ↔ a = 0) → (a = 7 → v = nI (b - 22)) → (a = 2 → ∃ x, x ≤ 9999 ∧ v = nI x ∧ vl = nI x) → ∃ b, b < 40 ∧ kd = nI b ∧ s = nI (cN s) ∧ cN s ≤ 12 ∧ (b = 20 ↔ cN s = 4) ∧ (b = 22 ↔ cN s = 5) ∧ (b = 2 ↔ cN s = 2) ∧ (b = 21 ↔ cN s = 6) ∧ ((b = 23 ∨ b = 24) ↔ cN s = 7) ∧ (b = 4 ↔ cN s = 12) ∧ (b = 0 ↔ cN s = 0) ∧ (cN s = 7 → v = nI (b - 22)) ∧ (cN s = 2 → ∃ x, x ≤ 9999 ∧ v = nI x ∧ vl = nI x) := by
    intro a b e1 e2 h1 h2 h3 h4 h5 h6 h7 h8 h9 h10 h11
    have e : cN s = a := by rw [e1]; exact cN_nI (by omega)
    rw [e]
    exact ⟨b, h2, e2, e1, h1, h3, h4, h5, h6, h7, h8, h9, h10, h11⟩
  rcases h with ⟨h1, h2⟩ | ⟨h1, h2 | h2⟩ | ⟨x, h1, h2, h3, h4, h5⟩ | ⟨x, h1, h2, h3, h4⟩ | ⟨h1, h2⟩ | ⟨h1, h2⟩ | ⟨h1, h2⟩ | ⟨x, h1, h2, h3, h4, h5⟩ | ⟨x, h1, h2, h3, h4, h5⟩ | ⟨x, h1, h2, h3, h4, h5⟩ | ⟨h1, h2⟩ | ⟨h1, h2⟩ | ⟨h1, h2⟩
  · exact o 0 0 h1 h2 (by decide) (by decide) (by decide) (by decide) (by decide) (by decide) (by decide) (by decide) (by decide) (fun z => by omega) (fun z => by omega)
  · exact o 1 1 h1 h2 (by decide) (by decide) (by decide) (by decide) (by decide) (by decide) (by decide) (by decide) (by decide) (fun z => by omega) (fun z => by omega)
  · exact o 1 3 h1 h2 (by decide) (by decide) (by decide) (by decide) (by decide) (by decide) (by decide) (by decide) (by decide) (fun z => by omega) (fun z => by omega)
  · exact o 2 2 h2 h4 (by decide) (by decide) (by decide) (by decide) (by decide) (by decide) (by decide) (by decide) (by decide) (fun z => by omega) (fun _ => ⟨x, h1, h3, h5⟩)
  · exact o 3 (25 + x) h2 h4 (by decide) (by omega) (by omega) (by omega) (by omega) (by omega) (by omega) (by omega) (by omega) (fun z => by omega) (fun z => by omega)
  · exact o 4 20 h1 h2 (by decide) (by decide) (by decide) (by decide) (by decide) (by decide) (by decide) (by decide) (by decide) (fun z => by omega) (fun z => by omega)
  · exact o 5 22 h1 h2 (by decide) (by decide) (by decide) (by decide) (by decide) (by decide) (by decide) (by decide) (by decide) (fun z => by omega) (fun z => by omega)
  · exact o 6 21 h1 h2 (by decide) (by decide) (by decide) (by decide) (by decide) (by decide) (by decide) (by decide) (by decide) (fun z => by omega) (fun z => by omega)
  · exact o 7 (22 + x) h3 h5 (by decide) (by omega) (by omega) (by omega) (by omega) (by omega) (by omega) (by omega) (by omega) (fun _ => by rw [h4]; congr 1; omega) (fun z => by omega)
  · exact o 8 (8 + x) h3 h5 (by decide) (by omega) (by omega) (by omega) (by omega) (by omega) (by omega) (by omega) (by omega) (fun z => by omega) (fun z => by omega)
  · exact o 9 (1 + x) h3 h5 (by decide) (by omega) (by omega) (by omega) (by omega) (by omega) (by omega) (by omega) (by omega) (fun z => by omega) (fun z => by omega)
  · exact o 10 6 h1 h2 (by decide) (by decide) (by decide) (by decide) (by decide) (by decide) (by decide) (by decide) (by decide) (fun z => by omega) (fun z => by omega)
  · exact o 11 7 h1 h2 (by decide) (by decide) (by decide) (by decide) (by decide) (by decide) (by decide) (by decide) (by decide) (fun z => by omega) (fun z => by omega)
  · exact o 12 4 h1 h2 (by decide) (by decide) (by decide) (by decide) (by decide) (by decide) (by decide) (by decide) (by decide) (fun z => by omega) (fun z => by omega)
section
variable {B : Nat → Nat} {n k : Nat} {R : Int32 × Int32 × pS} {rel : Bool} {fw : Int32} {ops : List Nat} {r : pR} {rs : List pR}
/-- at a rule's head -/
theorem lv0 {so : Nat} {a : Bool} (h : Lv B n R k (0, 0, rel, fw, [], rs)) (hs : cN (tkT B n k).1 = so) (hso : (so = 4 ∧ a = false) ∨ (so = 5 ∧ a = true)) (hq : tokQ (cN (tkT B n k).1) (tkT B n k).2.1) : ((20 ≤ rs.length ∨ k = 400) → R.1 = nI 2 ∧ R.2.1 = nI (tkT B n k).2.2.1) ∧ (rs.length < 20 → k ≠ 400 → Lv B n R (k + 1) (if a = true then 3 else 1, 0, rel, fw, [], (a, 0, []) :: rs)) := by
  have st := h.step hs
  rw [hs] at hq
  have ov : ∀ b, overS (0, 0, rel, fw, [], rs) so = b ↔ decide (20 ≤ rs.length) = b := by
    intro b
    have : overS (0, 0, rel, fw, [], rs) so = decide (20 ≤ rs.length) := by
      refine decide_eq_decide.mpr ⟨fun z => z.elim (fun z => z.2) (fun z => by omega), fun z => Or.inl ⟨rfl, z⟩⟩
    rw [this]
  rcases hso with ⟨rfl, rfl⟩ | ⟨rfl, rfl⟩
  · refine ⟨fun z => ?_, fun z1 z2 => ?_⟩
    · have := st.2.2.1 (by show 1 ≠ 9; decide) (by show 1 ≠ 7; decide) (z.elim (fun z => Or.inr ((ov true).mpr (decide_eq_true z))) Or.inl)
      rw [this]; exact ⟨rfl, rfl⟩
    · exact st.2.2.2 (by show 1 ≠ 9; decide) (by show 1 ≠ 7; decide) z2 ((ov false).mpr (decide_eq_false (by omega))) hq
  · refine ⟨fun z => ?_, fun z1 z2 => ?_⟩
    · have := st.2.2.1 (by show 3 ≠ 9; decide) (by show 3 ≠ 7; decide) (z.elim (fun z => Or.inr ((ov true).mpr (decide_eq_true z))) Or.inl)
      rw [this]; exact ⟨rfl, rfl⟩
    · exact st.2.2.2 (by show 3 ≠ 9; decide) (by show 3 ≠ 7; decide) z2 ((ov false).mpr (decide_eq_false (by omega))) hq
theorem lv0_bad (h : Lv B n R k (0, 0, rel, fw, [], rs)) (h0 : cN (tkT B n k).1 ≠ 0) (h4 : cN (tkT B n k).1 ≠ 4) (h5 : cN (tkT B n k).1 ≠ 5) : R.1 = nI 1 ∧ R.2.1 = nI (tkT B n k).2.2.1 := by
  have st := (h.step rfl).1 (by show (if cN (tkT B n k).1 = 4 then 1 else if cN (tkT B n k).1 = 5 then 3 else if cN (tkT B n k).1 = 0 then 7 else 9) = 9; rw [if_neg h4, if_neg h5, if_neg h0])
  rw [st]; exact ⟨rfl, rfl⟩
theorem lv0_end (h : Lv B n R k (0, 0, rel, fw, [], rs)) (h0 : cN (tkT B n k).1 = 0) : R = (if fw = -1 then nI 0 else nI 5, fw, (0, 0, rel, fw, [], rs)) := (h.step h0).2.1 rfl
theorem ov_no {e o so : Nat} (he : e ≠ 0) (hs : so ≠ 10) : overS (e, o, rel, fw, ops, rs) so = false := decide_eq_false (by rintro (z | z); exact he z.1; exact hs z.1)
/-- a rule's number -/
theorem lv1 {a : Bool} {x : Nat} (h : Lv B n R k (if a = true then 3 else 1, 0, rel, fw, [], (a, 0, []) :: rs)) (hs : cN (tkT B n k).1 = 2) (hx : (tkT B n k).2.1 = nI x) (hq : tokQ (cN (tkT B n k).1) (tkT B n k).2.1) : (k = 400 → R.1 = nI 2 ∧ R.2.1 = nI (tkT B n k).2.2.1) ∧ (k ≠ 400 → Lv B n R (k + 1) (if a = true then 4 else 2, 0, rel, if ¬ nI x < (if a = true then nI 4 else nI 6) ∧ fw = -1 then nI (tkT B n k).2.2.1 else fw, [], (a, nI x, []) :: rs)) := by
  have st := h.step hs
  rw [hs] at hq
  rw [hx] at st hq
  cases a
  · refine ⟨fun z => ?_, fun z => ?_⟩
    · have := st.2.2.1 (by show 2 ≠ 9; decide) (by show 2 ≠ 7; decide) (Or.inl z)
      rw [this]; exact ⟨rfl, rfl⟩
    · exact st.2.2.2 (by show 2 ≠ 9; decide) (by show 2 ≠ 7; decide) z (ov_no (by decide) (by decide)) hq
  · refine ⟨fun z => ?_, fun z => ?_⟩
    · have := st.2.2.1 (by show 4 ≠ 9; decide) (by show 4 ≠ 7; decide) (Or.inl z)
      rw [this]; exact ⟨rfl, rfl⟩
    · exact st.2.2.2 (by show 4 ≠ 9; decide) (by show 4 ≠ 7; decide) z (ov_no (by decide) (by decide)) hq
theorem lv1_bad {a : Bool} (h : Lv B n R k (if a = true then 3 else 1, 0, rel, fw, ops, rs)) (h2 : cN (tkT B n k).1 ≠ 2) : R.1 = nI 1 ∧ R.2.1 = nI (tkT B n k).2.2.1 := by
  cases a
  · have st := (h.step rfl).1 (by show (if cN (tkT B n k).1 = 2 then 2 else 9) = 9; rw [if_neg h2])
    rw [st]; exact ⟨rfl, rfl⟩
  · have st := (h.step rfl).1 (by show (if cN (tkT B n k).1 = 2 then 4 else 9) = 9; rw [if_neg h2])
    rw [st]; exact ⟨rfl, rfl⟩
/-- behind the number: 'if' -/
theorem lv2_if {a : Bool} (h : Lv B n R k (if a = true then 4 else 2, 0, rel, fw, [], rs)) (hs : cN (tkT B n k).1 = 6) (hq : tokQ (cN (tkT B n k).1) (tkT B n k).2.1) : (k = 400 → R.1 = nI 2 ∧ R.2.1 = nI (tkT B n k).2.2.1) ∧ (k ≠ 400 → Lv B n R (k + 1) (5, 0, false, fw, [], rs)) := by
  have st := h.step hs
  rw [hs] at hq
  cases a
  · refine ⟨fun z => ?_, fun z => ?_⟩
    · have := st.2.2.1 (by show 5 ≠ 9; decide) (by show 5 ≠ 7; decide) (Or.inl z)
      rw [this]; exact ⟨rfl, rfl⟩
    · exact st.2.2.2 (by show 5 ≠ 9; decide) (by show 5 ≠ 7; decide) z (ov_no (by decide) (by decide)) hq
  · refine ⟨fun z => ?_, fun z => ?_⟩
    · have := st.2.2.1 (by show 5 ≠ 9; decide) (by show 5 ≠ 7; decide) (Or.inl z)
      rw [this]; exact ⟨rfl, rfl⟩
    · exact st.2.2.2 (by show 5 ≠ 9; decide) (by show 5 ≠ 7; decide) z (ov_no (by decide) (by decide)) hq
theorem lv2_semi (h : Lv B n R k (2, 0, rel, fw, [], rs)) (hs : cN (tkT B n k).1 = 12) (hq : tokQ (cN (tkT B n k).1) (tkT B n k).2.1) : (k = 400 → R.1 = nI 2 ∧ R.2.1 = nI (tkT B n k).2.2.1) ∧ (k ≠ 400 → Lv B n R (k + 1) (0, 0, false, fw, [], rs)) := by
  have st := h.step hs
  rw [hs] at hq
  refine ⟨fun z => ?_, fun z => ?_⟩
  · have := st.2.2.1 (by show 0 ≠ 9; decide) (by show 0 ≠ 7; decide) (Or.inl z)
    rw [this]; exact ⟨rfl, rfl⟩
  · exact st.2.2.2 (by show 0 ≠ 9; decide) (by show 0 ≠ 7; decide) z (ov_no (by decide) (by decide)) hq
theorem lv2_bad (h : Lv B n R k (2, 0, rel, fw, ops, rs)) (h6 : cN (tkT B n k).1 ≠ 6) (h12 : cN (tkT B n k).1 ≠ 12) : R.1 = nI 1 ∧ R.2.1 = nI (tkT B n k).2.2.1 := by
  have st := (h.step rfl).1 (by show (if cN (tkT B n k).1 = 6 then 5 else if cN (tkT B n k).1 = 12 then 0 else 9) = 9; rw [if_neg h6, if_neg h12])
  rw [st]; exact ⟨rfl, rfl⟩
theorem lv4_bad (h : Lv B n R k (4, 0, rel, fw, ops, rs)) (h6 : cN (tkT B n k).1 ≠ 6) : R.1 = nI 1 ∧ R.2.1 = nI (tkT B n k).2.2.1 := by
  have st := (h.step rfl).1 (by show (if cN (tkT B n k).1 = 6 then 5 else 9) = 9; rw [if_neg h6])
  rw [st]; exact ⟨rfl, rfl⟩
/-- behind a relation -/
theorem lv6_join {u : Nat} (h : Lv B n R k (6, 0, true, fw, ops, r :: rs)) (hs : cN (tkT B n k).1 = 7) (hx : (tkT B n k).2.1 = nI u) (hu : u ≤ 9) (hq : tokQ (cN (tkT B n k).1) (tkT B n k).2.1) : (k = 400 → R.1 = nI 2 ∧ R.2.1 = nI (tkT B n k).2.2.1) ∧ (k ≠ 400 → Lv B n R (k + 1) (5, 0, false, fw, u :: (edn (rk u) ops []).1, (r.1, r.2.1, (edn (rk u) ops r.2.2).2) :: rs)) := by
  have st := h.step hs
  rw [hs] at hq
  refine ⟨fun z => ?_, fun z => ?_⟩
  · have := st.2.2.1 (by show 5 ≠ 9; decide) (by show 5 ≠ 7; decide) (Or.inl z)
    rw [this]; exact ⟨rfl, rfl⟩
  · have := st.2.2.2 (by show 5 ≠ 9; decide) (by show 5 ≠ 7; decide) z (ov_no (by decide) (by decide)) hq
    rw [hx] at this
    have e2 : setE (takeS (6, 0, true, fw, ops, r :: rs) 7 (nI u) (tkT B n k).2.2.1) 5 = (5, 0, (false || (true && false)), fw, cN (nI u) :: (edn (rk (cN (nI u))) ops []).1, (r.1, r.2.1, (edn (rk (cN (nI u))) ops r.2.2).2) :: rs) := rfl
    have e3 : fol (6, 0, true, fw, ops, r :: rs).1 (6, 0, true, fw, ops, r :: rs).2.1 (6, 0, true, fw, ops, r :: rs).2.2.1 7 = 5 := rfl
    rw [e3, e2, cN_nI (by omega)] at this
    exact this
theorem lv6_semi (h : Lv B n R k (6, 0, true, fw, ops, r :: rs)) (hs : cN (tkT B n k).1 = 12) (hq : tokQ (cN (tkT B n k).1) (tkT B n k).2.1) : (k = 400 → R.1 = nI 2 ∧ R.2.1 = nI (tkT B n k).2.2.1) ∧ (k ≠ 400 → Lv B n R (k + 1) (0, 0, true, fw, (edn 1 ops []).1, (r.1, r.2.1, (edn 1 ops r.2.2).2) :: rs)) := by
  have st := h.step hs
  rw [hs] at hq
  refine ⟨fun z => ?_, fun z => ?_⟩
  · have := st.2.2.1 (by show 0 ≠ 9; decide) (by show 0 ≠ 7; decide) (Or.inl z)
    rw [this]; exact ⟨rfl, rfl⟩
  · exact st.2.2.2 (by show 0 ≠ 9; decide) (by show 0 ≠ 7; decide) z (ov_no (by decide) (by decide)) hq
theorem lv6_bad (h : Lv B n R k (6, 0, true, fw, ops, rs)) (h9 : cN (tkT B n k).1 ≠ 9) (h7 : cN (tkT B n k).1 ≠ 7) (h12 : cN (tkT B n k).1 ≠ 12) : R.1 = nI 1 ∧ R.2.1 = nI (tkT B n k).2.2.1 := by
  have st := (h.step rfl).1 (by show folU 0 true (cN (tkT B n k).1) = 9; unfold folU; rw [if_neg h9, if_neg (by decide), if_neg (by decide), if_neg h7, if_neg h12])
  rw [st]; exact ⟨rfl, rfl⟩
end
/-- tokens stand one behind the other -/
theorem tok_adv {B : Nat → Nat} {n i : Nat} (hi : i ≤ n) (h : (tokC B n i).1 ≠ nI 0) : (tokC B n i).2.2.1 < (tokC B n i).2.2.2 := by
  have h1 : skB isBl B n i ≤ n := skB_le hi
  unfold tokC at h ⊢
  dsimp only at h ⊢
  split
  · rename_i hc; rw [if_pos hc] at h; exact absurd rfl h
  · rename_i hc
    split
    · rename_i hl; show skB isBl B n i < skB isLe B n (skB isBl B n i); exact skB_gt (by omega) hl
    · split
      · rename_i hd; show skB isBl B n i < skB isDi B n (skB isBl B n i); exact skB_gt (by omega) hd
      · show skB isBl B n i < skB isBl B n i + _
        rcases sgF_len (c := B (skB isBl B n i)) (eq := eqB B n (skB isBl B n i + 1)) with e | ⟨e, -⟩ <;> omega
theorem pl_lt {B : Nat → Nat} {n j : Nat} : ∀ {k : Nat}, j < k → (∀ i, i < k → (tkT B n i).1 ≠ nI 0) → (tkT B n j).2.2.1 < (tkT B n k).2.2.1
  | 0, h, _ => absurd h (Nat.not_lt_zero j)
  | k + 1, h, hz => by
    have h1 := tok_adv (pP_le B n k) (hz k (Nat.lt_succ_self k))
    have h2 := (tokC_le (B := B) (pP_le B n (k + 1))).2.1
    have h3 : (tkT B n k).2.2.1 < (tkT B n (k + 1)).2.2.1 := by
      show (tokC B n (pP B n k)).2.2.1 < (tokC B n (pP B n (k + 1))).2.2.1
      have e : pP B n (k + 1) = (tokC B n (pP B n k)).2.2.2 := rfl
      omega
    by_cases e : j = k
    · subst e; exact h3
    · exact Nat.lt_trans (pl_lt (by omega) (fun i hi => hz i (by omega))) h3
/-- a page of the reference, rules in the making: the latest ahead -/
abbrev qR : Type := Bool × Int32 × List rl
def rlT : List qR → Nat
  | [] => 0
  | q :: qs => q.2.2.length + rlT qs
def rlsB (G : gS) (lo lim : Nat) : Nat → List rl → Prop
  | _, [] => True
  | q, r :: R => relB G q lo lim r ∧ rlsB G lo lim (q + 1) R
def pgL (G : gS) (s lim : Nat) : List qR → Prop
  | [] => True
  | q :: qs => G.1 21 (20 * s + qs.length) = bI q.1 ∧ G.1 22 (20 * s + qs.length) = q.2.1 ∧ G.1 23 (20 * s + qs.length) = nI (rlT qs) ∧ G.1 24 (20 * s + qs.length) = nI (rlT qs + q.2.2.length) ∧ rlsB G (500 * s) lim (200 * s + rlT qs) q.2.2 ∧ pgL G s lim qs
/-- a rule of the class and one of the reference -/
def rqE (r : pR) (q : qR) : Prop := r.1 = q.1 ∧ r.2.1 = q.2.1 ∧ (∃ x, x ≤ 9999 ∧ q.2.1 = nI x) ∧ ((r.2.2 = [] ∧ q.2.2 = []) ∨ (q.2.2 ≠ [] ∧ ∀ v, cK v r.2.2 [bI (hm v q.2.2)]))
def rsQ : List pR → List qR → Prop
  | [], [] => True
  | r :: rs, q :: qs => rqE r q ∧ rsQ rs qs
  | _, _ => False
theorem rsQ.len : ∀ {rs : List pR} {qs : List qR}, rsQ rs qs → rs.length = qs.length
  | [], [], _ => rfl
  | _ :: _, _ :: _, h => by rw [List.length_cons, List.length_cons, rsQ.len h.2]
  | [], _ :: _, h => h.elim
  | _ :: _, [], h => h.elim
theorem relB.ext {G G' : gS} {q lo lim lim' : Nat} {r : rl} (h : relB G q lo lim r) (hl : lim ≤ lim') (hl2 : lim < 2 ^ 31) (h1 : ∀ p, 26 ≤ p → p ≤ 30 → G'.1 p q = G.1 p q) (h2 : ∀ j, lo ≤ j → j < lim → G'.1 32 j = G.1 32 j ∧ G'.1 33 j = G.1 33 j) : relB G' q lo lim' r := by
  obtain ⟨⟨a, b, c, x, y, e, d1, d2, d3, ⟨x1, x2, x3⟩, ⟨y1, y2, y3⟩⟩, lo2, e2, g1, g2, g4, g3, g5⟩ := h
  have e0 : e = e2 := (nI_eq (by omega) (by omega)).mp (d3.symm.trans g3)
  have x0 : x = lo2 := (nI_eq (by omega) (by omega)).mp (d1.symm.trans g1)
  unfold relB relOk
  rw [h1 26 (by decide) (by decide), h1 27 (by decide) (by decide), h1 28 (by decide) (by decide), h1 29 (by decide) (by decide), h1 30 (by decide) (by decide)]
  refine ⟨⟨a, b, c, x, y, e, d1, d2, d3, ⟨x1, x2, fun v => mEv_ext _ _ _ _ (fun j ja jb => h2 j (by omega) (by omega)) (x3 v)⟩, ⟨y1, y2, fun v => mEv_ext _ _ _ _ (fun j ja jb => h2 j (by omega) (by omega)) (y3 v)⟩⟩, lo2, e2, g1, g2, g4, g3, by omega⟩
theorem rlsB.ext {G G' : gS} {lo lim lim' : Nat} (hl : lim ≤ lim') (hl2 : lim < 2 ^ 31) (h2 : ∀ j, lo ≤ j → j < lim → G'.1 32 j = G.1 32 j ∧ G'.1 33 j = G.1 33 j) : ∀ {R : List rl} {q : Nat}, rlsB G lo lim q R → (∀ p, 26 ≤ p → p ≤ 30 → ∀ j, q ≤ j → j < q + R.length → G'.1 p j = G.1 p j) → rlsB G' lo lim' q R
  | [], _, _, _ => trivial
  | r :: R, q, h, h1 => ⟨h.1.ext hl hl2 (fun p a b => h1 p a b q (Nat.le_refl q) (by simp)) h2, rlsB.ext hl hl2 h2 h.2 (fun p a b j ja jb => h1 p a b j (by omega) (by rw [List.length_cons]; omega))⟩
theorem rlsB_snoc {G : gS} {lo lim : Nat} {r : rl} : ∀ {R : List rl} {q : Nat}, rlsB G lo lim q R → relB G (q + R.length) lo lim r → rlsB G lo lim q (R ++ [r])
  | [], q, _, h => ⟨h, trivial⟩
  | x :: R, q, h, h2 => ⟨h.1, rlsB_snoc (q := q + 1) h.2 (by rw [show q + 1 + R.length = q + (x :: R).length by rw [List.length_cons]; omega]; exact h2)⟩
theorem rlsB.lo {G : gS} {lo lo' lim : Nat} (hl : lo' ≤ lo) : ∀ {R : List rl} {q : Nat}, rlsB G lo lim q R → rlsB G lo' lim q R
  | [], _, _ => trivial
  | _ :: _, _, h => ⟨⟨h.1.1, by obtain ⟨a, e, g1, g2, g3⟩ := h.1.2; exact ⟨a, e, g1, by omega, g3⟩⟩, rlsB.lo hl h.2⟩
theorem pgL.ext {G G' : gS} {s lim lim' : Nat} (hl : lim ≤ lim') (hl2 : lim < 2 ^ 31) (h2 : ∀ j, 500 * s ≤ j → j < lim → G'.1 32 j = G.1 32 j ∧ G'.1 33 j = G.1 33 j) : ∀ {qs : List qR}, pgL G s lim qs → (∀ p, 21 ≤ p → p ≤ 24 → ∀ j, 20 * s ≤ j → j < 20 * s + qs.length → G'.1 p j = G.1 p j) → (∀ p, 26 ≤ p → p ≤ 30 → ∀ j, 200 * s ≤ j → j < 200 * s + rlT qs → G'.1 p j = G.1 p j) → pgL G' s lim' qs
  | [], _, _, _ => trivial
  | q :: qs, h, h3, h4 => by
    obtain ⟨a1, a2, a3, a4, a5, a6⟩ := h
    have hj : 20 * s + qs.length < 20 * s + (q :: qs).length := by simp
    rw [rlT] at h4
    refine ⟨by rw [h3 21 (by decide) (by decide) _ (by omega) hj]; exact a1, by rw [h3 22 (by decide) (by decide) _ (by omega) hj]; exact a2, by rw [h3 23 (by decide) (by decide) _ (by omega) hj]; exact a3, by rw [h3 24 (by decide) (by decide) _ (by omega) hj]; exact a4, rlsB.ext hl hl2 h2 a5 (fun p x y j ja jb => h4 p x y j (by omega) (by omega)), pgL.ext hl hl2 h2 a6 (fun p x y j ja jb => h3 p x y j ja (by rw [List.length_cons]; omega)) (fun p x y j ja jb => h4 p x y j ja (by omega))⟩
