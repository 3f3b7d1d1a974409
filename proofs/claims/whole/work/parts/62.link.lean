/-! a text that was read: the class's rules and the reference's page answer alike -/
theorem evR_snoc (v code : Nat → Int32) : ∀ (n i : Nat) (S : Nat × (Nat → Int32)), evR v code (n + 1) i S = evS v (code (i + n)) (evR v code n i S)
  | 0, i, S => rfl
  | n + 1, i, S => by
    rw [evR, evR_snoc v code n (i + 1), show i + 1 + n = i + (n + 1) by omega, evR]
theorem ev_cK {v co : Nat → Int32} {a : Nat} : ∀ {c L : List Int32}, cK v c L → (∀ k, k < c.length → co (a + k) = c.reverse.getD k 0) → (evR v co c.length a (0, fun _ => 0)).1 = L.length ∧ stkR (evR v co c.length a (0, fun _ => 0)).2 L
  | [], L, h, _ => by
    have h : L = [] := h
    subst h
    exact ⟨rfl, fun k hk => by simp at hk⟩
  | x :: c, L, h, hc => by
    obtain ⟨K, h1, h2⟩ := h
    have hc2 : ∀ k, k < c.length → co (a + k) = c.reverse.getD k 0 := fun k hk => by
      have := hc k (by rw [List.length_cons]; omega)
      rw [List.reverse_cons, List.getD_eq_getElem?_getD, List.getElem?_append_left (by simp; omega), ← List.getD_eq_getElem?_getD] at this
      exact this
    have hx : co (a + c.length) = x := by
      have := hc c.length (by simp)
      rw [List.reverse_cons, List.getD_eq_getElem?_getD, List.getElem?_append_right (by simp)] at this
      simpa using this
    obtain ⟨i1, i2⟩ := ev_cK h1 hc2
    rw [List.length_cons, evR_snoc, hx]
    unfold evS
    rcases h2 with ⟨o1, o2, rfl⟩ | ⟨o1, p, q, N, rfl, rfl⟩
    · rw [if_pos o1, if_pos (by omega)]
      refine ⟨by show _ + 1 = _; rw [i1, List.length_cons], ?_⟩
      show stkR (upd _ _ _) _
      rw [i1]
      exact stkR_push i2 _
    · rw [if_neg (by rw [o1]; decide), if_pos (by rw [i1]; simp)]
      have q1 := stkR_pop i2
      have q2 := stkR_pop q1.1
      refine ⟨by show _ - 1 = _; rw [i1]; simp, ?_⟩
      show stkR (upd _ _ _) _
      rw [i1, show (q :: p :: N).length - 2 = N.length by simp, show (q :: p :: N).length - 1 = N.length + 1 by simp]
      rw [show (evR v co c.length a (0, fun _ => 0)).2 N.length = p from q2.2, show (evR v co c.length a (0, fun _ => 0)).2 (N.length + 1) = q from q1.2]
      exact stkR_push q2.1 _
theorem cK_first {v : Nat → Int32} : ∀ {c L : List Int32} {x : Int32}, cK v c L → c.getLast? = some x → opnd x = true
  | [], _, _, _, h => by simp at h
  | [y], L, x, h, hx => by
    obtain ⟨K, h1, h2⟩ := h
    have h1 : K = [] := h1
    have hx : y = x := by simpa using hx
    subst hx
    rcases h2 with ⟨o, -⟩ | ⟨-, p, q, N, z, -⟩
    · exact o
    · rw [h1] at z; cases z
  | y :: z :: c, L, x, h, hx => by
    rw [List.getLast?_cons_cons] at hx
    obtain ⟨K, h1, -⟩ := h
    exact cK_first h1 hx
def qAt (qs : List qR) (r : Nat) : qR := qs.reverse.getD r (false, 0, [])
theorem qAt_l {q : qR} {qs : List qR} : qAt (q :: qs) qs.length = q := by
  unfold qAt
  rw [List.reverse_cons, List.getD_eq_getElem?_getD, List.getElem?_append_right (by simp)]
  simp
theorem qAt_o {q : qR} {qs : List qR} {r : Nat} (h : r < qs.length) : qAt (q :: qs) r = qAt qs r := by
  unfold qAt
  rw [List.reverse_cons, List.getD_eq_getElem?_getD, List.getElem?_append_left (by simp; omega), ← List.getD_eq_getElem?_getD]
/-- a rule's rows in the class -/
theorem rr_at {af nu st en co : Nat → Int32} : ∀ {rs : List pR} {qs : List qR}, RRp af nu st en co true rs → rsQ rs qs → ∀ i, i < rs.length → af i = bI (qAt qs i).1 ∧ nu i = (qAt qs i).2.1 ∧ ∃ a e, st i = nI a ∧ en i = nI e ∧ a ≤ e ∧ e ≤ lenC rs ∧ (a < e → opnd (co a) = true) ∧ ∀ v, hP v co a e = hm v (qAt qs i).2.2
  | [], [], _, _, i, hi => absurd hi (Nat.not_lt_zero i)
  | r :: rs, q :: qs, h, hq, i, hi => by
    obtain ⟨a1, a2, a3, a4, a5, a6⟩ := h
    obtain ⟨⟨b1, b2, b3, b4⟩, b5⟩ := hq
    have hl := b5.len
    by_cases e : i = rs.length
    · subst e
      rw [hl, qAt_l, ← hl]
      refine ⟨by rw [a1, b1], by rw [a2 rfl, b2], lenC rs, lenC rs + r.2.2.length, a3, a4, by omega, by rw [lenC_cons]; omega, fun z => ?_, fun v => ?_⟩
      · rcases b4 with ⟨c1, -⟩ | ⟨-, c2⟩
        · rw [c1] at z; simp at z
        · obtain ⟨x, hx⟩ : ∃ x, r.2.2.getLast? = some x := by
            cases hc : r.2.2 with
            | nil => rw [hc] at z; simp at z
            | cons y t => exact ⟨_, List.getLast?_cons⟩
          have := a5 0 (by omega)
          rw [Nat.add_zero] at this
          rw [this]
          have e2 : r.2.2.reverse.getD 0 0 = x := by
            rw [List.getD_eq_getElem?_getD, ← List.head?_eq_getElem?, List.head?_reverse, hx]; rfl
          rw [e2]
          exact cK_first (c2 (fun _ => 0)) hx
      · unfold hP
        rcases b4 with ⟨c1, c2⟩ | ⟨c1, c2⟩
        · rw [c1, c2]
          simp [hm]
        · have hne : r.2.2 ≠ [] := by
            intro z
            have := c2 (fun _ => 0)
            rw [z] at this
            have : [bI (hm (fun _ => 0) q.2.2)] = [] := this
            cases this
          have hlen : 0 < r.2.2.length := List.length_pos_iff.mpr hne
          rw [decide_eq_false (by omega), Bool.false_or, show lenC rs + r.2.2.length - lenC rs = r.2.2.length by omega]
          have := (ev_cK (c2 v) a5).2 0 (by simp)
          rw [this]
          show (!(bI (hm v q.2.2) == 0)) = _
          cases hm v q.2.2 <;> rfl
    · have hi2 : i < rs.length := by rw [List.length_cons] at hi; omega
      rw [qAt_o (by omega)]
      obtain ⟨c1, c2, a, e, c3, c4, c5, c6, c7, c8⟩ := rr_at a6 b5 i hi2
      exact ⟨c1, c2, a, e, c3, c4, c5, by rw [lenC_cons]; omega, c7, c8⟩
  | [], _ :: _, _, h, _, _ => h.elim
  | _ :: _, [], _, h, _, _ => h.elim
theorem rl_RW {G : gS} {j : Nat} {rs : List pR} {qs : List qR} (h : RS G j true rs) (hq : rsQ rs qs) (h20 : rs.length ≤ 20) (h400 : lenC rs ≤ 400) : RW G j rs.length := by
  refine ⟨h.1, h20, fun r hr => ?_⟩
  obtain ⟨-, -, a, e, c3, c4, c5, c6, c7, -⟩ := rr_at h.2.2 hq r hr
  rw [c3, c4, cN_nI (by omega), cN_nI (by omega)]
  exact ⟨rfl, rfl, c5, by omega, c7⟩
theorem chR_cong {fc : Int32} {aft aft' hold hold' : Nat → Bool} {num num' : Nat → Int32} : ∀ (n r : Nat) (ch : Int32), (∀ i, r ≤ i → i < r + n → aft i = aft' i ∧ hold i = hold' i ∧ num i = num' i) → chR fc aft hold num n r ch = chR fc aft' hold' num' n r ch
  | 0, _, _, _ => rfl
  | n + 1, r, ch, h => by
    obtain ⟨h1, h2, h3⟩ := h r (Nat.le_refl r) (by omega)
    rw [chR, chR, h1, h2, h3, chR_cong n (r + 1) _ (fun i a b => h i (by omega) (by omega)), chR_cong n (r + 1) ch (fun i a b => h i (by omega) (by omega))]
theorem ahR_cong {aft aft' hold hold' : Nat → Bool} {num num' : Nat → Int32} : ∀ (n r : Nat) (acc : Int32), (∀ i, r ≤ i → i < r + n → aft i = aft' i ∧ hold i = hold' i ∧ num i = num' i) → ahR aft hold num n r acc = ahR aft' hold' num' n r acc
  | 0, _, _, _ => rfl
  | n + 1, r, acc, h => by
    obtain ⟨h1, h2, h3⟩ := h r (Nat.le_refl r) (by omega)
    rw [ahR, ahR, h1, h2, h3, ahR_cong n (r + 1) _ (fun i a b => h i (by omega) (by omega)), ahR_cong n (r + 1) acc (fun i a b => h i (by omega) (by omega))]
def afQ (qs : List qR) (r : Nat) : Bool := (qAt qs r).1
def nuQ (qs : List qR) (r : Nat) : Int32 := (qAt qs r).2.1
def rlQ (qs : List qR) (r : Nat) : List rl := (qAt qs r).2.2
theorem rl_ch {G : gS} {j : Nat} {rs : List pR} {qs : List qR} (h : RS G j true rs) (hq : rsQ rs qs) (h400 : lenC rs ≤ 400) (v : Nat → Int32) (fc : Int32) : chC G j rs.length v fc = chR fc (afQ qs) (fun r => hm v (rlQ qs r)) (nuQ qs) rs.length 0 (-1) ∧ ahC G j rs.length v = ahR (afQ qs) (fun r => hm v (rlQ qs r)) (nuQ qs) rs.length 0 (nI 0) := by
  have key : ∀ i, 0 ≤ i → i < 0 + rs.length → aftC G j i = afQ qs i ∧ holdC G j v i = hm v (rlQ qs i) ∧ G.1 (60 + j) i = nuQ qs i := by
    intro i _ hi
    obtain ⟨c1, c2, a, e, c3, c4, c5, c6, c7, c8⟩ := rr_at h.2.2 hq i (by omega)
    refine ⟨?_, ?_, c2⟩
    · unfold aftC afQ
      rw [c1]
      cases (qAt qs i).1 <;> rfl
    · unfold holdC
      rw [c3, c4, cN_nI (by omega), cN_nI (by omega)]
      exact c8 v
  exact ⟨chR_cong _ _ _ key, ahR_cong _ _ _ key⟩
/-- numbers of rules are FILES' or KINDS', never below 0 -/
theorem qs_num : ∀ {rs : List pR} {qs : List qR}, rsQ rs qs → ∀ r, r < qs.length → ∃ x, x ≤ 9999 ∧ nuQ qs r = nI x
  | [], [], _, r, hr => absurd hr (Nat.not_lt_zero r)
  | _ :: rs, q :: qs, h, r, hr => by
    unfold nuQ
    by_cases e : r = qs.length
    · subst e; rw [qAt_l]; exact h.1.2.2.1
    · rw [qAt_o (by rw [List.length_cons] at hr; omega)]
      exact qs_num h.2 r (by rw [List.length_cons] at hr; omega)
  | [], _ :: _, h, _, _ => h.elim
  | _ :: _, [], h, _, _ => h.elim
theorem chR_3 {fc : Int32} {aft hold : Nat → Bool} {num : Nat → Int32} : ∀ (n r : Nat) (ch : Int32), (ch = -1 ∨ 0 ≤ ch) → (∀ i, r ≤ i → i < r + n → 0 ≤ num i) → (chR fc aft hold num n r ch = -1 ∨ chR fc aft hold num n r ch = -2 ∨ 0 ≤ chR fc aft hold num n r ch)
  | 0, r, ch, h, _ => by
    rw [chR]
    split
    · exact Or.inr (Or.inl rfl)
    · exact h.elim Or.inl (fun z => Or.inr (Or.inr z))
  | n + 1, r, ch, h, hn => by
    rw [chR]
    split
    · split
      · exact Or.inr (Or.inl rfl)
      · exact chR_3 n (r + 1) _ (Or.inr (hn r (Nat.le_refl r) (by omega))) (fun i a b => hn i (by omega) (by omega))
    · exact chR_3 n (r + 1) ch h (fun i a b => hn i (by omega) (by omega))
theorem chR_lt {fc : Int32} {aft hold : Nat → Bool} {num : Nat → Int32} : ∀ (n r : Nat) (ch : Int32), 0 ≤ chR fc aft hold num n r ch → ¬ fc ≤ chR fc aft hold num n r ch
  | 0, r, ch, h => by
    rw [chR] at h ⊢
    split
    · rename_i z; rw [if_pos z] at h; exact absurd h (by decide)
    · assumption
  | n + 1, r, ch, h => by
    rw [chR] at h ⊢
    split
    · rename_i z
      rw [if_pos z] at h
      split
      · rename_i z2; rw [if_pos z2] at h; exact absurd h (by decide)
      · rename_i z2; rw [if_neg z2] at h; exact chR_lt n (r + 1) _ h
    · rename_i z; rw [if_neg z] at h; exact chR_lt n (r + 1) ch h
/-- the reference's page as its answers need it -/
theorem rlsB.ok {G : gS} {lo lim : Nat} : ∀ {R : List rl} {q : Nat}, rlsB G lo lim q R → rlsOk G q R
  | [], _, _ => trivial
  | _ :: _, _, h => ⟨h.1.1, h.2.ok⟩
theorem pg_at {G : gS} {s lim : Nat} : ∀ {qs : List qR}, pgL G s lim qs → ∀ r, r < qs.length → G.1 21 (20 * s + r) = bI (afQ qs r) ∧ G.1 22 (20 * s + r) = nuQ qs r ∧ ∃ f, G.1 23 (20 * s + r) = nI f ∧ G.1 24 (20 * s + r) = nI (f + (rlQ qs r).length) ∧ f + (rlQ qs r).length ≤ rlT qs ∧ rlsOk G (200 * s + f) (rlQ qs r)
  | [], _, r, hr => absurd hr (Nat.not_lt_zero r)
  | q :: qs, h, r, hr => by
    obtain ⟨a1, a2, a3, a4, a5, a6⟩ := h
    unfold afQ nuQ rlQ
    by_cases e : r = qs.length
    · subst e
      rw [qAt_l]
      exact ⟨a1, a2, rlT qs, a3, a4, by rw [rlT]; omega, a5.ok⟩
    · have hr2 : r < qs.length := by rw [List.length_cons] at hr; omega
      rw [qAt_o hr2]
      obtain ⟨b1, b2, f, b3, b4, b5, b6⟩ := pg_at a6 r hr2
      exact ⟨b1, b2, f, b3, b4, by rw [rlT]; unfold rlQ at b5; omega, b6⟩
theorem pg_ok {G : gS} {s lim : Nat} {rs : List pR} {qs : List qR} (h : pgL G s lim qs) (hq : rsQ rs qs) (h20 : G.1 20 s = nI qs.length) (hl : qs.length ≤ 20) (hr : 3 * rlT qs ≤ 400) : pgOk G s qs.length (afQ qs) (nuQ qs) (rlQ qs) := by
  refine ⟨h20, hl, fun r hr2 => ?_⟩
  obtain ⟨b1, b2, f, b3, b4, b5, b6⟩ := pg_at h r hr2
  obtain ⟨x, hx, e⟩ := qs_num hq r hr2
  exact ⟨b1, b2, by rw [e]; exact nI_m1 (by omega), f, b3, b4, by omega, b6⟩
