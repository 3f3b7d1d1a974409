/-! the reference: a relation -/
theorem nF_p {G : gS} {t : Nat} (ht : G.1 100 11 = nI t) (ht4 : t ≤ 400) (hp : 0 < G.1 100 13) : ∃ t2, t2 ≤ 401 ∧ nF t G = sI G 100 11 (nI t2) := by
  by_cases e : t = 400
  · exact ⟨400, by decide, by unfold nF; rw [if_pos e, fF_p hp, sI_id (by rw [ht, e])]⟩
  · exact ⟨t + 1, by omega, nF_g e⟩
def rlS (q : Nat) : Prop := (25 ≤ q ∧ q ≤ 30) ∨ xS q
/-- what a relation may change -/
def rlF (G G1 : gS) (s rl cd kb : Nat) : Prop := Fr rlS G G1 ∧ (∀ q, q ≠ 11 → q ≠ 12 → q ≠ 13 → q ≠ 14 → q ≠ 31 → q ≠ 35 → G1.1 100 q = G.1 100 q) ∧ (∀ j, (j < cd ∨ cd + 401 ≤ j + kb) → G1.1 32 j = G.1 32 j ∧ G1.1 33 j = G.1 33 j) ∧ (∀ q, 26 ≤ q → q ≤ 30 → ∀ j, j ≠ 200 * s + rl → G1.1 q j = G.1 q j) ∧ ∀ j, j ≠ s → G1.1 25 j = G.1 25 j
theorem exF.rl {G G1 : gS} {cd kb : Nat} (h : exF G G1 cd kb) (s rl : Nat) : rlF G G1 s rl cd kb :=
  ⟨h.1.mono (fun q z => Or.inr z), h.2.1, h.2.2, fun q a b j _ => by rw [h.1.1 q (by unfold xS; omega)], fun j _ => by rw [h.1.1 25 (by unfold xS; decide)]⟩
theorem rlF.ex {G G1 G2 : gS} {s rl cd kb cd2 kb2 : Nat} (h : rlF G G1 s rl cd kb) (h2 : exF G1 G2 cd2 kb2) (hc : cd ≤ cd2) (hk : cd2 + kb ≤ cd + kb2) : rlF G G2 s rl cd kb := by
  obtain ⟨a1, a2, a3, a4, a5⟩ := h
  obtain ⟨b1, b2, b3⟩ := h2
  refine ⟨Fr.trans a1 (b1.mono (fun q z => Or.inr z)), fun q a b c d e f => (b2 q a b c d e f).trans (a2 q a b c d e f), fun j hj => ?_, fun q x y j hj => by rw [b1.1 q (by unfold xS; omega)]; exact a4 q x y j hj, fun j hj => by rw [b1.1 25 (by unfold xS; decide)]; exact a5 j hj⟩
  obtain ⟨e1, e2⟩ := b3 j (by omega)
  rw [e1, e2]
  exact a3 j hj
theorem rlF.s {G G1 : gS} {s rl cd kb q : Nat} {v : Int32} (h : rlF G G1 s rl cd kb) (hq : q = 11 ∨ q = 12 ∨ q = 13 ∨ q = 14 ∨ q = 31 ∨ q = 35) : rlF G (sI G1 100 q v) s rl cd kb := by
  obtain ⟨a1, a2, a3, a4, a5⟩ := h
  exact ⟨a1.sI (Or.inr (Or.inr (Or.inr (Or.inr rfl)))), fun p a b c d e f => by rw [sI_s, upd_o (by omega)]; exact a2 p a b c d e f, fun j hj => by rw [sI_o (by decide), sI_o (by decide)]; exact a3 j hj, fun p x y j hj => by rw [sI_o (by omega)]; exact a4 p x y j hj, fun j hj => by rw [sI_o (by decide)]; exact a5 j hj⟩
theorem Ft.s {G : gS} {R : Int32 × Int32 × pS} {q : Nat} {v : Int32} (h : Ft G R) (h1 : q ≠ 13) (h2 : q ≠ 14) : Ft (sI G 100 q v) R := by
  obtain ⟨f, f1, f2, f3, f4, f5⟩ := h
  exact ⟨f, f1, f2, by rw [sI_s, upd_o (fun e => h1 e.symm)]; exact f3, f4, by rw [sI_s, upd_o (fun e => h2 e.symm)]; exact f5⟩
theorem lv6_rel {B : Nat → Nat} {n k : Nat} {R : Int32 × Int32 × pS} {fw : Int32} {ops : List Nat} {r : pR} {rs : List pR} {x : Nat} (h : Lv B n R k (6, 0, false, fw, ops, r :: rs)) (hs : (tkT B n k).1 = nI 8) (hx : (tkT B n k).2.1 = nI x) (hx9 : x ≤ 9) (hq : tokQ (cN (tkT B n k).1) (tkT B n k).2.1) : (k = 400 → R.1 = nI 2 ∧ R.2.1 = nI (tkT B n k).2.2.1) ∧ (k ≠ 400 → Lv B n R (k + 1) (5, 0, true, fw, x :: (edn (rk x) ops []).1, (r.1, r.2.1, (edn (rk x) ops r.2.2).2) :: rs)) := by
  have e : cN (tkT B n k).1 = 8 := by rw [hs]; decide
  have st := h.step e
  rw [e] at hq
  have hov : overS (6, 0, false, fw, ops, r :: rs) 8 = false := decide_eq_false (by rintro (z | z); exact absurd z.1 (by show ¬ 6 = 0; decide); exact absurd z.1 (by decide))
  refine ⟨fun z => ?_, fun z => ?_⟩
  · have := st.2.2.1 (by show 5 ≠ 9; decide) (by show 5 ≠ 7; decide) (Or.inl z)
    rw [this]; exact ⟨rfl, rfl⟩
  · have := st.2.2.2 (by show 5 ≠ 9; decide) (by show 5 ≠ 7; decide) z hov hq
    rw [hx] at this
    have e2 : setE (takeS (6, 0, false, fw, ops, r :: rs) 8 (nI x) (tkT B n k).2.2.1) 5 = (5, 0, (true || (false && false)), fw, cN (nI x) :: (edn (rk (cN (nI x))) ops []).1, (r.1, r.2.1, (edn (rk (cN (nI x))) ops r.2.2).2) :: rs) := rfl
    have e3 : fol (6, 0, false, fw, ops, r :: rs).1 (6, 0, false, fw, ops, r :: rs).2.1 (6, 0, false, fw, ops, r :: rs).2.2.1 8 = 5 := rfl
    rw [e3, e2, cN_nI (by omega)] at this
    exact this
theorem lv6_norel {B : Nat → Nat} {n k : Nat} {R : Int32 × Int32 × pS} {fw : Int32} {ops : List Nat} {rs : List pR} (h : Lv B n R k (6, 0, false, fw, ops, rs)) (h9 : cN (tkT B n k).1 ≠ 9) (h8 : cN (tkT B n k).1 ≠ 8) : R.1 = nI 1 ∧ R.2.1 = nI (tkT B n k).2.2.1 := by
  have st := (h.step rfl).1 (by show folU 0 false (cN (tkT B n k).1) = 9; unfold folU; rw [if_neg h9, if_neg (by decide), if_pos rfl, if_neg h8])
  rw [st]; exact ⟨rfl, rfl⟩
theorem tkr {s v kd vl : Int32} (h : tkR s v kd vl) (h9 : cN s ≠ 9) : (∃ x, 3 ≤ x ∧ x ≤ 6 ∧ s = nI 8 ∧ v = nI x ∧ kd = nI (8 + x)) ∨ ((∃ b, b < 40 ∧ kd = nI b ∧ (b < 11 ∨ 14 < b)) ∧ cN s ≠ 8) := by
  have o : ∀ a b, s = nI a → kd = nI b → a < 13 → a ≠ 8 → b < 40 → (b < 11 ∨ 14 < b) → ((∃ b, b < 40 ∧ kd = nI b ∧ (b < 11 ∨ 14 < b)) ∧ cN s ≠ 8) := by
    intro a b e1 e2 h1 h2 h4 h5
    rw [e1, cN_nI (by omega)]
    exact ⟨⟨b, h4, e2, h5⟩, h2⟩
  rcases h with ⟨h1, h2⟩ | ⟨h1, h2 | h2⟩ | ⟨x, h1, h2, h3, h4, h5⟩ | ⟨x, h1, h2, h3, h4⟩ | ⟨h1, h2⟩ | ⟨h1, h2⟩ | ⟨h1, h2⟩ | ⟨x, h1, h2, h3, h4, h5⟩ | ⟨x, h1, h2, h3, h4, h5⟩ | ⟨x, h1, h2, h3, h4, h5⟩ | ⟨h1, h2⟩ | ⟨h1, h2⟩ | ⟨h1, h2⟩
  · exact Or.inr (o 0 0 h1 h2 (by decide) (by decide) (by decide) (by decide))
  · exact Or.inr (o 1 1 h1 h2 (by decide) (by decide) (by decide) (by decide))
  · exact Or.inr (o 1 3 h1 h2 (by decide) (by decide) (by decide) (by decide))
  · exact Or.inr (o 2 2 h2 h4 (by decide) (by decide) (by decide) (by decide))
  · exact Or.inr (o 3 (25 + x) h2 h4 (by decide) (by decide) (by omega) (by omega))
  · exact Or.inr (o 4 20 h1 h2 (by decide) (by decide) (by decide) (by decide))
  · exact Or.inr (o 5 22 h1 h2 (by decide) (by decide) (by decide) (by decide))
  · exact Or.inr (o 6 21 h1 h2 (by decide) (by decide) (by decide) (by decide))
  · exact Or.inr (o 7 (22 + x) h3 h5 (by decide) (by decide) (by omega) (by omega))
  · exact Or.inl ⟨x, h1, h2, h3, h4, h5⟩
  · exact absurd (by rw [h3]; decide) h9
  · exact Or.inr (o 10 6 h1 h2 (by decide) (by decide) (by decide) (by decide))
  · exact Or.inr (o 11 7 h1 h2 (by decide) (by decide) (by decide) (by decide))
  · exact Or.inr (o 12 4 h1 h2 (by decide) (by decide) (by decide) (by decide))
/-- a relation stands in the reference's rows, its code below lim -/
def relB (G : gS) (q lo lim : Nat) (r : rl) : Prop := relOk G q r ∧ ∃ a e, G.1 27 q = nI a ∧ lo ≤ a ∧ a < 2000 ∧ G.1 29 q = nI e ∧ e ≤ lim
def rlP (G G' : gS) (B : Nat → Nat) (n : Nat) (R : Int32 × Int32 × pS) (kb cd s rl : Nat) (fw : Int32) (opsP : List Nat) (a : Bool) (m : Int32) (rs : List pR) (L0 : (Nat → Int32) → List Int32) (o : Bool) : Prop :=
  rlF G G' s rl cd kb ∧ ((∃ t, G'.1 100 11 = nI t ∧ t ≤ 401 ∧ Ft G' R) ∨
    ∃ (k : Nat) (E : List Nat) (w : Nat) (c : List Int32) (cc : Nat) (x y : vV), Lv B n R k (6, 0, true, fw, E ++ w :: opsP, (a, m, c) :: rs) ∧ rlE E w opsP c x y L0 ∧ relB G' (200 * s + rl) cd cc (o, w - 3, x, y) ∧ cd ≤ cc ∧ cc + kb ≤ cd + k ∧ kb + 3 ≤ k ∧ G'.1 100 11 = nI k ∧ G'.1 100 12 = nI 0 ∧ G'.1 100 13 = 0 ∧ G'.1 100 31 = nI cc ∧ G'.1 25 s = nI (rl + 1) ∧ cN (tkT B n k).1 ≠ 9)
theorem TK.ex {G G1 : gS} {B : Nat → Nat} {n : Nat} (h : TK G B n) (e5 : G1.1 5 = G.1 5) (e6 : G1.1 6 = G.1 6) (e7 : G1.1 7 = G.1 7) : TK G1 B n := by
  unfold TK
  rw [e5, e6, e7]
  exact h
set_option maxHeartbeats 4000000 in
set_option maxRecDepth 100000 in
theorem tX9_relation (Y : gY) (hY : Y.2.2.2 = wM) {G : gS} {B : Nat → Nat} {n : Nat} {R : Int32 × Int32 × pS} {kb cd s rl : Nat} {fw : Int32} {opsP : List Nat} {a : Bool} {m : Int32} {c0 : List Int32} {rs : List pR} {L0 : (Nat → Int32) → List Int32} {rels : List (Bool × Nat × vV × vV)} {o : Bool} (hTK : TK G B n) (hL : Lv B n R kb (5, 0, false, fw, opsP, (a, m, c0) :: rs)) (hK : ∀ v, cK v c0 (L0 v)) (hcd : cdS opsP L0 rels o) (hs4 : s < 4) (hcdb : cd ≤ 500 * s + kb) (hrlb : 3 * rl ≤ kb) (hs19 : G.1 100 19 = nI s) (hrl : G.1 25 s = nI rl) (ht0 : G.1 100 11 = nI kb) (ho0 : G.1 100 12 = nI 0) (hf0 : G.1 100 13 = 0) (hcd0 : G.1 100 31 = nI cd) : ∀ l : Launch, gM Y l yX9_relation cX9_relation 6 none (3, 68) [.ref (Y.2.1 (100)), .int (bI o)] G (qv (fun G' => rlP G G' B n R kb cd s rl fw opsP a m rs L0 o)) := by
  intro l
  refine gM_of hY rfl (Nat.le_of_ble_eq_true rfl) [some (.ref (Y.2.1 (100))), some (.int (bI o)), none, none, none, none] rfl rfl ?_
  rintro Z rfl C
  have hkb4 := hL.1
  have finG : ∀ (t : Nat) (i3 : Int32) (o4 o5 : Option Value) (G1 : gS), rlF G G1 s rl cd kb → G1.1 100 11 = nI t → t ≤ 401 → Ft G1 R → WW Z (qv (fun G' => rlP G G' B n R kb cd s rl fw opsP a m rs L0 o)) 58 [some (.ref (ad Z (100))), some (.int (bI o)), some (.int (nI cd)), some (.int (i3)), o4, o5] [] G1 := by
    intro t i3 o4 o5 G1 hf ht ht4 hft
    refine r_aload0 (pc := 58) C dX9_relation_58 ?_
    refine gX9_284 (pc := 59) C dX9_relation_59 ?_
    refine r_istore4 (pc := 62) C dX9_relation_62 rfl ?_
    refine r_aload0 (pc := 64) C dX9_relation_64 ?_
    refine r_callVv (pc := 65) C rfl dX9_relation_65 kX9_305 gF9 jM (tX9_expressionF Z.1 C.w hft.pos.2) rfl rfl (Nat.le_of_ble_eq_true rfl) (by decide) (fun G65 h65 => ?_)
    subst h65
    have hft2 := hft.s (q := 35) (v := nI 0) (by decide) (by decide)
    refine r_aload0 (pc := 68) C dX9_relation_68 ?_
    refine gX9_251 (pc := 69) C dX9_relation_69 ?_
    refine r_if_le (pc := 72) 76 C dX9_relation_72 (by decide) (fun c72 => ?_) (fun c72 => ?_)
    · exact absurd c72 (Int32.not_le.mpr hft2.pos.1)
    exact r_return (pc := 75) C dX9_relation_75 (⟨hf.s (by decide), Or.inl ⟨t, by rw [sI_s, upd_o (by decide)]; exact ht, ht4, hft2⟩⟩)
  have finF : ∀ (t : Nat) (i3 : Int32) (o4 o5 : Option Value) (G1 : gS), rlF G G1 s rl cd kb → G1.1 100 11 = nI t → t ≤ 400 → Ft G1 R → WW Z (qv (fun G' => rlP G G' B n R kb cd s rl fw opsP a m rs L0 o)) 54 [some (.ref (ad Z (100))), some (.int (bI o)), some (.int (nI cd)), some (.int (i3)), o4, o5] [] G1 := by
    intro t i3 o4 o5 G1 hf ht ht4 hft
    refine r_aload0 (pc := 54) C dX9_relation_54 ?_
    refine r_callVv (pc := 55) C rfl dX9_relation_55 kX9_272 gF9 jM (tX9_next Z.1 C.w ht (by omega)) rfl rfl (Nat.le_of_ble_eq_true rfl) (by decide) (fun G55 h55 => ?_)
    obtain ⟨t2, h2, e2⟩ := nF_p ht ht4 hft.pos.1
    rw [e2] at h55
    subst h55
    exact finG t2 _ _ _ _ (hf.s (by decide)) (by rw [sI_s, upd_s]) h2 (hft.s (by decide) (by decide))
  refine r_aload0 (pc := 0) C dX9_relation_0 ?_
  refine gX9_284 (pc := 1) C dX9_relation_1 ?_
  refine r_eqi hcd0 ?_
  refine r_istore2 (pc := 4) C dX9_relation_4 rfl ?_
  refine r_aload0 (pc := 5) C dX9_relation_5 ?_
  refine r_callVv (pc := 6) C rfl dX9_relation_6 kX9_305 gF9 jM (tX9_expression Z.1 C.w (kb := kb) (cd := cd) (L0 := L0) hTK hL hK (fun v => by have := hcd.len v; omega) (by rcases hcd.rank with z | ⟨y, t, z, z2⟩; exact Or.inl z; exact Or.inr ⟨y, t, z, by omega⟩) (by omega) ht0 ho0 hf0 hcd0) rfl rfl (Nat.le_of_ble_eq_true rfl) (by decide) (fun G1 h6 => ?_)
  obtain ⟨p1, q1⟩ := h6
  rcases q1 with ⟨t, ht, ht4, hft⟩ | ⟨k, E, c, cc, LE, x, hL1, hE, hLE, hev, hcc, hck, hkk, t0, o0, f0, c031, hn9⟩
  · refine r_aload0 (pc := 9) C dX9_relation_9 ?_
    refine gX9_251 (pc := 10) C dX9_relation_10 ?_
    refine r_if_le (pc := 13) 20 C dX9_relation_13 (by decide) (fun c13 => ?_) (fun c13 => ?_)
    · exact absurd c13 (Int32.not_le.mpr hft.pos.1)
    refine r_iconst (pc := 16) (v := nI 0) C dX9_relation_16 (by decide) ?_
    refine r_goto (pc := 17) 32 C dX9_relation_17 (by decide) ?_
    refine r_istore3 (pc := 32) C dX9_relation_32 rfl ?_
    refine r_aload0 (pc := 33) C dX9_relation_33 ?_
    refine gX9_251 (pc := 34) C dX9_relation_34 ?_
    refine r_if_ne (pc := 37) 54 C dX9_relation_37 (by decide) (fun c37 => ?_) (fun c37 => ?_)
    rotate_left
    · exact absurd c37 (hft.pos.2)
    exact finF t _ _ _ _ (p1.rl s rl) ht ht4 hft
  · have hk4 := hL1.1
    have htk := hTK k hk4 hL1.2.1
    have htq := htk.1.q
    rcases tkr htk.1 hn9 with ⟨w, hw3, hw6, hs, hxv, hkd⟩ | ⟨⟨b, hb40, hkd, hb11⟩, hs8⟩
    · have hlv := lv6_rel hL1 hs hxv (by omega) htq
      refine r_aload0 (pc := 9) C dX9_relation_9 ?_
      refine gX9_251 (pc := 10) C dX9_relation_10 ?_
      refine r_eqi f0 ?_
      refine r_if_le (pc := 13) 20 C dX9_relation_13 (by decide) (fun c13 => ?_) (fun c13 => ?_)
      rotate_left
      · exact absurd c13 (fun h => h (by decide))
      refine r_aload0 (pc := 20) C dX9_relation_20 ?_
      refine gX9_20 (pc := 21) C dX9_relation_21 ?_
      refine r_aload0 (pc := 24) C dX9_relation_24 ?_
      refine gX9_254 (pc := 25) C dX9_relation_25 ?_
      refine r_eqi t0 ?_
      refine r_iald (pc := 28) (_) C dX9_relation_28 aM5 (rfl) (by omega) ?_
      refine r_eqi (y := nI (8 + w)) (by rw [p1.1.1 5 (by unfold xS; decide)]; exact hkd) ?_
      refine r_bipush (pc := 29) (v := nI 11) C dX9_relation_29 (by decide) ?_
      refine r_isub (pc := 31) C dX9_relation_31 ?_
      refine r_eqi (y := nI (w - 3)) (by rw [pk_sub (by omega)]; congr 1; omega) ?_
      refine r_istore3 (pc := 32) C dX9_relation_32 rfl ?_
      refine r_aload0 (pc := 33) C dX9_relation_33 ?_
      refine gX9_251 (pc := 34) C dX9_relation_34 ?_
      refine r_eqi f0 ?_
      refine r_if_ne (pc := 37) 54 C dX9_relation_37 (by decide) (fun c37 => ?_) (fun c37 => ?_)
      · exact absurd c37 (fun h => h rfl)
      refine r_iload3 (pc := 40) C dX9_relation_40 ?_
      refine r_if_lt (pc := 41) 49 C dX9_relation_41 (by decide) (fun c41 => ?_) (fun c41 => ?_)
      · exact absurd c41 (nI_pos (by omega))
      refine r_iload3 (pc := 44) C dX9_relation_44 ?_
      refine r_iconst (pc := 45) (v := nI 3) C dX9_relation_45 (by decide) ?_
      refine r_icmp_le (pc := 46) 54 C dX9_relation_46 (by decide) (fun c46 => ?_) (fun c46 => ?_)
      rotate_left
      · exact absurd c46 (fun h => h (nI_le (by omega) (by decide)))
      refine r_aload0 (pc := 54) C dX9_relation_54 ?_
      refine r_callVv (pc := 55) C rfl dX9_relation_55 kX9_272 gF9 jM (tX9_next Z.1 C.w t0 (by omega)) rfl rfl (Nat.le_of_ble_eq_true rfl) (by decide) (fun G55 h55 => ?_)
      subst h55
      by_cases h400 : k = 400
      · have hR := hlv.1 h400
        have e6 : G1.1 6 k = nI (tkT B n k).2.2.1 := by rw [p1.1.1 6 (by unfold xS; decide)]; exact htk.2
        rw [nF_4 h400 f0]
        exact finG k _ _ _ _ (((p1.rl s rl).s (by decide)).s (by decide)) (by rw [sI_s, upd_o (by decide), sI_s, upd_o (by decide)]; exact t0) (by omega) ⟨2, by decide, by decide, by rw [sI_s, upd_o (by decide), sI_s, upd_s], hR.1, by rw [sI_s, upd_s, hR.2, ← e6]⟩
      · rw [nF_g h400]
        have hrw : rk w = 3 := by
          have : ∀ w, w < 7 → 3 ≤ w → rk w = 3 := by decide +kernel
          exact this w (by omega) hw3
        have hlv2 := hlv.2 h400
        have hE0 : oE E := fun z hz => Or.inr (hE z hz)
        obtain ⟨w1, w2⟩ := tw_all hE
        have hst : E.dropWhile (popP false) ≠ [] ∨ opsP = [] ∨ ∃ y t, opsP = y :: t ∧ ¬ rk w ≤ rk y := by
          rcases hcd.rank with z | ⟨y, t, z, z2⟩
          · exact Or.inr (Or.inl z)
          · exact Or.inr (Or.inr ⟨y, t, z, by omega⟩)
        rw [edn_E (tm := false) (Or.inl ⟨rfl, by omega, by omega⟩) E [] hE0 hst, edn_E (tm := false) (Or.inl ⟨rfl, by omega, by omega⟩) E _ hE0 hst, w1, w2] at hlv2
        have hK2 : ∀ v, cK v ((E.map fOp).reverse ++ c) (x v :: L0 v) := fun v => by
          have := cK_pops E c (LE v) (fun z hz => by rcases hE z hz with rfl | rfl | rfl <;> decide) (hLE v).2.2 (by rw [(hLE v).1]; exact Nat.le_refl _)
          rw [(hLE v).2.1] at this
          exact this
        have hTK2 : TK (sI G1 100 11 (nI (k + 1))) B n := hTK.ex (by rw [sI_o (by decide)]; exact p1.1.1 5 (by unfold xS; decide)) (by rw [sI_o (by decide)]; exact p1.1.1 6 (by unfold xS; decide)) (by rw [sI_o (by decide)]; exact p1.1.1 7 (by unfold xS; decide))
        refine r_aload0 (pc := 58) C dX9_relation_58 ?_
        refine gX9_284 (pc := 59) C dX9_relation_59 ?_
        refine r_eqi (y := nI cc) (by rw [sI_s, upd_o (by decide)]; exact c031) ?_
        refine r_istore4 (pc := 62) C dX9_relation_62 rfl ?_
        refine r_aload0 (pc := 64) C dX9_relation_64 ?_
        refine r_callVv (pc := 65) C rfl dX9_relation_65 kX9_305 gF9 jM (tX9_expression Z.1 C.w (kb := k + 1) (cd := cc) (rel := true) (ops0 := w :: opsP) (L0 := fun v => x v :: L0 v) hTK2 hlv2 hK2 (fun v => by simp; have := hcd.len v; omega) (Or.inr ⟨w, opsP, rfl, by omega⟩) (by omega) (by rw [sI_s, upd_s]) (by rw [sI_s, upd_o (by decide)]; exact o0) (by rw [sI_s, upd_o (by decide)]; exact f0) (by rw [sI_s, upd_o (by decide)]; exact c031)) rfl rfl (Nat.le_of_ble_eq_true rfl) (by decide) (fun G65 h65 => ?_)
        obtain ⟨p2, q2⟩ := h65
        have hf2 := ((p1.rl s rl).s (q := 11) (v := nI (k + 1)) (by decide)).ex p2 hcc (by omega)
        rcases q2 with ⟨t, ht, ht4, hft⟩ | ⟨k2, E2, c2, cc2, LE2, y, hL2, hE2, hLE2, hev2, hcc2, hck2, hkk2, t02, o02, g0, c31, hn92⟩
        · refine r_aload0 (pc := 68) C dX9_relation_68 ?_
          refine gX9_251 (pc := 69) C dX9_relation_69 ?_
          refine r_if_le (pc := 72) 76 C dX9_relation_72 (by decide) (fun c72 => ?_) (fun c72 => ?_)
          · exact absurd c72 (Int32.not_le.mpr hft.pos.1)
          exact r_return (pc := 75) C dX9_relation_75 (⟨hf2, Or.inl ⟨t, ht, by omega, hft⟩⟩)
        · refine r_aload0 (pc := 68) C dX9_relation_68 ?_
          refine gX9_251 (pc := 69) C dX9_relation_69 ?_
          refine r_eqi g0 ?_
          refine r_if_le (pc := 72) 76 C dX9_relation_72 (by decide) (fun c72 => ?_) (fun c72 => ?_)
          rotate_left
          · exact absurd c72 (fun h => h (by decide))
          refine r_sipush (pc := 76) (v := nI 200) C dX9_relation_76 (by decide) ?_
          refine r_aload0 (pc := 79) C dX9_relation_79 ?_
          refine gX9_281 (pc := 80) C dX9_relation_80 ?_
          refine r_eqi (y := nI s) (by rw [hf2.2.1 19 (by decide) (by decide) (by decide) (by decide) (by decide) (by decide)]; exact hs19) ?_
          refine r_imul (pc := 83) C dX9_relation_83 ?_
          refine r_eqi (pk_mul 200 s) ?_
          refine r_aload0 (pc := 84) C dX9_relation_84 ?_
          refine gX9_58 (pc := 85) C dX9_relation_85 ?_
          refine r_aload0 (pc := 88) C dX9_relation_88 ?_
          refine gX9_281 (pc := 89) C dX9_relation_89 ?_
          refine r_eqi (y := nI s) (by rw [hf2.2.1 19 (by decide) (by decide) (by decide) (by decide) (by decide) (by decide)]; exact hs19) ?_
          refine r_iald (pc := 92) (_) C dX9_relation_92 aM25 (rfl) (by omega) ?_
          refine r_eqi (y := nI rl) (by rw [p2.1.1 25 (by unfold xS; decide), sI_o (by decide), p1.1.1 25 (by unfold xS; decide)]; exact hrl) ?_
          refine r_iadd (pc := 93) C dX9_relation_93 ?_
          refine r_eqi (nI_add _ _) ?_
          refine r_istore5 (pc := 94) C dX9_relation_94 rfl ?_
          refine r_aload0 (pc := 96) C dX9_relation_96 ?_
          refine gX9_61 (pc := 97) C dX9_relation_97 ?_
          refine r_iload5 (pc := 100) C dX9_relation_100 ?_
          refine r_iload3 (pc := 102) C dX9_relation_102 ?_
          refine r_iast (pc := 103) (_) C dX9_relation_103 aM26 (rfl) (by omega) ?_
          refine r_aload0 (pc := 104) C dX9_relation_104 ?_
          refine gX9_64 (pc := 105) C dX9_relation_105 ?_
          refine r_iload5 (pc := 108) C dX9_relation_108 ?_
          refine r_iload2 (pc := 110) C dX9_relation_110 ?_
          refine r_iast (pc := 111) (_) C dX9_relation_111 aM27 (rfl) (by omega) ?_
          refine r_aload0 (pc := 112) C dX9_relation_112 ?_
          refine gX9_67 (pc := 113) C dX9_relation_113 ?_
          refine r_iload5 (pc := 116) C dX9_relation_116 ?_
          refine r_iload4 (pc := 118) C dX9_relation_118 ?_
          refine r_iast (pc := 120) (_) C dX9_relation_120 aM28 (rfl) (by omega) ?_
          refine r_aload0 (pc := 121) C dX9_relation_121 ?_
          refine gX9_70 (pc := 122) C dX9_relation_122 ?_
          refine r_iload5 (pc := 125) C dX9_relation_125 ?_
          refine r_aload0 (pc := 127) C dX9_relation_127 ?_
          refine gX9_284 (pc := 128) C dX9_relation_128 ?_
          refine r_eqi (y := nI cc2) (by rw [sI_o (by decide), sI_o (by decide), sI_o (by decide)]; exact c31) ?_
          refine r_iast (pc := 131) (_) C dX9_relation_131 aM29 (rfl) (by omega) ?_
          refine r_aload0 (pc := 132) C dX9_relation_132 ?_
          refine gX9_73 (pc := 133) C dX9_relation_133 ?_
          refine r_iload5 (pc := 136) C dX9_relation_136 ?_
          refine r_iload1 (pc := 138) C dX9_relation_138 ?_
          refine r_zast (pc := 139) (_) C dX9_relation_139 aM30 (rfl) (by omega) (bI_nb _) ?_
          refine r_aload0 (pc := 140) C dX9_relation_140 ?_
          refine gX9_58 (pc := 141) C dX9_relation_141 ?_
          refine r_aload0 (pc := 144) C dX9_relation_144 ?_
          refine gX9_281 (pc := 145) C dX9_relation_145 ?_
          refine r_eqi (y := nI s) (by rw [sI_o (by decide), sI_o (by decide), sI_o (by decide), sI_o (by decide), sI_o (by decide), hf2.2.1 19 (by decide) (by decide) (by decide) (by decide) (by decide) (by decide)]; exact hs19) ?_
          refine r_dup2 (pc := 148) C dX9_relation_148 rfl rfl ?_
          refine r_iald (pc := 149) (_) C dX9_relation_149 aM25 (rfl) (by omega) ?_
          refine r_eqi (y := nI rl) (by rw [sI_o (by decide), sI_o (by decide), sI_o (by decide), sI_o (by decide), sI_o (by decide), p2.1.1 25 (by unfold xS; decide), sI_o (by decide), p1.1.1 25 (by unfold xS; decide)]; exact hrl) ?_
          refine r_iconst (pc := 150) (v := nI 1) C dX9_relation_150 (by decide) ?_
          refine r_iadd (pc := 151) C dX9_relation_151 ?_
          refine r_eqi (nI_add rl 1) ?_
          refine r_iast (pc := 152) (_) C dX9_relation_152 aM25 (rfl) (by omega) ?_
          exact r_return (pc := 153) C dX9_relation_153 (by
            have hq : 200 * s + rl < 800 := by omega
            have hk24 := hL2.1
            refine ⟨⟨?_, ?_, ?_, ?_, ?_⟩, Or.inr ⟨k2, E2, w, c2, cc2, x, y, hL2, ⟨hw3, hw6, hE2, LE2, fun v => ⟨(hLE2 v).1, (hLE2 v).2.1, (hLE2 v).2.2⟩⟩, ⟨⟨?_, ?_, by show w - 3 < 4; omega, cd, cc, cc2, ?_, ?_, ?_, ⟨hcc, by omega, fun v => ?_⟩, ⟨hcc2, by omega, fun v => ?_⟩⟩, cd, cc2, ?_, Nat.le_refl _, by omega, ?_, Nat.le_refl _⟩, by omega, by omega, by omega, ?_, ?_, ?_, ?_, ?_, hn92⟩⟩
            · exact (((((hf2.1.sI (Or.inl (by decide))).sI (Or.inl (by decide))).sI (Or.inl (by decide))).sI (Or.inl (by decide))).sI (Or.inl (by decide))).sI (Or.inl (by decide))
            · intro q a b c d e f
              rw [sI_o (by decide), sI_o (by decide), sI_o (by decide), sI_o (by decide), sI_o (by decide), sI_o (by decide)]
              exact hf2.2.1 q a b c d e f
            · intro j hj
              rw [sI_o (by decide), sI_o (by decide), sI_o (by decide), sI_o (by decide), sI_o (by decide), sI_o (by decide), sI_o (by decide), sI_o (by decide), sI_o (by decide), sI_o (by decide), sI_o (by decide), sI_o (by decide)]
              exact hf2.2.2.1 j hj
            · intro q qa qb j hj
              rw [sI_o (show q ≠ 25 by omega)]
              have key : ∀ (G : gS) (r : Nat) (v : Int32), (sI G r (200 * s + rl) v).1 q j = G.1 q j := by
                intro G r v
                by_cases e : q = r
                · subst e; rw [sI_s, upd_o hj]
                · rw [sI_o e]
              rw [key, key, key, key, key]
              exact hf2.2.2.2.1 q qa qb j hj
            · intro j hj
              rw [sI_s, upd_o hj, sI_o (by decide), sI_o (by decide), sI_o (by decide), sI_o (by decide), sI_o (by decide)]
              exact hf2.2.2.2.2 j hj
            · rw [sI_o (by decide), sI_s, upd_s]
            · rw [sI_o (by decide), sI_o (by decide), sI_o (by decide), sI_o (by decide), sI_o (by decide), sI_s, upd_s]
            · rw [sI_o (by decide), sI_o (by decide), sI_o (by decide), sI_o (by decide), sI_s, upd_s]
            · rw [sI_o (by decide), sI_o (by decide), sI_o (by decide), sI_s, upd_s]
            · rw [sI_o (by decide), sI_o (by decide), sI_s, upd_s]
            · rw [sI_o (by decide), sI_o (by decide), sI_o (by decide), sI_o (by decide), sI_o (by decide), sI_o (by decide), sI_o (by decide), sI_o (by decide), sI_o (by decide), sI_o (by decide), sI_o (by decide), sI_o (by decide)]
              refine mEv_ext _ _ _ _ (fun j ja jb => ?_) (hev v)
              have := p2.2.2 j (Or.inl (by omega))
              rw [sI_o (by decide), sI_o (by decide)] at this
              exact this
            · rw [sI_o (by decide), sI_o (by decide), sI_o (by decide), sI_o (by decide), sI_o (by decide), sI_o (by decide), sI_o (by decide), sI_o (by decide), sI_o (by decide), sI_o (by decide), sI_o (by decide), sI_o (by decide)]
              exact hev2 v
            · rw [sI_o (by decide), sI_o (by decide), sI_o (by decide), sI_o (by decide), sI_s, upd_s]
            · rw [sI_o (by decide), sI_o (by decide), sI_s, upd_s]
            · rw [sI_o (by decide), sI_o (by decide), sI_o (by decide), sI_o (by decide), sI_o (by decide), sI_o (by decide)]; exact t02
            · rw [sI_o (by decide), sI_o (by decide), sI_o (by decide), sI_o (by decide), sI_o (by decide), sI_o (by decide)]; exact o02
            · rw [sI_o (by decide), sI_o (by decide), sI_o (by decide), sI_o (by decide), sI_o (by decide), sI_o (by decide)]; exact g0
            · rw [sI_o (by decide), sI_o (by decide), sI_o (by decide), sI_o (by decide), sI_o (by decide), sI_o (by decide)]; exact c31
            · rw [sI_s, upd_s])
    · refine r_aload0 (pc := 9) C dX9_relation_9 ?_
      refine gX9_251 (pc := 10) C dX9_relation_10 ?_
      refine r_eqi f0 ?_
      refine r_if_le (pc := 13) 20 C dX9_relation_13 (by decide) (fun c13 => ?_) (fun c13 => ?_)
      rotate_left
      · exact absurd c13 (fun h => h (by decide))
      refine r_aload0 (pc := 20) C dX9_relation_20 ?_
      refine gX9_20 (pc := 21) C dX9_relation_21 ?_
      refine r_aload0 (pc := 24) C dX9_relation_24 ?_
      refine gX9_254 (pc := 25) C dX9_relation_25 ?_
      refine r_eqi t0 ?_
      refine r_iald (pc := 28) (_) C dX9_relation_28 aM5 (rfl) (by omega) ?_
      refine r_eqi (y := nI b) (by rw [p1.1.1 5 (by unfold xS; decide)]; exact hkd) ?_
      refine r_bipush (pc := 29) (v := nI 11) C dX9_relation_29 (by decide) ?_
      refine r_isub (pc := 31) C dX9_relation_31 ?_
      refine r_istore3 (pc := 32) C dX9_relation_32 rfl ?_
      refine r_aload0 (pc := 33) C dX9_relation_33 ?_
      refine gX9_251 (pc := 34) C dX9_relation_34 ?_
      refine r_eqi f0 ?_
      refine r_if_ne (pc := 37) 54 C dX9_relation_37 (by decide) (fun c37 => ?_) (fun c37 => ?_)
      · exact absurd c37 (fun h => h rfl)
      refine r_iload3 (pc := 40) C dX9_relation_40 ?_
      refine r_if_lt (pc := 41) 49 C dX9_relation_41 (by decide) (fun c41 => ?_) (fun c41 => ?_)
      · refine r_aload0 (pc := 49) C dX9_relation_49 ?_
        refine r_iconst (pc := 50) (v := nI 1) C dX9_relation_50 (by decide) ?_
        refine r_callVv (pc := 51) C rfl dX9_relation_51 kX9_266 gF9 jM (tX9_fail Z.1 C.w t0 (by omega)) rfl rfl (Nat.le_of_ble_eq_true rfl) (by decide) (fun G51 h51 => ?_)
        rw [fF_0 f0] at h51
        subst h51
        have hR := lv6_norel hL1 hn9 hs8
        exact finF k _ _ _ _ (((p1.rl s rl).s (by decide)).s (by decide)) (by rw [sI_s, upd_o (by decide), sI_s, upd_o (by decide)]; exact t0) hk4 ⟨1, by decide, by decide, by rw [sI_s, upd_o (by decide), sI_s, upd_s], hR.1, by rw [sI_s, upd_s, hR.2, ← htk.2, p1.1.1 6 (by unfold xS; decide)]⟩
      · refine r_iload3 (pc := 44) C dX9_relation_44 ?_
        refine r_iconst (pc := 45) (v := nI 3) C dX9_relation_45 (by decide) ?_
        refine r_icmp_le (pc := 46) 54 C dX9_relation_46 (by decide) (fun c46 => ?_) (fun c46 => ?_)
        · exact absurd c46 (fun z => by
        have hb11 : 11 ≤ b := by
          rcases Nat.lt_or_ge b 11 with q | q
          · exact absurd (pk_sneg (by decide) q) c41
          · exact q
        rw [pk_sub hb11] at z
        have := (nI_leI (by omega) (by decide)).mp z
        omega)
        refine r_aload0 (pc := 49) C dX9_relation_49 ?_
        refine r_iconst (pc := 50) (v := nI 1) C dX9_relation_50 (by decide) ?_
        refine r_callVv (pc := 51) C rfl dX9_relation_51 kX9_266 gF9 jM (tX9_fail Z.1 C.w t0 (by omega)) rfl rfl (Nat.le_of_ble_eq_true rfl) (by decide) (fun G51 h51 => ?_)
        rw [fF_0 f0] at h51
        subst h51
        have hR := lv6_norel hL1 hn9 hs8
        exact finF k _ _ _ _ (((p1.rl s rl).s (by decide)).s (by decide)) (by rw [sI_s, upd_o (by decide), sI_s, upd_o (by decide)]; exact t0) hk4 ⟨1, by decide, by decide, by rw [sI_s, upd_o (by decide), sI_s, upd_s], hR.1, by rw [sI_s, upd_s, hR.2, ← htk.2, p1.1.1 6 (by unfold xS; decide)]⟩
