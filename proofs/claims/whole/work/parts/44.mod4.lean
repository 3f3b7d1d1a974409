/-! the reference: rules, what holds, what a keeper answers -/
def stkR (f : Nat → Int32) (L : List Int32) : Prop := ∀ k, k < L.length → f k = L.reverse.getD k 0
theorem stkR_push {f : Nat → Int32} {L : List Int32} (h : stkR f L) (x : Int32) : stkR (upd f L.length x) (x :: L) := by
  intro k hk
  have hk : k < L.length + 1 := hk
  rw [List.reverse_cons, List.getD_eq_getElem?_getD]
  by_cases e : k = L.length
  · subst e
    rw [upd_s, List.getElem?_append_right (by simp)]
    simp
  · rw [upd_o e, h k (by omega), List.getElem?_append_left (by simp; omega), ← List.getD_eq_getElem?_getD]
theorem stkR_pop {f : Nat → Int32} {L : List Int32} {x : Int32} (h : stkR f (x :: L)) : stkR f L ∧ f L.length = x := by
  constructor
  · intro k hk
    have := h k (Nat.lt_succ_of_lt hk)
    rw [List.reverse_cons, List.getD_eq_getElem?_getD, List.getElem?_append_left (by simp; omega), ← List.getD_eq_getElem?_getD] at this
    exact this
  · have := h L.length (Nat.lt_succ_self _)
    rw [List.reverse_cons, List.getD_eq_getElem?_getD, List.getElem?_append_right (by simp)] at this
    simpa using this
/-- n codes of the reference from i on turn stack L into stack K -/
def mEv (v code cint : Nat → Int32) : Nat → Nat → List Int32 → List Int32 → Prop
  | 0, _, L, K => L = K
  | n + 1, i, L, K => (∃ x, ((code i = nI 0 ∧ x = cint i) ∨ (code i = nI 1 ∧ ∃ j, j < 7 ∧ cint i = nI j ∧ x = v j)) ∧ L.length < 400 ∧ mEv v code cint n (i + 1) (x :: L) K) ∨
      (∃ a b M, L = b :: a :: M ∧ ((code i = nI 2 ∧ mEv v code cint n (i + 1) ((a + b) :: M) K) ∨ (code i = nI 3 ∧ mEv v code cint n (i + 1) ((a - b) :: M) K) ∨ (code i = nI 4 ∧ mEv v code cint n (i + 1) ((a * b) :: M) K)))
abbrev vV : Type := (Nat → Int32) → Int32
/-- a relation: or ahead of it, its sort, its sides -/
abbrev rl : Type := Bool × Nat × vV × vV
def exOk (G : gS) (l m : Nat) (a : vV) : Prop := l ≤ m ∧ m ≤ 2000 ∧ ∀ v, mEv v (G.1 32) (G.1 33) (m - l) l [] [a v]
def relOk (G : gS) (q : Nat) (r : rl) : Prop := G.1 30 q = bI r.1 ∧ G.1 26 q = nI r.2.1 ∧ r.2.1 < 4 ∧ ∃ l m e, G.1 27 q = nI l ∧ G.1 28 q = nI m ∧ G.1 29 q = nI e ∧ exOk G l m r.2.2.1 ∧ exOk G m e r.2.2.2
def rlsOk (G : gS) : Nat → List rl → Prop
  | _, [] => True
  | q, r :: R => relOk G q r ∧ rlsOk G (q + 1) R
def relP (so : Nat) (a b : Int32) : Bool := if so = 0 then decide (a = b) else if so = 1 then decide (¬ a = b) else if so = 2 then decide (a < b) else decide (a ≤ b)
def hmR (v : Nat → Int32) : List rl → Bool → Bool
  | [], a => a
  | (o, so, x, y) :: R, a => if (o && a) = true then true else hmR v R ((o || a) && relP so (x v) (y v))
def hm (v : Nat → Int32) (R : List rl) : Bool := decide (R = []) || hmR v R false
/-- a page of the reference holds these rules -/
def pgOk (G : gS) (s n : Nat) (aft : Nat → Bool) (num : Nat → Int32) (rels : Nat → List rl) : Prop := G.1 20 s = nI n ∧ n ≤ 20 ∧ ∀ r, r < n → G.1 21 (20 * s + r) = bI (aft r) ∧ G.1 22 (20 * s + r) = num r ∧ ¬ num r = -1 ∧ ∃ f, G.1 23 (20 * s + r) = nI f ∧ G.1 24 (20 * s + r) = nI (f + (rels r).length) ∧ f + (rels r).length ≤ 200 ∧ rlsOk G (200 * s + f) (rels r)
theorem exOk.fr {S : Nat → Prop} {G G' : gS} {l m : Nat} {a : vV} (h : exOk G l m a) (hF : Fr S G G') (h1 : ¬ S 32) (h2 : ¬ S 33) : exOk G' l m a := by
  unfold exOk
  rw [hF.1 _ h1, hF.1 _ h2]
  exact h
theorem relOk.fr {S : Nat → Prop} {G G' : gS} {q : Nat} {r : rl} (h : relOk G q r) (hF : Fr S G G') (hS : ∀ k, 26 ≤ k → k ≤ 33 → ¬ S k) : relOk G' q r := by
  obtain ⟨a, b, c, l, m, e, d1, d2, d3, d4, d5⟩ := h
  unfold relOk
  rw [hF.1 _ (hS 26 (by decide) (by decide)), hF.1 _ (hS 27 (by decide) (by decide)), hF.1 _ (hS 28 (by decide) (by decide)), hF.1 _ (hS 29 (by decide) (by decide)), hF.1 _ (hS 30 (by decide) (by decide))]
  exact ⟨a, b, c, l, m, e, d1, d2, d3, d4.fr hF (hS 32 (by decide) (by decide)) (hS 33 (by decide) (by decide)), d5.fr hF (hS 32 (by decide) (by decide)) (hS 33 (by decide) (by decide))⟩
theorem rlsOk.fr {S : Nat → Prop} {G G' : gS} (hF : Fr S G G') (hS : ∀ k, 26 ≤ k → k ≤ 33 → ¬ S k) : ∀ {R : List rl} {q : Nat}, rlsOk G q R → rlsOk G' q R
  | [], _, _ => trivial
  | _ :: _, _, h => ⟨h.1.fr hF hS, rlsOk.fr hF hS h.2⟩
theorem pgOk.fr {S : Nat → Prop} {G G' : gS} {s n : Nat} {aft : Nat → Bool} {num : Nat → Int32} {rels : Nat → List rl} (h : pgOk G s n aft num rels) (hF : Fr S G G') (hS : ∀ k, 20 ≤ k → k ≤ 33 → ¬ S k) : pgOk G' s n aft num rels := by
  obtain ⟨h1, h2, h3⟩ := h
  unfold pgOk
  rw [hF.1 _ (hS 20 (by decide) (by decide)), hF.1 _ (hS 21 (by decide) (by decide)), hF.1 _ (hS 22 (by decide) (by decide)), hF.1 _ (hS 23 (by decide) (by decide)), hF.1 _ (hS 24 (by decide) (by decide))]
  refine ⟨h1, h2, fun r hr => ?_⟩
  obtain ⟨a, b, c, f, d1, d2, d3, d4⟩ := h3 r hr
  exact ⟨a, b, c, f, d1, d2, d3, rlsOk.fr hF (fun k hk1 hk2 => hS k (by omega) hk2) d4⟩
set_option maxHeartbeats 4000000 in
set_option maxRecDepth 100000 in
theorem tX9_value (Y : gY) (hY : Y.2.2.2 = wM) {G : gS} {d e : Nat} {x : Int32} (hle : d ≤ e) (he : e ≤ 2000) (hev : mEv (G.1 50) (G.1 32) (G.1 33) (e - d) d [] [x]) : ∀ l : Launch, gM Y l yX9_value cX9_value 7 (some .int) (0, 0) [.ref (Y.2.1 (100)), .int (nI d), .int (nI e)] G (qi (fun r G' => r = x ∧ Fr (fun q => q = 51) G G')) := by
  intro l
  refine gM_of hY rfl (Nat.le_of_ble_eq_true rfl) [some (.ref (Y.2.1 (100))), some (.int (nI d)), some (.int (nI e)), none, none, none, none] rfl rfl ?_
  rintro Z rfl C
  have loop : ∀ (k0 : Nat) (c : Nat) (o5 o6 : Option Value) (G1 : gS) (L : List Int32), k0 = e - c → d ≤ c → c ≤ e → L.length ≤ 400 → Fr (fun q => q = 51) G G1 → stkR (G1.1 51) L → mEv (G.1 50) (G.1 32) (G.1 33) (e - c) c L [x] → WW Z (qi (fun r G' => r = x ∧ Fr (fun q => q = 51) G G')) 5 [some (.ref (ad Z (100))), some (.int (nI d)), some (.int (nI e)), some (.int (nI L.length)), some (.int (nI c)), o5, o6] [] G1 := by
    intro k0
    induction k0 using Nat.strongRecOn with
    | _ k0 ih =>
      intro c o5 o6 G1 L hk0 hlc hce0 hl0 hfr hst hE
      refine r_iload4 (pc := 5) C dX9_value_5 ?_
      refine r_iload2 (pc := 7) C dX9_value_7 ?_
      refine r_icmp_ge (pc := 8) 144 C dX9_value_8 (by decide) (fun c8 => ?_) (fun c8 => ?_)
      · obtain rfl : c = e := by have := (nI_leI (by omega) (by omega)).mp c8; omega
        rw [Nat.sub_self] at hE
        have hE : L = [x] := hE
        subst hE
        refine r_aload0 (pc := 144) C dX9_value_144 ?_
        refine gX9_119 (pc := 145) C dX9_value_145 ?_
        refine r_iconst (pc := 148) (v := nI 0) C dX9_value_148 (by decide) ?_
        refine r_iald (pc := 149) (_) C dX9_value_149 aM51 (rfl) (by decide) ?_
        exact r_ireturn (pc := 150) C dX9_value_150 (⟨(stkR_pop hst).2, hfr⟩)
      · have hce : c < e := by
          rcases Nat.lt_or_ge c e with h | h
          · exact h
          · exact absurd (nI_le h (by omega)) c8
        rw [show e - c = (e - (c + 1)) + 1 by omega] at hE
        rcases hE with ⟨y, (⟨h1, rfl⟩ | ⟨h1, j, hj, h2, rfl⟩), hl, hE⟩ | ⟨p, q, K, rfl, (⟨h1, hE⟩ | ⟨h1, hE⟩ | ⟨h1, hE⟩)⟩
        · refine r_aload0 (pc := 11) C dX9_value_11 ?_
          refine gX9_77 (pc := 12) C dX9_value_12 ?_
          refine r_iload4 (pc := 15) C dX9_value_15 ?_
          refine r_iald (pc := 17) (_) C dX9_value_17 aM32 (rfl) (by omega) ?_
          refine r_eqi (y := nI 0) (by rw [hfr.1 32 (by decide)]; exact h1) ?_
          refine r_iconst (pc := 18) (v := nI 2) C dX9_value_18 (by decide) ?_
          refine r_icmp_ge (pc := 19) 66 C dX9_value_19 (by decide) (fun c19 => ?_) (fun c19 => ?_)
          · exact absurd c19 (by decide)
          refine r_aload0 (pc := 22) C dX9_value_22 ?_
          refine gX9_119 (pc := 23) C dX9_value_23 ?_
          refine r_iload3 (pc := 26) C dX9_value_26 ?_
          refine r_aload0 (pc := 27) C dX9_value_27 ?_
          refine gX9_77 (pc := 28) C dX9_value_28 ?_
          refine r_iload4 (pc := 31) C dX9_value_31 ?_
          refine r_iald (pc := 33) (_) C dX9_value_33 aM32 (rfl) (by omega) ?_
          refine r_eqi (y := nI 0) (by rw [hfr.1 32 (by decide)]; exact h1) ?_
          refine r_if_ne (pc := 34) 47 C dX9_value_34 (by decide) (fun c34 => ?_) (fun c34 => ?_)
          · exact absurd c34 (fun h => h rfl)
          refine r_aload0 (pc := 37) C dX9_value_37 ?_
          refine gX9_80 (pc := 38) C dX9_value_38 ?_
          refine r_iload4 (pc := 41) C dX9_value_41 ?_
          refine r_iald (pc := 43) (_) C dX9_value_43 aM33 (rfl) (by omega) ?_
          refine r_eqi (y := G.1 33 c) (by rw [hfr.1 33 (by decide)]) ?_
          refine r_goto (pc := 44) 59 C dX9_value_44 (by decide) ?_
          refine r_iast (pc := 59) (_) C dX9_value_59 aM51 (rfl) (by omega) ?_
          refine r_iinc3 (pc := 60) (nI 1) C dX9_value_60 (by decide) rfl ?_
          rw [nI_add]
          refine r_goto (pc := 63) 138 C dX9_value_63 (by decide) ?_
          refine r_iinc4 (pc := 138) (nI 1) C dX9_value_138 (by decide) rfl ?_
          rw [nI_add c 1]
          refine r_goto (pc := 141) 5 C dX9_value_141 (by decide) ?_
          exact ih (e - (c + 1)) (by omega) (c + 1) _ _ _ (_ :: L) rfl (by omega) (by omega) (by simp at hl0 ⊢; omega) (hfr.sI rfl) (by rw [sI_s]; exact stkR_push hst _) hE
        · refine r_aload0 (pc := 11) C dX9_value_11 ?_
          refine gX9_77 (pc := 12) C dX9_value_12 ?_
          refine r_iload4 (pc := 15) C dX9_value_15 ?_
          refine r_iald (pc := 17) (_) C dX9_value_17 aM32 (rfl) (by omega) ?_
          refine r_eqi (y := nI 1) (by rw [hfr.1 32 (by decide)]; exact h1) ?_
          refine r_iconst (pc := 18) (v := nI 2) C dX9_value_18 (by decide) ?_
          refine r_icmp_ge (pc := 19) 66 C dX9_value_19 (by decide) (fun c19 => ?_) (fun c19 => ?_)
          · exact absurd c19 (by decide)
          refine r_aload0 (pc := 22) C dX9_value_22 ?_
          refine gX9_119 (pc := 23) C dX9_value_23 ?_
          refine r_iload3 (pc := 26) C dX9_value_26 ?_
          refine r_aload0 (pc := 27) C dX9_value_27 ?_
          refine gX9_77 (pc := 28) C dX9_value_28 ?_
          refine r_iload4 (pc := 31) C dX9_value_31 ?_
          refine r_iald (pc := 33) (_) C dX9_value_33 aM32 (rfl) (by omega) ?_
          refine r_eqi (y := nI 1) (by rw [hfr.1 32 (by decide)]; exact h1) ?_
          refine r_if_ne (pc := 34) 47 C dX9_value_34 (by decide) (fun c34 => ?_) (fun c34 => ?_)
          rotate_left
          · exact absurd c34 (by decide)
          refine r_aload0 (pc := 47) C dX9_value_47 ?_
          refine gX9_116 (pc := 48) C dX9_value_48 ?_
          refine r_aload0 (pc := 51) C dX9_value_51 ?_
          refine gX9_80 (pc := 52) C dX9_value_52 ?_
          refine r_iload4 (pc := 55) C dX9_value_55 ?_
          refine r_iald (pc := 57) (_) C dX9_value_57 aM33 (rfl) (by omega) ?_
          refine r_eqi (y := nI j) (by rw [hfr.1 33 (by decide)]; exact h2) ?_
          refine r_iald (pc := 58) (_) C dX9_value_58 aM50 (rfl) (hj) ?_
          refine r_eqi (y := G.1 50 j) (by rw [hfr.1 50 (by decide)]) ?_
          refine r_iast (pc := 59) (_) C dX9_value_59 aM51 (rfl) (by omega) ?_
          refine r_iinc3 (pc := 60) (nI 1) C dX9_value_60 (by decide) rfl ?_
          rw [nI_add]
          refine r_goto (pc := 63) 138 C dX9_value_63 (by decide) ?_
          refine r_iinc4 (pc := 138) (nI 1) C dX9_value_138 (by decide) rfl ?_
          rw [nI_add c 1]
          refine r_goto (pc := 141) 5 C dX9_value_141 (by decide) ?_
          exact ih (e - (c + 1)) (by omega) (c + 1) _ _ _ (_ :: L) rfl (by omega) (by omega) (by simp at hl0 ⊢; omega) (hfr.sI rfl) (by rw [sI_s]; exact stkR_push hst _) hE
        · have hq := stkR_pop hst
          have hp := stkR_pop hq.1
          have hl4 : K.length + 1 < 500 := by have : (q :: p :: K).length ≤ 400 := hl0; simp at this; omega
          refine r_aload0 (pc := 11) C dX9_value_11 ?_
          refine gX9_77 (pc := 12) C dX9_value_12 ?_
          refine r_iload4 (pc := 15) C dX9_value_15 ?_
          refine r_iald (pc := 17) (_) C dX9_value_17 aM32 (rfl) (by omega) ?_
          refine r_eqi (y := nI 2) (by rw [hfr.1 32 (by decide)]; exact h1) ?_
          refine r_iconst (pc := 18) (v := nI 2) C dX9_value_18 (by decide) ?_
          refine r_icmp_ge (pc := 19) 66 C dX9_value_19 (by decide) (fun c19 => ?_) (fun c19 => ?_)
          rotate_left
          · exact absurd c19 (fun h => h (by decide))
          refine r_iinc3 (pc := 66) ((-1)) C dX9_value_66 (by decide) rfl ?_
          rw [show nI (q :: p :: K).length + (-1) = nI (K.length + 1) from pk_m1 _]
          refine r_aload0 (pc := 69) C dX9_value_69 ?_
          refine gX9_119 (pc := 70) C dX9_value_70 ?_
          refine r_iload3 (pc := 73) C dX9_value_73 ?_
          refine r_iconst (pc := 74) (v := nI 1) C dX9_value_74 (by decide) ?_
          refine r_isub (pc := 75) C dX9_value_75 ?_
          refine r_eqi (y := nI K.length) (pk_sub (a := K.length + 1) (b := 1) (by omega)) ?_
          refine r_iald (pc := 76) (_) C dX9_value_76 aM51 (rfl) (by omega) ?_
          refine r_eqi (y := p) hp.2 ?_
          refine r_istore5 (pc := 77) C dX9_value_77 rfl ?_
          refine r_aload0 (pc := 79) C dX9_value_79 ?_
          refine gX9_119 (pc := 80) C dX9_value_80 ?_
          refine r_iload3 (pc := 83) C dX9_value_83 ?_
          refine r_iald (pc := 84) (_) C dX9_value_84 aM51 (rfl) (by omega) ?_
          refine r_eqi (y := q) hq.2 ?_
          refine r_istore6 (pc := 85) C dX9_value_85 rfl ?_
          refine r_aload0 (pc := 87) C dX9_value_87 ?_
          refine gX9_119 (pc := 88) C dX9_value_88 ?_
          refine r_iload3 (pc := 91) C dX9_value_91 ?_
          refine r_iconst (pc := 92) (v := nI 1) C dX9_value_92 (by decide) ?_
          refine r_isub (pc := 93) C dX9_value_93 ?_
          refine r_eqi (y := nI K.length) (pk_sub (a := K.length + 1) (b := 1) (by omega)) ?_
          refine r_aload0 (pc := 94) C dX9_value_94 ?_
          refine gX9_77 (pc := 95) C dX9_value_95 ?_
          refine r_iload4 (pc := 98) C dX9_value_98 ?_
          refine r_iald (pc := 100) (_) C dX9_value_100 aM32 (rfl) (by omega) ?_
          refine r_eqi (y := nI 2) (by rw [hfr.1 32 (by decide)]; exact h1) ?_
          refine r_iconst (pc := 101) (v := nI 2) C dX9_value_101 (by decide) ?_
          refine r_icmp_ne (pc := 102) 113 C dX9_value_102 (by decide) (fun c102 => ?_) (fun c102 => ?_)
          · exact absurd c102 (fun h => h rfl)
          refine r_iload5 (pc := 105) C dX9_value_105 ?_
          refine r_iload6 (pc := 107) C dX9_value_107 ?_
          refine r_iadd (pc := 109) C dX9_value_109 ?_
          refine r_goto (pc := 110) 137 C dX9_value_110 (by decide) ?_
          refine r_iast (pc := 137) (_) C dX9_value_137 aM51 (rfl) (by omega) ?_
          refine r_iinc4 (pc := 138) (nI 1) C dX9_value_138 (by decide) rfl ?_
          rw [nI_add c 1]
          refine r_goto (pc := 141) 5 C dX9_value_141 (by decide) ?_
          exact ih (e - (c + 1)) (by omega) (c + 1) _ _ _ (_ :: K) rfl (by omega) (by omega) (by simp at hl0 ⊢; omega) (hfr.sI rfl) (by rw [sI_s]; exact stkR_push hp.1 _) hE
        · have hq := stkR_pop hst
          have hp := stkR_pop hq.1
          have hl4 : K.length + 1 < 500 := by have : (q :: p :: K).length ≤ 400 := hl0; simp at this; omega
          refine r_aload0 (pc := 11) C dX9_value_11 ?_
          refine gX9_77 (pc := 12) C dX9_value_12 ?_
          refine r_iload4 (pc := 15) C dX9_value_15 ?_
          refine r_iald (pc := 17) (_) C dX9_value_17 aM32 (rfl) (by omega) ?_
          refine r_eqi (y := nI 3) (by rw [hfr.1 32 (by decide)]; exact h1) ?_
          refine r_iconst (pc := 18) (v := nI 2) C dX9_value_18 (by decide) ?_
          refine r_icmp_ge (pc := 19) 66 C dX9_value_19 (by decide) (fun c19 => ?_) (fun c19 => ?_)
          rotate_left
          · exact absurd c19 (fun h => h (by decide))
          refine r_iinc3 (pc := 66) ((-1)) C dX9_value_66 (by decide) rfl ?_
          rw [show nI (q :: p :: K).length + (-1) = nI (K.length + 1) from pk_m1 _]
          refine r_aload0 (pc := 69) C dX9_value_69 ?_
          refine gX9_119 (pc := 70) C dX9_value_70 ?_
          refine r_iload3 (pc := 73) C dX9_value_73 ?_
          refine r_iconst (pc := 74) (v := nI 1) C dX9_value_74 (by decide) ?_
          refine r_isub (pc := 75) C dX9_value_75 ?_
          refine r_eqi (y := nI K.length) (pk_sub (a := K.length + 1) (b := 1) (by omega)) ?_
          refine r_iald (pc := 76) (_) C dX9_value_76 aM51 (rfl) (by omega) ?_
          refine r_eqi (y := p) hp.2 ?_
          refine r_istore5 (pc := 77) C dX9_value_77 rfl ?_
          refine r_aload0 (pc := 79) C dX9_value_79 ?_
          refine gX9_119 (pc := 80) C dX9_value_80 ?_
          refine r_iload3 (pc := 83) C dX9_value_83 ?_
          refine r_iald (pc := 84) (_) C dX9_value_84 aM51 (rfl) (by omega) ?_
          refine r_eqi (y := q) hq.2 ?_
          refine r_istore6 (pc := 85) C dX9_value_85 rfl ?_
          refine r_aload0 (pc := 87) C dX9_value_87 ?_
          refine gX9_119 (pc := 88) C dX9_value_88 ?_
          refine r_iload3 (pc := 91) C dX9_value_91 ?_
          refine r_iconst (pc := 92) (v := nI 1) C dX9_value_92 (by decide) ?_
          refine r_isub (pc := 93) C dX9_value_93 ?_
          refine r_eqi (y := nI K.length) (pk_sub (a := K.length + 1) (b := 1) (by omega)) ?_
          refine r_aload0 (pc := 94) C dX9_value_94 ?_
          refine gX9_77 (pc := 95) C dX9_value_95 ?_
          refine r_iload4 (pc := 98) C dX9_value_98 ?_
          refine r_iald (pc := 100) (_) C dX9_value_100 aM32 (rfl) (by omega) ?_
          refine r_eqi (y := nI 3) (by rw [hfr.1 32 (by decide)]; exact h1) ?_
          refine r_iconst (pc := 101) (v := nI 2) C dX9_value_101 (by decide) ?_
          refine r_icmp_ne (pc := 102) 113 C dX9_value_102 (by decide) (fun c102 => ?_) (fun c102 => ?_)
          rotate_left
          · exact absurd c102 (by decide)
          refine r_aload0 (pc := 113) C dX9_value_113 ?_
          refine gX9_77 (pc := 114) C dX9_value_114 ?_
          refine r_iload4 (pc := 117) C dX9_value_117 ?_
          refine r_iald (pc := 119) (_) C dX9_value_119 aM32 (rfl) (by omega) ?_
          refine r_eqi (y := nI 3) (by rw [hfr.1 32 (by decide)]; exact h1) ?_
          refine r_iconst (pc := 120) (v := nI 3) C dX9_value_120 (by decide) ?_
          refine r_icmp_ne (pc := 121) 132 C dX9_value_121 (by decide) (fun c121 => ?_) (fun c121 => ?_)
          · exact absurd c121 (fun h => h rfl)
          refine r_iload5 (pc := 124) C dX9_value_124 ?_
          refine r_iload6 (pc := 126) C dX9_value_126 ?_
          refine r_isub (pc := 128) C dX9_value_128 ?_
          refine r_goto (pc := 129) 137 C dX9_value_129 (by decide) ?_
          refine r_iast (pc := 137) (_) C dX9_value_137 aM51 (rfl) (by omega) ?_
          refine r_iinc4 (pc := 138) (nI 1) C dX9_value_138 (by decide) rfl ?_
          rw [nI_add c 1]
          refine r_goto (pc := 141) 5 C dX9_value_141 (by decide) ?_
          exact ih (e - (c + 1)) (by omega) (c + 1) _ _ _ (_ :: K) rfl (by omega) (by omega) (by simp at hl0 ⊢; omega) (hfr.sI rfl) (by rw [sI_s]; exact stkR_push hp.1 _) hE
        · have hq := stkR_pop hst
          have hp := stkR_pop hq.1
          have hl4 : K.length + 1 < 500 := by have : (q :: p :: K).length ≤ 400 := hl0; simp at this; omega
          refine r_aload0 (pc := 11) C dX9_value_11 ?_
          refine gX9_77 (pc := 12) C dX9_value_12 ?_
          refine r_iload4 (pc := 15) C dX9_value_15 ?_
          refine r_iald (pc := 17) (_) C dX9_value_17 aM32 (rfl) (by omega) ?_
          refine r_eqi (y := nI 4) (by rw [hfr.1 32 (by decide)]; exact h1) ?_
          refine r_iconst (pc := 18) (v := nI 2) C dX9_value_18 (by decide) ?_
          refine r_icmp_ge (pc := 19) 66 C dX9_value_19 (by decide) (fun c19 => ?_) (fun c19 => ?_)
          rotate_left
          · exact absurd c19 (fun h => h (by decide))
          refine r_iinc3 (pc := 66) ((-1)) C dX9_value_66 (by decide) rfl ?_
          rw [show nI (q :: p :: K).length + (-1) = nI (K.length + 1) from pk_m1 _]
          refine r_aload0 (pc := 69) C dX9_value_69 ?_
          refine gX9_119 (pc := 70) C dX9_value_70 ?_
          refine r_iload3 (pc := 73) C dX9_value_73 ?_
          refine r_iconst (pc := 74) (v := nI 1) C dX9_value_74 (by decide) ?_
          refine r_isub (pc := 75) C dX9_value_75 ?_
          refine r_eqi (y := nI K.length) (pk_sub (a := K.length + 1) (b := 1) (by omega)) ?_
          refine r_iald (pc := 76) (_) C dX9_value_76 aM51 (rfl) (by omega) ?_
          refine r_eqi (y := p) hp.2 ?_
          refine r_istore5 (pc := 77) C dX9_value_77 rfl ?_
          refine r_aload0 (pc := 79) C dX9_value_79 ?_
          refine gX9_119 (pc := 80) C dX9_value_80 ?_
          refine r_iload3 (pc := 83) C dX9_value_83 ?_
          refine r_iald (pc := 84) (_) C dX9_value_84 aM51 (rfl) (by omega) ?_
          refine r_eqi (y := q) hq.2 ?_
          refine r_istore6 (pc := 85) C dX9_value_85 rfl ?_
          refine r_aload0 (pc := 87) C dX9_value_87 ?_
          refine gX9_119 (pc := 88) C dX9_value_88 ?_
          refine r_iload3 (pc := 91) C dX9_value_91 ?_
          refine r_iconst (pc := 92) (v := nI 1) C dX9_value_92 (by decide) ?_
          refine r_isub (pc := 93) C dX9_value_93 ?_
          refine r_eqi (y := nI K.length) (pk_sub (a := K.length + 1) (b := 1) (by omega)) ?_
          refine r_aload0 (pc := 94) C dX9_value_94 ?_
          refine gX9_77 (pc := 95) C dX9_value_95 ?_
          refine r_iload4 (pc := 98) C dX9_value_98 ?_
          refine r_iald (pc := 100) (_) C dX9_value_100 aM32 (rfl) (by omega) ?_
          refine r_eqi (y := nI 4) (by rw [hfr.1 32 (by decide)]; exact h1) ?_
          refine r_iconst (pc := 101) (v := nI 2) C dX9_value_101 (by decide) ?_
          refine r_icmp_ne (pc := 102) 113 C dX9_value_102 (by decide) (fun c102 => ?_) (fun c102 => ?_)
          rotate_left
          · exact absurd c102 (by decide)
          refine r_aload0 (pc := 113) C dX9_value_113 ?_
          refine gX9_77 (pc := 114) C dX9_value_114 ?_
          refine r_iload4 (pc := 117) C dX9_value_117 ?_
          refine r_iald (pc := 119) (_) C dX9_value_119 aM32 (rfl) (by omega) ?_
          refine r_eqi (y := nI 4) (by rw [hfr.1 32 (by decide)]; exact h1) ?_
          refine r_iconst (pc := 120) (v := nI 3) C dX9_value_120 (by decide) ?_
          refine r_icmp_ne (pc := 121) 132 C dX9_value_121 (by decide) (fun c121 => ?_) (fun c121 => ?_)
          rotate_left
          · exact absurd c121 (by decide)
          refine r_iload5 (pc := 132) C dX9_value_132 ?_
          refine r_iload6 (pc := 134) C dX9_value_134 ?_
          refine r_imul (pc := 136) C dX9_value_136 ?_
          refine r_iast (pc := 137) (_) C dX9_value_137 aM51 (rfl) (by omega) ?_
          refine r_iinc4 (pc := 138) (nI 1) C dX9_value_138 (by decide) rfl ?_
          rw [nI_add c 1]
          refine r_goto (pc := 141) 5 C dX9_value_141 (by decide) ?_
          exact ih (e - (c + 1)) (by omega) (c + 1) _ _ _ (_ :: K) rfl (by omega) (by omega) (by simp at hl0 ⊢; omega) (hfr.sI rfl) (by rw [sI_s]; exact stkR_push hp.1 _) hE
  refine r_iconst (pc := 0) (v := nI 0) C dX9_value_0 (by decide) ?_
  refine r_istore3 (pc := 1) C dX9_value_1 rfl ?_
  refine r_iload1 (pc := 2) C dX9_value_2 ?_
  refine r_istore4 (pc := 3) C dX9_value_3 rfl ?_
  exact loop _ d none none G [] rfl (Nat.le_refl d) hle (by simp) Fr.refl (fun k hk => absurd hk (Nat.not_lt_zero k)) hev
set_option maxHeartbeats 4000000 in
set_option maxRecDepth 100000 in
theorem tX9_holds (Y : gY) (hY : Y.2.2.2 = wM) {G : gS} {q s f m : Nat} {R : List rl} (hq : q < 80) (hs : s < 4) (hf : G.1 23 q = nI f) (hl : G.1 24 q = nI m) (hm1 : f + R.length = m) (hm2 : m ≤ 200) (hR : rlsOk G (200 * s + f) R) : ∀ l : Launch, gM Y l yX9_holds cX9_holds 8 (some .boolean) (1, 26) [.ref (Y.2.1 (100)), .int (nI q), .int (nI s)] G (qi (fun r G' => r = bI (hm (G.1 50) R) ∧ Fr (fun q => q = 51) G G')) := by
  intro l
  refine gM_of hY rfl (Nat.le_of_ble_eq_true rfl) [some (.ref (Y.2.1 (100))), some (.int (nI q)), some (.int (nI s)), none, none, none, none, none] rfl rfl ?_
  rintro Z rfl C
  have hq80 : q < 80 := hq
  have loop : ∀ (k0 : Nat) (k : Nat) (y : Int32) (o5 o6 o7 : Option Value) (G1 : gS) (R1 : List rl) (a : Bool), k0 = m - k → k + R1.length = m → Fr (fun q => q = 51) G G1 → y = bI a → hm (G.1 50) R = hmR (G.1 50) R1 a → rlsOk G (200 * s + k) R1 → WW Z (qi (fun r G' => r = bI (hm (G.1 50) R) ∧ Fr (fun q => q = 51) G G')) 27 [some (.ref (ad Z (100))), some (.int (nI q)), some (.int (nI s)), some (.int (y)), some (.int (nI k)), o5, o6, o7] [] G1 := by
    intro k0
    induction k0 using Nat.strongRecOn with
    | _ k0 ih =>
      intro k y o5 o6 o7 G1 R1 a hk0 hlen hfr hy hih hR1
      refine r_iload4 (pc := 27) C dX9_holds_27 ?_
      refine r_aload0 (pc := 29) C dX9_holds_29 ?_
      refine gX9_55 (pc := 30) C dX9_holds_30 ?_
      refine r_iload1 (pc := 33) C dX9_holds_33 ?_
      refine r_iald (pc := 34) (_) C dX9_holds_34 aM24 (rfl) (hq80) ?_
      refine r_eqi (y := nI m) (by rw [hfr.1 24 (by decide)]; exact hl) ?_
      refine r_icmp_ge (pc := 35) 219 C dX9_holds_35 (by decide) (fun c35 => ?_) (fun c35 => ?_)
      · refine r_iload3 (pc := 219) C dX9_holds_219 ?_
        exact r_zreturn (pc := 220) C dX9_holds_220 (by rw [hy]; exact bI_nar _) (by
        refine ⟨?_, hfr⟩
        obtain rfl : R1 = [] := by
          have h1 := (nI_leI (by omega) (by omega)).mp c35
          cases R1 with
          | nil => rfl
          | cons r R2 => simp at hlen; omega
        rw [hy, hih]; rfl)
      · obtain ⟨⟨o, so, vx, vy⟩, R2, rfl⟩ : ∃ r R2, R1 = r :: R2 := by
          cases R1 with
          | nil => exact absurd (nI_le (show m ≤ k by simp at hlen; omega) (by omega)) c35
          | cons r R2 => exact ⟨r, R2, rfl⟩
        have hk2 : k < m := by simp at hlen; omega
        have hk800 : 200 * s + k < 800 := by omega
        obtain ⟨⟨r1, r2, r3, l, m1, e, e1, e2, e3, x1, x2⟩, hR2⟩ := hR1
        dsimp only at r1 r2 r3 x1 x2
        subst hy
        cases o <;> cases a
        · refine r_sipush (pc := 38) (v := nI 200) C dX9_holds_38 (by decide) ?_
          refine r_iload2 (pc := 41) C dX9_holds_41 ?_
          refine r_imul (pc := 42) C dX9_holds_42 ?_
          refine r_eqi (pk_mul 200 s) ?_
          refine r_iload4 (pc := 43) C dX9_holds_43 ?_
          refine r_iadd (pc := 45) C dX9_holds_45 ?_
          refine r_eqi (y := nI (200 * s + k)) (nI_add _ _) ?_
          refine r_istore5 (pc := 46) C dX9_holds_46 rfl ?_
          refine r_aload0 (pc := 48) C dX9_holds_48 ?_
          refine gX9_73 (pc := 49) C dX9_holds_49 ?_
          refine r_iload5 (pc := 52) C dX9_holds_52 ?_
          refine r_zald (pc := 54) (_) C dX9_holds_54 aM30 (rfl) (hk800) ?_
          refine r_eqi (y := bI false) (by rw [hfr.1 30 (by decide)]; exact r1) ?_
          refine r_if_eq (pc := 55) 64 C dX9_holds_55 (by decide) (fun c55 => ?_) (fun c55 => ?_)
          rotate_left
          · exact absurd c55 (by decide)
          refine r_aload0 (pc := 64) C dX9_holds_64 ?_
          refine gX9_73 (pc := 65) C dX9_holds_65 ?_
          refine r_iload5 (pc := 68) C dX9_holds_68 ?_
          refine r_zald (pc := 70) (_) C dX9_holds_70 aM30 (rfl) (hk800) ?_
          refine r_eqi (y := bI false) (by rw [hfr.1 30 (by decide)]; exact r1) ?_
          refine r_if_eq (pc := 71) 76 C dX9_holds_71 (by decide) (fun c71 => ?_) (fun c71 => ?_)
          rotate_left
          · exact absurd c71 (by decide)
          refine r_iload3 (pc := 76) C dX9_holds_76 ?_
          refine r_if_ne (pc := 77) 83 C dX9_holds_77 (by decide) (fun c77 => ?_) (fun c77 => ?_)
          · exact absurd c77 (by decide)
          refine r_goto (pc := 80) 213 C dX9_holds_80 (by decide) ?_
          refine r_iinc4 (pc := 213) (nI 1) C dX9_holds_213 (by decide) rfl ?_
          rw [nI_add k 1]
          refine r_goto (pc := 216) 27 C dX9_holds_216 (by decide) ?_
          exact ih (m - (k + 1)) (by omega) (k + 1) _ _ _ _ _ R2 false rfl (by simp at hlen; omega) hfr rfl (hih.trans (by rw [hmR, if_neg (by decide)]; rfl)) hR2
        · refine r_sipush (pc := 38) (v := nI 200) C dX9_holds_38 (by decide) ?_
          refine r_iload2 (pc := 41) C dX9_holds_41 ?_
          refine r_imul (pc := 42) C dX9_holds_42 ?_
          refine r_eqi (pk_mul 200 s) ?_
          refine r_iload4 (pc := 43) C dX9_holds_43 ?_
          refine r_iadd (pc := 45) C dX9_holds_45 ?_
          refine r_eqi (y := nI (200 * s + k)) (nI_add _ _) ?_
          refine r_istore5 (pc := 46) C dX9_holds_46 rfl ?_
          refine r_aload0 (pc := 48) C dX9_holds_48 ?_
          refine gX9_73 (pc := 49) C dX9_holds_49 ?_
          refine r_iload5 (pc := 52) C dX9_holds_52 ?_
          refine r_zald (pc := 54) (_) C dX9_holds_54 aM30 (rfl) (hk800) ?_
          refine r_eqi (y := bI false) (by rw [hfr.1 30 (by decide)]; exact r1) ?_
          refine r_if_eq (pc := 55) 64 C dX9_holds_55 (by decide) (fun c55 => ?_) (fun c55 => ?_)
          rotate_left
          · exact absurd c55 (by decide)
          refine r_aload0 (pc := 64) C dX9_holds_64 ?_
          refine gX9_73 (pc := 65) C dX9_holds_65 ?_
          refine r_iload5 (pc := 68) C dX9_holds_68 ?_
          refine r_zald (pc := 70) (_) C dX9_holds_70 aM30 (rfl) (hk800) ?_
          refine r_eqi (y := bI false) (by rw [hfr.1 30 (by decide)]; exact r1) ?_
          refine r_if_eq (pc := 71) 76 C dX9_holds_71 (by decide) (fun c71 => ?_) (fun c71 => ?_)
          rotate_left
          · exact absurd c71 (by decide)
          refine r_iload3 (pc := 76) C dX9_holds_76 ?_
          refine r_if_ne (pc := 77) 83 C dX9_holds_77 (by decide) (fun c77 => ?_) (fun c77 => ?_)
          rotate_left
          · exact absurd c77 (by decide)
          refine r_aload0 (pc := 83) C dX9_holds_83 ?_
          refine r_aload0 (pc := 84) C dX9_holds_84 ?_
          refine gX9_64 (pc := 85) C dX9_holds_85 ?_
          refine r_iload5 (pc := 88) C dX9_holds_88 ?_
          refine r_iald (pc := 90) (_) C dX9_holds_90 aM27 (rfl) (hk800) ?_
          refine r_eqi (y := nI l) (by rw [hfr.1 27 (by decide)]; exact e1) ?_
          refine r_aload0 (pc := 91) C dX9_holds_91 ?_
          refine gX9_67 (pc := 92) C dX9_holds_92 ?_
          refine r_iload5 (pc := 95) C dX9_holds_95 ?_
          refine r_iald (pc := 97) (_) C dX9_holds_97 aM28 (rfl) (hk800) ?_
          refine r_eqi (y := nI m1) (by rw [hfr.1 28 (by decide)]; exact e2) ?_
          refine r_callVi (pc := 98) C rfl dX9_holds_98 kX9_339 gF9 jM (tX9_value Z.1 C.w (x := vx (G.1 50)) x1.1 x1.2.1 (by rw [hfr.1 50 (by decide), hfr.1 32 (by decide), hfr.1 33 (by decide)]; exact x1.2.2 _)) rfl rfl (Nat.le_of_ble_eq_true rfl) (by decide) (fun x98 G98 h98 => ?_)
          have h98e := h98.1
          subst h98e
          refine r_istore6 (pc := 101) C dX9_holds_101 rfl ?_
          refine r_aload0 (pc := 103) C dX9_holds_103 ?_
          refine r_aload0 (pc := 104) C dX9_holds_104 ?_
          refine gX9_67 (pc := 105) C dX9_holds_105 ?_
          refine r_iload5 (pc := 108) C dX9_holds_108 ?_
          refine r_iald (pc := 110) (_) C dX9_holds_110 aM28 (rfl) (hk800) ?_
          refine r_eqi (y := nI m1) (by rw [h98.2.1 28 (by decide), hfr.1 28 (by decide)]; exact e2) ?_
          refine r_aload0 (pc := 111) C dX9_holds_111 ?_
          refine gX9_70 (pc := 112) C dX9_holds_112 ?_
          refine r_iload5 (pc := 115) C dX9_holds_115 ?_
          refine r_iald (pc := 117) (_) C dX9_holds_117 aM29 (rfl) (hk800) ?_
          refine r_eqi (y := nI e) (by rw [h98.2.1 29 (by decide), hfr.1 29 (by decide)]; exact e3) ?_
          refine r_callVi (pc := 118) C rfl dX9_holds_118 kX9_339 gF9 jM (tX9_value Z.1 C.w (x := vy (G.1 50)) x2.1 x2.2.1 (by rw [h98.2.1 50 (by decide), h98.2.1 32 (by decide), h98.2.1 33 (by decide), hfr.1 50 (by decide), hfr.1 32 (by decide), hfr.1 33 (by decide)]; exact x2.2.2 _)) rfl rfl (Nat.le_of_ble_eq_true rfl) (by decide) (fun x118 G118 h118 => ?_)
          have h118e := h118.1
          subst h118e
          refine r_istore7 (pc := 121) C dX9_holds_121 rfl ?_
          refine r_aload0 (pc := 123) C dX9_holds_123 ?_
          refine gX9_61 (pc := 124) C dX9_holds_124 ?_
          refine r_iload5 (pc := 127) C dX9_holds_127 ?_
          refine r_iald (pc := 129) (_) C dX9_holds_129 aM26 (rfl) (hk800) ?_
          refine r_eqi (y := nI so) (by rw [h118.2.1 26 (by decide), h98.2.1 26 (by decide), hfr.1 26 (by decide)]; exact r2) ?_
          refine r_if_ne (pc := 130) 148 C dX9_holds_130 (by decide) (fun c130 => ?_) (fun c130 => ?_)
          · refine r_aload0 (pc := 148) C dX9_holds_148 ?_
            refine gX9_61 (pc := 149) C dX9_holds_149 ?_
            refine r_iload5 (pc := 152) C dX9_holds_152 ?_
            refine r_iald (pc := 154) (_) C dX9_holds_154 aM26 (rfl) (hk800) ?_
            refine r_eqi (y := nI so) (by rw [h118.2.1 26 (by decide), h98.2.1 26 (by decide), hfr.1 26 (by decide)]; exact r2) ?_
            refine r_iconst (pc := 155) (v := nI 1) C dX9_holds_155 (by decide) ?_
            refine r_icmp_ne (pc := 156) 174 C dX9_holds_156 (by decide) (fun c156 => ?_) (fun c156 => ?_)
            · refine r_aload0 (pc := 174) C dX9_holds_174 ?_
              refine gX9_61 (pc := 175) C dX9_holds_175 ?_
              refine r_iload5 (pc := 178) C dX9_holds_178 ?_
              refine r_iald (pc := 180) (_) C dX9_holds_180 aM26 (rfl) (hk800) ?_
              refine r_eqi (y := nI so) (by rw [h118.2.1 26 (by decide), h98.2.1 26 (by decide), hfr.1 26 (by decide)]; exact r2) ?_
              refine r_iconst (pc := 181) (v := nI 2) C dX9_holds_181 (by decide) ?_
              refine r_icmp_ne (pc := 182) 200 C dX9_holds_182 (by decide) (fun c182 => ?_) (fun c182 => ?_)
              · refine r_iload6 (pc := 200) C dX9_holds_200 ?_
                refine r_iload7 (pc := 202) C dX9_holds_202 ?_
                refine r_icmp_gt (pc := 204) 211 C dX9_holds_204 (by decide) (fun c204 => ?_) (fun c204 => ?_)
                · refine r_iconst (pc := 211) (v := nI 0) C dX9_holds_211 (by decide) ?_
                  refine r_istore3 (pc := 212) C dX9_holds_212 rfl ?_
                  refine r_iinc4 (pc := 213) (nI 1) C dX9_holds_213 (by decide) rfl ?_
                  rw [nI_add k 1]
                  refine r_goto (pc := 216) 27 C dX9_holds_216 (by decide) ?_
                  obtain rfl : so = 3 := by
                    have z0 : so ≠ 0 := fun e => c130 (by rw [e]; rfl)
                    have z1 : so ≠ 1 := fun e => c156 (by rw [e])
                    have z2 : so ≠ 2 := fun e => c182 (by rw [e])
                    omega
                  exact ih (m - (k + 1)) (by omega) (k + 1) _ _ _ _ _ R2 false rfl (by simp at hlen; omega) (Fr.trans (Fr.trans hfr h98.2) h118.2) rfl (hih.trans (by rw [hmR, if_neg (by decide)]; rw [show relP 3 (vx (G.1 50)) (vy (G.1 50)) = false from decide_eq_false (Int32.not_le.mpr c204)]; rfl)) hR2
                · refine r_iconst (pc := 207) (v := nI 1) C dX9_holds_207 (by decide) ?_
                  refine r_goto (pc := 208) 212 C dX9_holds_208 (by decide) ?_
                  refine r_istore3 (pc := 212) C dX9_holds_212 rfl ?_
                  refine r_iinc4 (pc := 213) (nI 1) C dX9_holds_213 (by decide) rfl ?_
                  rw [nI_add k 1]
                  refine r_goto (pc := 216) 27 C dX9_holds_216 (by decide) ?_
                  obtain rfl : so = 3 := by
                    have z0 : so ≠ 0 := fun e => c130 (by rw [e]; rfl)
                    have z1 : so ≠ 1 := fun e => c156 (by rw [e])
                    have z2 : so ≠ 2 := fun e => c182 (by rw [e])
                    omega
                  exact ih (m - (k + 1)) (by omega) (k + 1) _ _ _ _ _ R2 true rfl (by simp at hlen; omega) (Fr.trans (Fr.trans hfr h98.2) h118.2) rfl (hih.trans (by rw [hmR, if_neg (by decide)]; rw [show relP 3 (vx (G.1 50)) (vy (G.1 50)) = true from decide_eq_true (Int32.not_lt.mp c204)]; rfl)) hR2
              · refine r_iload6 (pc := 185) C dX9_holds_185 ?_
                refine r_iload7 (pc := 187) C dX9_holds_187 ?_
                refine r_icmp_ge (pc := 189) 196 C dX9_holds_189 (by decide) (fun c189 => ?_) (fun c189 => ?_)
                · refine r_iconst (pc := 196) (v := nI 0) C dX9_holds_196 (by decide) ?_
                  refine r_goto (pc := 197) 212 C dX9_holds_197 (by decide) ?_
                  refine r_istore3 (pc := 212) C dX9_holds_212 rfl ?_
                  refine r_iinc4 (pc := 213) (nI 1) C dX9_holds_213 (by decide) rfl ?_
                  rw [nI_add k 1]
                  refine r_goto (pc := 216) 27 C dX9_holds_216 (by decide) ?_
                  obtain rfl : so = 2 := (nI_eq (by omega) (by decide)).mp c182
                  exact ih (m - (k + 1)) (by omega) (k + 1) _ _ _ _ _ R2 false rfl (by simp at hlen; omega) (Fr.trans (Fr.trans hfr h98.2) h118.2) rfl (hih.trans (by rw [hmR, if_neg (by decide)]; rw [show relP 2 (vx (G.1 50)) (vy (G.1 50)) = false from decide_eq_false (Int32.not_lt.mpr c189)]; rfl)) hR2
                · refine r_iconst (pc := 192) (v := nI 1) C dX9_holds_192 (by decide) ?_
                  refine r_goto (pc := 193) 212 C dX9_holds_193 (by decide) ?_
                  refine r_istore3 (pc := 212) C dX9_holds_212 rfl ?_
                  refine r_iinc4 (pc := 213) (nI 1) C dX9_holds_213 (by decide) rfl ?_
                  rw [nI_add k 1]
                  refine r_goto (pc := 216) 27 C dX9_holds_216 (by decide) ?_
                  obtain rfl : so = 2 := (nI_eq (by omega) (by decide)).mp c182
                  exact ih (m - (k + 1)) (by omega) (k + 1) _ _ _ _ _ R2 true rfl (by simp at hlen; omega) (Fr.trans (Fr.trans hfr h98.2) h118.2) rfl (hih.trans (by rw [hmR, if_neg (by decide)]; rw [show relP 2 (vx (G.1 50)) (vy (G.1 50)) = true from decide_eq_true (Int32.not_le.mp c189)]; rfl)) hR2
            · refine r_iload6 (pc := 159) C dX9_holds_159 ?_
              refine r_iload7 (pc := 161) C dX9_holds_161 ?_
              refine r_icmp_eq (pc := 163) 170 C dX9_holds_163 (by decide) (fun c163 => ?_) (fun c163 => ?_)
              · refine r_iconst (pc := 170) (v := nI 0) C dX9_holds_170 (by decide) ?_
                refine r_goto (pc := 171) 212 C dX9_holds_171 (by decide) ?_
                refine r_istore3 (pc := 212) C dX9_holds_212 rfl ?_
                refine r_iinc4 (pc := 213) (nI 1) C dX9_holds_213 (by decide) rfl ?_
                rw [nI_add k 1]
                refine r_goto (pc := 216) 27 C dX9_holds_216 (by decide) ?_
                obtain rfl : so = 1 := (nI_eq (by omega) (by decide)).mp c156
                exact ih (m - (k + 1)) (by omega) (k + 1) _ _ _ _ _ R2 false rfl (by simp at hlen; omega) (Fr.trans (Fr.trans hfr h98.2) h118.2) rfl (hih.trans (by rw [hmR, if_neg (by decide)]; rw [show relP 1 (vx (G.1 50)) (vy (G.1 50)) = false from decide_eq_false (fun h => h c163)]; rfl)) hR2
              · refine r_iconst (pc := 166) (v := nI 1) C dX9_holds_166 (by decide) ?_
                refine r_goto (pc := 167) 212 C dX9_holds_167 (by decide) ?_
                refine r_istore3 (pc := 212) C dX9_holds_212 rfl ?_
                refine r_iinc4 (pc := 213) (nI 1) C dX9_holds_213 (by decide) rfl ?_
                rw [nI_add k 1]
                refine r_goto (pc := 216) 27 C dX9_holds_216 (by decide) ?_
                obtain rfl : so = 1 := (nI_eq (by omega) (by decide)).mp c156
                exact ih (m - (k + 1)) (by omega) (k + 1) _ _ _ _ _ R2 true rfl (by simp at hlen; omega) (Fr.trans (Fr.trans hfr h98.2) h118.2) rfl (hih.trans (by rw [hmR, if_neg (by decide)]; rw [show relP 1 (vx (G.1 50)) (vy (G.1 50)) = true from decide_eq_true (c163)]; rfl)) hR2
          · refine r_iload6 (pc := 133) C dX9_holds_133 ?_
            refine r_iload7 (pc := 135) C dX9_holds_135 ?_
            refine r_icmp_ne (pc := 137) 144 C dX9_holds_137 (by decide) (fun c137 => ?_) (fun c137 => ?_)
            · refine r_iconst (pc := 144) (v := nI 0) C dX9_holds_144 (by decide) ?_
              refine r_goto (pc := 145) 212 C dX9_holds_145 (by decide) ?_
              refine r_istore3 (pc := 212) C dX9_holds_212 rfl ?_
              refine r_iinc4 (pc := 213) (nI 1) C dX9_holds_213 (by decide) rfl ?_
              rw [nI_add k 1]
              refine r_goto (pc := 216) 27 C dX9_holds_216 (by decide) ?_
              obtain rfl : so = 0 := (nI_eq (by omega) (by decide)).mp c130
              exact ih (m - (k + 1)) (by omega) (k + 1) _ _ _ _ _ R2 false rfl (by simp at hlen; omega) (Fr.trans (Fr.trans hfr h98.2) h118.2) rfl (hih.trans (by rw [hmR, if_neg (by decide)]; rw [show relP 0 (vx (G.1 50)) (vy (G.1 50)) = false from decide_eq_false (c137)]; rfl)) hR2
            · refine r_iconst (pc := 140) (v := nI 1) C dX9_holds_140 (by decide) ?_
              refine r_goto (pc := 141) 212 C dX9_holds_141 (by decide) ?_
              refine r_istore3 (pc := 212) C dX9_holds_212 rfl ?_
              refine r_iinc4 (pc := 213) (nI 1) C dX9_holds_213 (by decide) rfl ?_
              rw [nI_add k 1]
              refine r_goto (pc := 216) 27 C dX9_holds_216 (by decide) ?_
              obtain rfl : so = 0 := (nI_eq (by omega) (by decide)).mp c130
              exact ih (m - (k + 1)) (by omega) (k + 1) _ _ _ _ _ R2 true rfl (by simp at hlen; omega) (Fr.trans (Fr.trans hfr h98.2) h118.2) rfl (hih.trans (by rw [hmR, if_neg (by decide)]; rw [show relP 0 (vx (G.1 50)) (vy (G.1 50)) = true from decide_eq_true (c137)]; rfl)) hR2
        · refine r_sipush (pc := 38) (v := nI 200) C dX9_holds_38 (by decide) ?_
          refine r_iload2 (pc := 41) C dX9_holds_41 ?_
          refine r_imul (pc := 42) C dX9_holds_42 ?_
          refine r_eqi (pk_mul 200 s) ?_
          refine r_iload4 (pc := 43) C dX9_holds_43 ?_
          refine r_iadd (pc := 45) C dX9_holds_45 ?_
          refine r_eqi (y := nI (200 * s + k)) (nI_add _ _) ?_
          refine r_istore5 (pc := 46) C dX9_holds_46 rfl ?_
          refine r_aload0 (pc := 48) C dX9_holds_48 ?_
          refine gX9_73 (pc := 49) C dX9_holds_49 ?_
          refine r_iload5 (pc := 52) C dX9_holds_52 ?_
          refine r_zald (pc := 54) (_) C dX9_holds_54 aM30 (rfl) (hk800) ?_
          refine r_eqi (y := bI true) (by rw [hfr.1 30 (by decide)]; exact r1) ?_
          refine r_if_eq (pc := 55) 64 C dX9_holds_55 (by decide) (fun c55 => ?_) (fun c55 => ?_)
          · exact absurd c55 (by decide)
          refine r_iload3 (pc := 58) C dX9_holds_58 ?_
          refine r_if_eq (pc := 59) 64 C dX9_holds_59 (by decide) (fun c59 => ?_) (fun c59 => ?_)
          rotate_left
          · exact absurd c59 (by decide)
          refine r_aload0 (pc := 64) C dX9_holds_64 ?_
          refine gX9_73 (pc := 65) C dX9_holds_65 ?_
          refine r_iload5 (pc := 68) C dX9_holds_68 ?_
          refine r_zald (pc := 70) (_) C dX9_holds_70 aM30 (rfl) (hk800) ?_
          refine r_eqi (y := bI true) (by rw [hfr.1 30 (by decide)]; exact r1) ?_
          refine r_if_eq (pc := 71) 76 C dX9_holds_71 (by decide) (fun c71 => ?_) (fun c71 => ?_)
          · exact absurd c71 (by decide)
          refine r_iconst (pc := 74) (v := nI 1) C dX9_holds_74 (by decide) ?_
          refine r_istore3 (pc := 75) C dX9_holds_75 rfl ?_
          refine r_iload3 (pc := 76) C dX9_holds_76 ?_
          refine r_if_ne (pc := 77) 83 C dX9_holds_77 (by decide) (fun c77 => ?_) (fun c77 => ?_)
          rotate_left
          · exact absurd c77 (by decide)
          refine r_aload0 (pc := 83) C dX9_holds_83 ?_
          refine r_aload0 (pc := 84) C dX9_holds_84 ?_
          refine gX9_64 (pc := 85) C dX9_holds_85 ?_
          refine r_iload5 (pc := 88) C dX9_holds_88 ?_
          refine r_iald (pc := 90) (_) C dX9_holds_90 aM27 (rfl) (hk800) ?_
          refine r_eqi (y := nI l) (by rw [hfr.1 27 (by decide)]; exact e1) ?_
          refine r_aload0 (pc := 91) C dX9_holds_91 ?_
          refine gX9_67 (pc := 92) C dX9_holds_92 ?_
          refine r_iload5 (pc := 95) C dX9_holds_95 ?_
          refine r_iald (pc := 97) (_) C dX9_holds_97 aM28 (rfl) (hk800) ?_
          refine r_eqi (y := nI m1) (by rw [hfr.1 28 (by decide)]; exact e2) ?_
          refine r_callVi (pc := 98) C rfl dX9_holds_98 kX9_339 gF9 jM (tX9_value Z.1 C.w (x := vx (G.1 50)) x1.1 x1.2.1 (by rw [hfr.1 50 (by decide), hfr.1 32 (by decide), hfr.1 33 (by decide)]; exact x1.2.2 _)) rfl rfl (Nat.le_of_ble_eq_true rfl) (by decide) (fun x98 G98 h98 => ?_)
          have h98e := h98.1
          subst h98e
          refine r_istore6 (pc := 101) C dX9_holds_101 rfl ?_
          refine r_aload0 (pc := 103) C dX9_holds_103 ?_
          refine r_aload0 (pc := 104) C dX9_holds_104 ?_
          refine gX9_67 (pc := 105) C dX9_holds_105 ?_
          refine r_iload5 (pc := 108) C dX9_holds_108 ?_
          refine r_iald (pc := 110) (_) C dX9_holds_110 aM28 (rfl) (hk800) ?_
          refine r_eqi (y := nI m1) (by rw [h98.2.1 28 (by decide), hfr.1 28 (by decide)]; exact e2) ?_
          refine r_aload0 (pc := 111) C dX9_holds_111 ?_
          refine gX9_70 (pc := 112) C dX9_holds_112 ?_
          refine r_iload5 (pc := 115) C dX9_holds_115 ?_
          refine r_iald (pc := 117) (_) C dX9_holds_117 aM29 (rfl) (hk800) ?_
          refine r_eqi (y := nI e) (by rw [h98.2.1 29 (by decide), hfr.1 29 (by decide)]; exact e3) ?_
          refine r_callVi (pc := 118) C rfl dX9_holds_118 kX9_339 gF9 jM (tX9_value Z.1 C.w (x := vy (G.1 50)) x2.1 x2.2.1 (by rw [h98.2.1 50 (by decide), h98.2.1 32 (by decide), h98.2.1 33 (by decide), hfr.1 50 (by decide), hfr.1 32 (by decide), hfr.1 33 (by decide)]; exact x2.2.2 _)) rfl rfl (Nat.le_of_ble_eq_true rfl) (by decide) (fun x118 G118 h118 => ?_)
          have h118e := h118.1
          subst h118e
          refine r_istore7 (pc := 121) C dX9_holds_121 rfl ?_
          refine r_aload0 (pc := 123) C dX9_holds_123 ?_
          refine gX9_61 (pc := 124) C dX9_holds_124 ?_
          refine r_iload5 (pc := 127) C dX9_holds_127 ?_
          refine r_iald (pc := 129) (_) C dX9_holds_129 aM26 (rfl) (hk800) ?_
          refine r_eqi (y := nI so) (by rw [h118.2.1 26 (by decide), h98.2.1 26 (by decide), hfr.1 26 (by decide)]; exact r2) ?_
          refine r_if_ne (pc := 130) 148 C dX9_holds_130 (by decide) (fun c130 => ?_) (fun c130 => ?_)
          · refine r_aload0 (pc := 148) C dX9_holds_148 ?_
            refine gX9_61 (pc := 149) C dX9_holds_149 ?_
            refine r_iload5 (pc := 152) C dX9_holds_152 ?_
            refine r_iald (pc := 154) (_) C dX9_holds_154 aM26 (rfl) (hk800) ?_
            refine r_eqi (y := nI so) (by rw [h118.2.1 26 (by decide), h98.2.1 26 (by decide), hfr.1 26 (by decide)]; exact r2) ?_
            refine r_iconst (pc := 155) (v := nI 1) C dX9_holds_155 (by decide) ?_
            refine r_icmp_ne (pc := 156) 174 C dX9_holds_156 (by decide) (fun c156 => ?_) (fun c156 => ?_)
            · refine r_aload0 (pc := 174) C dX9_holds_174 ?_
              refine gX9_61 (pc := 175) C dX9_holds_175 ?_
              refine r_iload5 (pc := 178) C dX9_holds_178 ?_
              refine r_iald (pc := 180) (_) C dX9_holds_180 aM26 (rfl) (hk800) ?_
              refine r_eqi (y := nI so) (by rw [h118.2.1 26 (by decide), h98.2.1 26 (by decide), hfr.1 26 (by decide)]; exact r2) ?_
              refine r_iconst (pc := 181) (v := nI 2) C dX9_holds_181 (by decide) ?_
              refine r_icmp_ne (pc := 182) 200 C dX9_holds_182 (by decide) (fun c182 => ?_) (fun c182 => ?_)
              · refine r_iload6 (pc := 200) C dX9_holds_200 ?_
                refine r_iload7 (pc := 202) C dX9_holds_202 ?_
                refine r_icmp_gt (pc := 204) 211 C dX9_holds_204 (by decide) (fun c204 => ?_) (fun c204 => ?_)
                · refine r_iconst (pc := 211) (v := nI 0) C dX9_holds_211 (by decide) ?_
                  refine r_istore3 (pc := 212) C dX9_holds_212 rfl ?_
                  refine r_iinc4 (pc := 213) (nI 1) C dX9_holds_213 (by decide) rfl ?_
                  rw [nI_add k 1]
                  refine r_goto (pc := 216) 27 C dX9_holds_216 (by decide) ?_
                  obtain rfl : so = 3 := by
                    have z0 : so ≠ 0 := fun e => c130 (by rw [e]; rfl)
                    have z1 : so ≠ 1 := fun e => c156 (by rw [e])
                    have z2 : so ≠ 2 := fun e => c182 (by rw [e])
                    omega
                  exact ih (m - (k + 1)) (by omega) (k + 1) _ _ _ _ _ R2 false rfl (by simp at hlen; omega) (Fr.trans (Fr.trans hfr h98.2) h118.2) rfl (hih.trans (by rw [hmR, if_neg (by decide)]; rw [show relP 3 (vx (G.1 50)) (vy (G.1 50)) = false from decide_eq_false (Int32.not_le.mpr c204)]; rfl)) hR2
                · refine r_iconst (pc := 207) (v := nI 1) C dX9_holds_207 (by decide) ?_
                  refine r_goto (pc := 208) 212 C dX9_holds_208 (by decide) ?_
                  refine r_istore3 (pc := 212) C dX9_holds_212 rfl ?_
                  refine r_iinc4 (pc := 213) (nI 1) C dX9_holds_213 (by decide) rfl ?_
                  rw [nI_add k 1]
                  refine r_goto (pc := 216) 27 C dX9_holds_216 (by decide) ?_
                  obtain rfl : so = 3 := by
                    have z0 : so ≠ 0 := fun e => c130 (by rw [e]; rfl)
                    have z1 : so ≠ 1 := fun e => c156 (by rw [e])
                    have z2 : so ≠ 2 := fun e => c182 (by rw [e])
                    omega
                  exact ih (m - (k + 1)) (by omega) (k + 1) _ _ _ _ _ R2 true rfl (by simp at hlen; omega) (Fr.trans (Fr.trans hfr h98.2) h118.2) rfl (hih.trans (by rw [hmR, if_neg (by decide)]; rw [show relP 3 (vx (G.1 50)) (vy (G.1 50)) = true from decide_eq_true (Int32.not_lt.mp c204)]; rfl)) hR2
              · refine r_iload6 (pc := 185) C dX9_holds_185 ?_
                refine r_iload7 (pc := 187) C dX9_holds_187 ?_
                refine r_icmp_ge (pc := 189) 196 C dX9_holds_189 (by decide) (fun c189 => ?_) (fun c189 => ?_)
                · refine r_iconst (pc := 196) (v := nI 0) C dX9_holds_196 (by decide) ?_
                  refine r_goto (pc := 197) 212 C dX9_holds_197 (by decide) ?_
                  refine r_istore3 (pc := 212) C dX9_holds_212 rfl ?_
                  refine r_iinc4 (pc := 213) (nI 1) C dX9_holds_213 (by decide) rfl ?_
                  rw [nI_add k 1]
                  refine r_goto (pc := 216) 27 C dX9_holds_216 (by decide) ?_
                  obtain rfl : so = 2 := (nI_eq (by omega) (by decide)).mp c182
                  exact ih (m - (k + 1)) (by omega) (k + 1) _ _ _ _ _ R2 false rfl (by simp at hlen; omega) (Fr.trans (Fr.trans hfr h98.2) h118.2) rfl (hih.trans (by rw [hmR, if_neg (by decide)]; rw [show relP 2 (vx (G.1 50)) (vy (G.1 50)) = false from decide_eq_false (Int32.not_lt.mpr c189)]; rfl)) hR2
                · refine r_iconst (pc := 192) (v := nI 1) C dX9_holds_192 (by decide) ?_
                  refine r_goto (pc := 193) 212 C dX9_holds_193 (by decide) ?_
                  refine r_istore3 (pc := 212) C dX9_holds_212 rfl ?_
                  refine r_iinc4 (pc := 213) (nI 1) C dX9_holds_213 (by decide) rfl ?_
                  rw [nI_add k 1]
                  refine r_goto (pc := 216) 27 C dX9_holds_216 (by decide) ?_
                  obtain rfl : so = 2 := (nI_eq (by omega) (by decide)).mp c182
                  exact ih (m - (k + 1)) (by omega) (k + 1) _ _ _ _ _ R2 true rfl (by simp at hlen; omega) (Fr.trans (Fr.trans hfr h98.2) h118.2) rfl (hih.trans (by rw [hmR, if_neg (by decide)]; rw [show relP 2 (vx (G.1 50)) (vy (G.1 50)) = true from decide_eq_true (Int32.not_le.mp c189)]; rfl)) hR2
            · refine r_iload6 (pc := 159) C dX9_holds_159 ?_
              refine r_iload7 (pc := 161) C dX9_holds_161 ?_
              refine r_icmp_eq (pc := 163) 170 C dX9_holds_163 (by decide) (fun c163 => ?_) (fun c163 => ?_)
              · refine r_iconst (pc := 170) (v := nI 0) C dX9_holds_170 (by decide) ?_
                refine r_goto (pc := 171) 212 C dX9_holds_171 (by decide) ?_
                refine r_istore3 (pc := 212) C dX9_holds_212 rfl ?_
                refine r_iinc4 (pc := 213) (nI 1) C dX9_holds_213 (by decide) rfl ?_
                rw [nI_add k 1]
                refine r_goto (pc := 216) 27 C dX9_holds_216 (by decide) ?_
                obtain rfl : so = 1 := (nI_eq (by omega) (by decide)).mp c156
                exact ih (m - (k + 1)) (by omega) (k + 1) _ _ _ _ _ R2 false rfl (by simp at hlen; omega) (Fr.trans (Fr.trans hfr h98.2) h118.2) rfl (hih.trans (by rw [hmR, if_neg (by decide)]; rw [show relP 1 (vx (G.1 50)) (vy (G.1 50)) = false from decide_eq_false (fun h => h c163)]; rfl)) hR2
              · refine r_iconst (pc := 166) (v := nI 1) C dX9_holds_166 (by decide) ?_
                refine r_goto (pc := 167) 212 C dX9_holds_167 (by decide) ?_
                refine r_istore3 (pc := 212) C dX9_holds_212 rfl ?_
                refine r_iinc4 (pc := 213) (nI 1) C dX9_holds_213 (by decide) rfl ?_
                rw [nI_add k 1]
                refine r_goto (pc := 216) 27 C dX9_holds_216 (by decide) ?_
                obtain rfl : so = 1 := (nI_eq (by omega) (by decide)).mp c156
                exact ih (m - (k + 1)) (by omega) (k + 1) _ _ _ _ _ R2 true rfl (by simp at hlen; omega) (Fr.trans (Fr.trans hfr h98.2) h118.2) rfl (hih.trans (by rw [hmR, if_neg (by decide)]; rw [show relP 1 (vx (G.1 50)) (vy (G.1 50)) = true from decide_eq_true (c163)]; rfl)) hR2
          · refine r_iload6 (pc := 133) C dX9_holds_133 ?_
            refine r_iload7 (pc := 135) C dX9_holds_135 ?_
            refine r_icmp_ne (pc := 137) 144 C dX9_holds_137 (by decide) (fun c137 => ?_) (fun c137 => ?_)
            · refine r_iconst (pc := 144) (v := nI 0) C dX9_holds_144 (by decide) ?_
              refine r_goto (pc := 145) 212 C dX9_holds_145 (by decide) ?_
              refine r_istore3 (pc := 212) C dX9_holds_212 rfl ?_
              refine r_iinc4 (pc := 213) (nI 1) C dX9_holds_213 (by decide) rfl ?_
              rw [nI_add k 1]
              refine r_goto (pc := 216) 27 C dX9_holds_216 (by decide) ?_
              obtain rfl : so = 0 := (nI_eq (by omega) (by decide)).mp c130
              exact ih (m - (k + 1)) (by omega) (k + 1) _ _ _ _ _ R2 false rfl (by simp at hlen; omega) (Fr.trans (Fr.trans hfr h98.2) h118.2) rfl (hih.trans (by rw [hmR, if_neg (by decide)]; rw [show relP 0 (vx (G.1 50)) (vy (G.1 50)) = false from decide_eq_false (c137)]; rfl)) hR2
            · refine r_iconst (pc := 140) (v := nI 1) C dX9_holds_140 (by decide) ?_
              refine r_goto (pc := 141) 212 C dX9_holds_141 (by decide) ?_
              refine r_istore3 (pc := 212) C dX9_holds_212 rfl ?_
              refine r_iinc4 (pc := 213) (nI 1) C dX9_holds_213 (by decide) rfl ?_
              rw [nI_add k 1]
              refine r_goto (pc := 216) 27 C dX9_holds_216 (by decide) ?_
              obtain rfl : so = 0 := (nI_eq (by omega) (by decide)).mp c130
              exact ih (m - (k + 1)) (by omega) (k + 1) _ _ _ _ _ R2 true rfl (by simp at hlen; omega) (Fr.trans (Fr.trans hfr h98.2) h118.2) rfl (hih.trans (by rw [hmR, if_neg (by decide)]; rw [show relP 0 (vx (G.1 50)) (vy (G.1 50)) = true from decide_eq_true (c137)]; rfl)) hR2
        · refine r_sipush (pc := 38) (v := nI 200) C dX9_holds_38 (by decide) ?_
          refine r_iload2 (pc := 41) C dX9_holds_41 ?_
          refine r_imul (pc := 42) C dX9_holds_42 ?_
          refine r_eqi (pk_mul 200 s) ?_
          refine r_iload4 (pc := 43) C dX9_holds_43 ?_
          refine r_iadd (pc := 45) C dX9_holds_45 ?_
          refine r_eqi (y := nI (200 * s + k)) (nI_add _ _) ?_
          refine r_istore5 (pc := 46) C dX9_holds_46 rfl ?_
          refine r_aload0 (pc := 48) C dX9_holds_48 ?_
          refine gX9_73 (pc := 49) C dX9_holds_49 ?_
          refine r_iload5 (pc := 52) C dX9_holds_52 ?_
          refine r_zald (pc := 54) (_) C dX9_holds_54 aM30 (rfl) (hk800) ?_
          refine r_eqi (y := bI true) (by rw [hfr.1 30 (by decide)]; exact r1) ?_
          refine r_if_eq (pc := 55) 64 C dX9_holds_55 (by decide) (fun c55 => ?_) (fun c55 => ?_)
          · exact absurd c55 (by decide)
          refine r_iload3 (pc := 58) C dX9_holds_58 ?_
          refine r_if_eq (pc := 59) 64 C dX9_holds_59 (by decide) (fun c59 => ?_) (fun c59 => ?_)
          · exact absurd c59 (by decide)
          refine r_iconst (pc := 62) (v := nI 1) C dX9_holds_62 (by decide) ?_
          exact r_zreturn (pc := 63) C dX9_holds_63 (rfl) (⟨by rw [hih, hmR, if_pos (show (true && true) = true from rfl)]; rfl, hfr⟩)
  refine r_aload0 (pc := 0) C dX9_holds_0 ?_
  refine gX9_52 (pc := 1) C dX9_holds_1 ?_
  refine r_iload1 (pc := 4) C dX9_holds_4 ?_
  refine r_iald (pc := 5) (_) C dX9_holds_5 aM23 (rfl) (hq80) ?_
  refine r_eqi hf ?_
  refine r_aload0 (pc := 6) C dX9_holds_6 ?_
  refine gX9_55 (pc := 7) C dX9_holds_7 ?_
  refine r_iload1 (pc := 10) C dX9_holds_10 ?_
  refine r_iald (pc := 11) (_) C dX9_holds_11 aM24 (rfl) (hq80) ?_
  refine r_eqi hl ?_
  refine r_icmp_ne (pc := 12) 17 C dX9_holds_12 (by decide) (fun c12 => ?_) (fun c12 => ?_)
  · refine r_iconst (pc := 17) (v := nI 0) C dX9_holds_17 (by decide) ?_
    refine r_istore3 (pc := 18) C dX9_holds_18 rfl ?_
    refine r_aload0 (pc := 19) C dX9_holds_19 ?_
    refine gX9_52 (pc := 20) C dX9_holds_20 ?_
    refine r_iload1 (pc := 23) C dX9_holds_23 ?_
    refine r_iald (pc := 24) (_) C dX9_holds_24 aM23 (rfl) (hq80) ?_
    refine r_eqi hf ?_
    refine r_istore4 (pc := 25) C dX9_holds_25 rfl ?_
    have hR0 : R ≠ [] := fun e => c12 (by rw [← hm1, e]; rfl)
    exact loop _ f (nI 0) none none none G R false rfl hm1 Fr.refl rfl (by rw [hm, decide_eq_false hR0, Bool.false_or]) hR
  · refine r_iconst (pc := 15) (v := nI 1) C dX9_holds_15 (by decide) ?_
    exact r_zreturn (pc := 16) C dX9_holds_16 (rfl) (by
  have h1 : f = m := (nI_eq (by omega) (by omega)).mp c12
  obtain rfl : R = [] := by
    cases R with
    | nil => rfl
    | cons r R2 => simp at hm1; omega
  exact ⟨rfl, Fr.refl⟩)
set_option maxHeartbeats 4000000 in
set_option maxRecDepth 100000 in
theorem tX9_answers (Y : gY) (hY : Y.2.2.2 = wM) {G : gS} {k lv s n : Nat} {fc : Int32} {aft : Nat → Bool} {num : Nat → Int32} {rels : Nat → List rl} (hk : k < 2) (hlv : G.1 18 k = nI lv) (hl2 : lv < 2) (hs : s = 2 * k + lv) (p0 : G.1 100 41 = fc) (hfcn : ¬ G.1 100 41 ≤ -1) (hpg : pgOk G s n aft num rels) : ∀ l : Launch, gM Y l yX9_answers cX9_answers 6 (some .int) (2, 53) [.ref (Y.2.1 (100)), .int (nI k)] G (qi (fun r G' => r = chR fc aft (fun r => hm (G.1 50) (rels r)) num n 0 (-1) ∧ Fr (fun q => q = 51 ∨ q = 100) G G' ∧ G'.1 100 = upd (G.1 100) 52 (ahR aft (fun r => hm (G.1 50) (rels r)) num n 0 (nI 0)))) := by
  intro l
  refine gM_of hY rfl (Nat.le_of_ble_eq_true rfl) [some (.ref (Y.2.1 (100))), some (.int (nI k)), none, none, none, none] rfl rfl ?_
  rintro Z rfl C
  obtain ⟨p1, p2, p3⟩ := hpg
  have hs4 : s < 4 := by omega
  have loop : ∀ (k0 : Nat) (r : Nat) (y : Int32) (cl : Bool) (acc : Int32) (G1 : gS), k0 = n - r → r ≤ n → Fr (fun q => q = 51 ∨ q = 100) G G1 → G1.1 100 = upd (G.1 100) 52 acc → ahR aft (fun r => hm (G.1 50) (rels r)) num n 0 (nI 0) = ahR aft (fun r => hm (G.1 50) (rels r)) num (n - r) r acc → (cl = true → ¬ y = -1) → chR fc aft (fun r => hm (G.1 50) (rels r)) num n 0 (-1) = (if cl = true then -2 else chR fc aft (fun r => hm (G.1 50) (rels r)) num (n - r) r y) → WW Z (qi (fun r G' => r = chR fc aft (fun r => hm (G.1 50) (rels r)) num n 0 (-1) ∧ Fr (fun q => q = 51 ∨ q = 100) G G' ∧ G'.1 100 = upd (G.1 100) 52 (ahR aft (fun r => hm (G.1 50) (rels r)) num n 0 (nI 0)))) 27 [some (.ref (ad Z (100))), some (.int (nI k)), some (.int (nI s)), some (.int (y)), some (.int (bI cl)), some (.int (nI (20 * s + r)))] [] G1 := by
    intro k0
    induction k0 using Nat.strongRecOn with
    | _ k0 ih =>
      intro r y cl acc G1 hk0 hrn0 hfr hg hah hcl hih
      refine r_iload5 (pc := 27) C dX9_answers_27 ?_
      refine r_bipush (pc := 29) (v := nI 20) C dX9_answers_29 (by decide) ?_
      refine r_iload2 (pc := 31) C dX9_answers_31 ?_
      refine r_imul (pc := 32) C dX9_answers_32 ?_
      refine r_eqi (pk_mul 20 s) ?_
      refine r_aload0 (pc := 33) C dX9_answers_33 ?_
      refine gX9_43 (pc := 34) C dX9_answers_34 ?_
      refine r_iload2 (pc := 37) C dX9_answers_37 ?_
      refine r_iald (pc := 38) (_) C dX9_answers_38 aM20 (rfl) (by omega) ?_
      refine r_eqi (y := nI n) (by rw [hfr.1 20 (by decide)]; exact p1) ?_
      refine r_iadd (pc := 39) C dX9_answers_39 ?_
      refine r_eqi (y := nI (20 * s + n)) (nI_add _ _) ?_
      refine r_icmp_ge (pc := 40) 121 C dX9_answers_40 (by decide) (fun c40 => ?_) (fun c40 => ?_)
      · obtain rfl : r = n := by have := (nI_leI (by omega) (by omega)).mp c40; omega
        rw [Nat.sub_self] at hih hah
        have hah2 : G1.1 100 = upd (G.1 100) 52 (ahR aft (fun r => hm (G.1 50) (rels r)) num r 0 (nI 0)) := by rw [hg, hah]; rfl
        refine r_iload3 (pc := 121) C dX9_answers_121 ?_
        refine r_iconst (pc := 122) (v := (-1)) C dX9_answers_122 (by decide) ?_
        refine r_icmp_ne (pc := 123) 128 C dX9_answers_123 (by decide) (fun c123 => ?_) (fun c123 => ?_)
        · refine r_iload4 (pc := 128) C dX9_answers_128 ?_
          refine r_if_ne (pc := 130) 141 C dX9_answers_130 (by decide) (fun c130 => ?_) (fun c130 => ?_)
          · refine r_bipush (pc := 141) (v := (-2)) C dX9_answers_141 (by decide) ?_
            refine r_goto (pc := 143) 147 C dX9_answers_143 (by decide) ?_
            exact r_ireturn (pc := 147) C dX9_answers_147 (by
        refine ⟨?_, hfr, hah2⟩
        have d130 : cl = true := bI_n.mp c130
        subst d130
        rw [hih]; rfl)
          · refine r_iload3 (pc := 133) C dX9_answers_133 ?_
            refine r_aload0 (pc := 134) C dX9_answers_134 ?_
            refine gX9_320 (pc := 135) C dX9_answers_135 ?_
            refine r_eqi (y := fc) (by rw [show G1.1 100 41 = G.1 100 41 by rw [hah2]; rfl]; exact p0) ?_
            refine r_icmp_lt (pc := 138) 146 C dX9_answers_138 (by decide) (fun c138 => ?_) (fun c138 => ?_)
            · refine r_iload3 (pc := 146) C dX9_answers_146 ?_
              exact r_ireturn (pc := 147) C dX9_answers_147 (by
        refine ⟨?_, hfr, hah2⟩
        have d130 : cl = false := bI_z.mp c130
        subst d130
        rw [hih, if_neg (by decide), chR, if_neg (Int32.not_le.mpr c138)])
            · refine r_bipush (pc := 141) (v := (-2)) C dX9_answers_141 (by decide) ?_
              refine r_goto (pc := 143) 147 C dX9_answers_143 (by decide) ?_
              exact r_ireturn (pc := 147) C dX9_answers_147 (by
        refine ⟨?_, hfr, hah2⟩
        have d130 : cl = false := bI_z.mp c130
        subst d130
        rw [hih, if_neg (by decide), chR, if_pos (Int32.not_lt.mp c138)])
        · refine r_iconst (pc := 126) (v := (-1)) C dX9_answers_126 (by decide) ?_
          exact r_ireturn (pc := 127) C dX9_answers_127 (by
        refine ⟨?_, hfr, hah2⟩
        cases cl with
        | true => exact absurd c123 (hcl rfl)
        | false => rw [hih, if_neg (by decide), chR, c123, if_neg (by rw [← p0]; exact hfcn)])
      · have hrn : r < n := by
          rcases Nat.lt_or_ge r n with h | h
          · exact h
          · exact absurd (nI_le (by omega) (by omega)) c40
        have hr80 : 20 * s + r < 80 := by omega
        obtain ⟨r1, r2, r3, f, r4, r5, r6, r7⟩ := p3 r hrn
        refine r_aload0 (pc := 43) C dX9_answers_43 ?_
        refine r_iload5 (pc := 44) C dX9_answers_44 ?_
        refine r_iload2 (pc := 46) C dX9_answers_46 ?_
        refine r_callVi (pc := 47) C rfl dX9_answers_47 kX9_346 gF9 jM (tX9_holds Z.1 C.w (f := f) (m := f + (rels r).length) (R := rels r) hr80 hs4 (by rw [hfr.1 23 (by decide)]; exact r4) (by rw [hfr.1 24 (by decide)]; exact r5) rfl r6 (rlsOk.fr hfr (fun q h1 h2 h3 => by omega) r7)) rfl rfl (Nat.le_of_ble_eq_true rfl) (by decide) (fun x47 G47 h47 => ?_)
        obtain ⟨h47a, h47b⟩ := h47
        have hfr2 : Fr (fun q => q = 51 ∨ q = 100) G G47 := Fr.trans hfr (h47b.mono (fun _ h => Or.inl h))
        have g100 : G47.1 100 = G1.1 100 := h47b.1 100 (by decide)
        have gfr := hfr2
        refine r_eqi (y := bI (hm (G.1 50) (rels r))) (by rw [h47a, hfr.1 50 (by decide)]) ?_
        refine r_if_ne (pc := 50) 56 C dX9_answers_50 (by decide) (fun c50 => ?_) (fun c50 => ?_)
        · have dh : hm (G.1 50) (rels r) = true := bI_n.mp c50
          refine r_aload0 (pc := 56) C dX9_answers_56 ?_
          refine gX9_46 (pc := 57) C dX9_answers_57 ?_
          refine r_iload5 (pc := 60) C dX9_answers_60 ?_
          refine r_iald (pc := 62) (_) C dX9_answers_62 aM21 (rfl) (hr80) ?_
          refine r_eqi (y := bI (aft r)) (by rw [gfr.1 21 (by decide)]; exact r1) ?_
          refine r_iconst (pc := 63) (v := nI 1) C dX9_answers_63 (by decide) ?_
          refine r_icmp_ne (pc := 64) 88 C dX9_answers_64 (by decide) (fun c64 => ?_) (fun c64 => ?_)
          · have da : aft r = false := by cases h : aft r with | false => rfl | true => (rw [h] at c64; exact absurd rfl c64)
            have ah2 := hah
            rw [show n - r = (n - (r + 1)) + 1 by omega, ahR, if_neg (by rw [da]; simp)] at ah2
            refine r_iload3 (pc := 88) C dX9_answers_88 ?_
            refine r_iconst (pc := 89) (v := (-1)) C dX9_answers_89 (by decide) ?_
            refine r_icmp_eq (pc := 90) 107 C dX9_answers_90 (by decide) (fun c90 => ?_) (fun c90 => ?_)
            · refine r_aload0 (pc := 107) C dX9_answers_107 ?_
              refine gX9_49 (pc := 108) C dX9_answers_108 ?_
              refine r_iload5 (pc := 111) C dX9_answers_111 ?_
              refine r_iald (pc := 113) (_) C dX9_answers_113 aM22 (rfl) (hr80) ?_
              refine r_eqi (y := num r) (by rw [gfr.1 22 (by decide)]; exact r2) ?_
              refine r_istore3 (pc := 114) C dX9_answers_114 rfl ?_
              refine r_iinc5 (pc := 115) (nI 1) C dX9_answers_115 (by decide) rfl ?_
              rw [nI_add, Nat.add_assoc]
              refine r_goto (pc := 118) 27 C dX9_answers_118 (by decide) ?_
              exact ih (n - (r + 1)) (by omega) (r + 1) _ cl _ _ rfl (by omega) hfr2 (g100.trans hg) ah2 (fun _ => r3) (by rw [hih]; cases cl with | true => exact absurd c90 (hcl rfl) | false => (show chR _ _ _ _ _ _ _ = chR _ _ _ _ _ _ _; rw [show n - r = (n - (r + 1)) + 1 by omega, chR, if_pos (by rw [da, dh]; rfl), if_neg (fun h => h.1 c90)]))
            · refine r_iload3 (pc := 93) C dX9_answers_93 ?_
              refine r_aload0 (pc := 94) C dX9_answers_94 ?_
              refine gX9_49 (pc := 95) C dX9_answers_95 ?_
              refine r_iload5 (pc := 98) C dX9_answers_98 ?_
              refine r_iald (pc := 100) (_) C dX9_answers_100 aM22 (rfl) (hr80) ?_
              refine r_eqi (y := num r) (by rw [gfr.1 22 (by decide)]; exact r2) ?_
              refine r_icmp_eq (pc := 101) 107 C dX9_answers_101 (by decide) (fun c101 => ?_) (fun c101 => ?_)
              · refine r_aload0 (pc := 107) C dX9_answers_107 ?_
                refine gX9_49 (pc := 108) C dX9_answers_108 ?_
                refine r_iload5 (pc := 111) C dX9_answers_111 ?_
                refine r_iald (pc := 113) (_) C dX9_answers_113 aM22 (rfl) (hr80) ?_
                refine r_eqi (y := num r) (by rw [gfr.1 22 (by decide)]; exact r2) ?_
                refine r_istore3 (pc := 114) C dX9_answers_114 rfl ?_
                refine r_iinc5 (pc := 115) (nI 1) C dX9_answers_115 (by decide) rfl ?_
                rw [nI_add, Nat.add_assoc]
                refine r_goto (pc := 118) 27 C dX9_answers_118 (by decide) ?_
                exact ih (n - (r + 1)) (by omega) (r + 1) _ cl _ _ rfl (by omega) hfr2 (g100.trans hg) ah2 (fun _ => r3) (by rw [hih]; cases cl with | true => rfl | false => (show chR _ _ _ _ _ _ _ = chR _ _ _ _ _ _ _; rw [show n - r = (n - (r + 1)) + 1 by omega, chR, if_pos (by rw [da, dh]; rfl), if_neg (fun h => h.2 c101)]))
              · refine r_iconst (pc := 104) (v := nI 1) C dX9_answers_104 (by decide) ?_
                refine r_istore4 (pc := 105) C dX9_answers_105 rfl ?_
                refine r_aload0 (pc := 107) C dX9_answers_107 ?_
                refine gX9_49 (pc := 108) C dX9_answers_108 ?_
                refine r_iload5 (pc := 111) C dX9_answers_111 ?_
                refine r_iald (pc := 113) (_) C dX9_answers_113 aM22 (rfl) (hr80) ?_
                refine r_eqi (y := num r) (by rw [gfr.1 22 (by decide)]; exact r2) ?_
                refine r_istore3 (pc := 114) C dX9_answers_114 rfl ?_
                refine r_iinc5 (pc := 115) (nI 1) C dX9_answers_115 (by decide) rfl ?_
                rw [nI_add, Nat.add_assoc]
                refine r_goto (pc := 118) 27 C dX9_answers_118 (by decide) ?_
                exact ih (n - (r + 1)) (by omega) (r + 1) _ true _ _ rfl (by omega) hfr2 (g100.trans hg) ah2 (fun _ => r3) (by rw [hih]; cases cl with | true => rfl | false => (show chR _ _ _ _ _ _ _ = -2; rw [show n - r = (n - (r + 1)) + 1 by omega, chR, if_pos (by rw [da, dh]; rfl), if_pos ⟨c90, c101⟩]))
          · have da : aft r = true := by cases h : aft r with | true => rfl | false => (rw [h] at c64; exact absurd c64 (by decide))
            have ah1 := hah
            rw [show n - r = (n - (r + 1)) + 1 by omega, ahR, if_pos (by rw [da, dh]; rfl)] at ah1
            refine r_aload0 (pc := 67) C dX9_answers_67 ?_
            refine r_dup (pc := 68) C dX9_answers_68 rfl ?_
            refine gX9_343 (pc := 69) C dX9_answers_69 ?_
            refine r_iconst (pc := 72) (v := nI 1) C dX9_answers_72 (by decide) ?_
            refine r_aload0 (pc := 73) C dX9_answers_73 ?_
            refine gX9_49 (pc := 74) C dX9_answers_74 ?_
            refine r_iload5 (pc := 77) C dX9_answers_77 ?_
            refine r_iald (pc := 79) (_) C dX9_answers_79 aM22 (rfl) (hr80) ?_
            refine r_eqi (y := num r) (by rw [gfr.1 22 (by decide)]; exact r2) ?_
            refine r_ishl (pc := 80) C dX9_answers_80 ?_
            refine r_ior (pc := 81) C dX9_answers_81 ?_
            refine pX9_343 (pc := 82) C dX9_answers_82 ?_
            refine r_goto (pc := 85) 115 C dX9_answers_85 (by decide) ?_
            refine r_iinc5 (pc := 115) (nI 1) C dX9_answers_115 (by decide) rfl ?_
            rw [nI_add, Nat.add_assoc]
            refine r_goto (pc := 118) 27 C dX9_answers_118 (by decide) ?_
            exact ih (n - (r + 1)) (by omega) (r + 1) _ _ _ _ rfl (by omega) (hfr2.sI (Or.inr rfl)) (by rw [sI_s, g100, hg, upd_s, upd_u]) ah1 hcl (by rw [hih]; cases cl with | true => rfl | false => (show chR _ _ _ _ _ _ _ = chR _ _ _ _ _ _ _; rw [show n - r = (n - (r + 1)) + 1 by omega, chR, if_neg (by rw [da]; simp)]))
        · have dh : hm (G.1 50) (rels r) = false := bI_z.mp c50
          have ah0 := hah
          rw [show n - r = (n - (r + 1)) + 1 by omega, ahR, if_neg (by rw [dh]; simp)] at ah0
          refine r_goto (pc := 53) 115 C dX9_answers_53 (by decide) ?_
          refine r_iinc5 (pc := 115) (nI 1) C dX9_answers_115 (by decide) rfl ?_
          rw [nI_add, Nat.add_assoc]
          refine r_goto (pc := 118) 27 C dX9_answers_118 (by decide) ?_
          exact ih (n - (r + 1)) (by omega) (r + 1) _ _ _ _ rfl (by omega) hfr2 (g100.trans hg) ah0 hcl (by rw [hih]; cases cl with | true => rfl | false => (show chR _ _ _ _ _ _ _ = chR _ _ _ _ _ _ _; rw [show n - r = (n - (r + 1)) + 1 by omega, chR, if_neg (by rw [dh]; simp)]))
  refine r_iconst (pc := 0) (v := nI 2) C dX9_answers_0 (by decide) ?_
  refine r_iload1 (pc := 1) C dX9_answers_1 ?_
  refine r_imul (pc := 2) C dX9_answers_2 ?_
  refine r_eqi (pk_mul 2 k) ?_
  refine r_aload0 (pc := 3) C dX9_answers_3 ?_
  refine gX9_40 (pc := 4) C dX9_answers_4 ?_
  refine r_iload1 (pc := 7) C dX9_answers_7 ?_
  refine r_iald (pc := 8) (_) C dX9_answers_8 aM18 (rfl) (by omega) ?_
  refine r_eqi hlv ?_
  refine r_iadd (pc := 9) C dX9_answers_9 ?_
  refine r_eqi (y := nI s) (by rw [nI_add, hs]) ?_
  refine r_istore2 (pc := 10) C dX9_answers_10 rfl ?_
  refine r_iconst (pc := 11) (v := (-1)) C dX9_answers_11 (by decide) ?_
  refine r_istore3 (pc := 12) C dX9_answers_12 rfl ?_
  refine r_iconst (pc := 13) (v := nI 0) C dX9_answers_13 (by decide) ?_
  refine r_istore4 (pc := 14) C dX9_answers_14 rfl ?_
  refine r_aload0 (pc := 16) C dX9_answers_16 ?_
  refine r_iconst (pc := 17) (v := nI 0) C dX9_answers_17 (by decide) ?_
  refine pX9_343 (pc := 18) C dX9_answers_18 ?_
  refine r_bipush (pc := 21) (v := nI 20) C dX9_answers_21 (by decide) ?_
  refine r_iload2 (pc := 23) C dX9_answers_23 ?_
  refine r_imul (pc := 24) C dX9_answers_24 ?_
  refine r_eqi (pk_mul 20 s) ?_
  refine r_istore5 (pc := 25) C dX9_answers_25 rfl ?_
  exact loop _ 0 (-1) false (nI 0) _ rfl (Nat.zero_le n) (Fr.refl.sI (Or.inr rfl)) (by rw [sI_s]) rfl (fun h => by cases h) rfl
