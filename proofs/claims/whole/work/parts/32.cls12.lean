theorem r_eqr {Z : gO} {post : Option Value → gS → Prop} {pc : Nat} {ls : List (Option Value)} {st : List Value} {G : gS} {x y : Nat} (h : x = y) (k : WW Z post pc ls (.ref (ad Z y) :: st) G) : WW Z post pc ls (.ref (ad Z x) :: st) G := h ▸ k
theorem bI_nb (b : Bool) : vp_nar .boolean (bI b) = bI b := by cases b <;> rfl
theorem bI_fit (b : Bool) : fits .boolean (.int (bI b)) = true := by cases b <;> rfl
set_option maxHeartbeats 4000000 in
set_option maxRecDepth 100000 in
theorem tX4_add (Y : gY) (hY : Y.2.2.2 = wC) {G : gS} {j s c : Nat} {a : Bool} (hj : j < 3) (hs : G.1 (40 + j) 0 = nI s) (hs20 : s < 20) (hc : G.1 (40 + j) 1 = nI c) : ∀ l : Launch, gM Y l yX4_add cX4_add 2 none (0, 0) [.ref (Y.2.1 (40 + j)), .int (bI a)] G (qv (fun G' => G' = sI (sI (sI (sI G (50 + j) s (bI a)) (70 + j) s (nI c)) (80 + j) s (nI c)) (40 + j) 0 (nI (s + 1)))) := by
  intro l
  refine gM_of hY rfl (Nat.le_of_ble_eq_true rfl) [some (.ref (Y.2.1 (40 + j))), some (.int (bI a))] rfl rfl ?_
  rintro Z rfl C
  refine r_aload0 (pc := 0) C dX4_add_0 ?_
  refine gX4_31 (pc := 1) C (by omega) dX4_add_1 ?_
  refine r_eqi hs ?_
  refine r_bipush (pc := 4) (v := nI 20) C dX4_add_4 (by decide) ?_
  refine r_icmp_ge (pc := 6) 55 C dX4_add_6 (by decide) (fun c6 => ?_) (fun c6 => ?_)
  · exact absurd c6 (nI_ge (by omega) (by decide))
  refine r_aload0 (pc := 9) C dX4_add_9 ?_
  refine gX4_9 (pc := 10) C (by omega) dX4_add_10 ?_
  refine r_aload0 (pc := 13) C dX4_add_13 ?_
  refine gX4_31 (pc := 14) C (by omega) dX4_add_14 ?_
  refine r_eqi hs ?_
  refine r_iload1 (pc := 17) C dX4_add_17 ?_
  refine r_zast (pc := 18) (_) C dX4_add_18 (aC50r (by omega)) (rfl) (by omega) (bI_nb a) ?_
  refine r_aload0 (pc := 19) C dX4_add_19 ?_
  refine gX4_19 (pc := 20) C (by omega) dX4_add_20 ?_
  refine r_aload0 (pc := 23) C dX4_add_23 ?_
  refine gX4_31 (pc := 24) C (by omega) dX4_add_24 ?_
  refine r_eqi (y := nI s) (by rw [sI_o (by omega)]; exact hs) ?_
  refine r_aload0 (pc := 27) C dX4_add_27 ?_
  refine gX4_35 (pc := 28) C (by omega) dX4_add_28 ?_
  refine r_eqi (y := nI c) (by rw [sI_o (by omega)]; exact hc) ?_
  refine r_iast (pc := 31) (_) C dX4_add_31 (aC70r (by omega)) (rfl) (by omega) ?_
  refine r_aload0 (pc := 32) C dX4_add_32 ?_
  refine gX4_22 (pc := 33) C (by omega) dX4_add_33 ?_
  refine r_aload0 (pc := 36) C dX4_add_36 ?_
  refine gX4_31 (pc := 37) C (by omega) dX4_add_37 ?_
  refine r_eqi (y := nI s) (by rw [sI_o (by omega), sI_o (by omega)]; exact hs) ?_
  refine r_aload0 (pc := 40) C dX4_add_40 ?_
  refine gX4_35 (pc := 41) C (by omega) dX4_add_41 ?_
  refine r_eqi (y := nI c) (by rw [sI_o (by omega), sI_o (by omega)]; exact hc) ?_
  refine r_iast (pc := 44) (_) C dX4_add_44 (aC80r (by omega)) (rfl) (by omega) ?_
  refine r_aload0 (pc := 45) C dX4_add_45 ?_
  refine r_dup (pc := 46) C dX4_add_46 rfl ?_
  refine gX4_31 (pc := 47) C (by omega) dX4_add_47 ?_
  refine r_eqi (y := nI s) (by rw [sI_o (by omega), sI_o (by omega), sI_o (by omega)]; exact hs) ?_
  refine r_iconst (pc := 50) (v := nI 1) C dX4_add_50 (by decide) ?_
  refine r_iadd (pc := 51) C dX4_add_51 ?_
  refine r_eqi (nI_add s 1) ?_
  refine pX4_31 (pc := 52) C (by omega) dX4_add_52 ?_
  exact r_return (pc := 55) C dX4_add_55 (rfl)
set_option maxHeartbeats 4000000 in
set_option maxRecDepth 100000 in
theorem tX4_setNumber (Y : gY) (hY : Y.2.2.2 = wC) {G : gS} {j s : Nat} {v : Int32} (hj : j < 3) (hs : G.1 (40 + j) 0 = nI s) (hs0 : 0 < s) (hs20 : s ≤ 20) : ∀ l : Launch, gM Y l yX4_setNumber cX4_setNumber 2 none (0, 0) [.ref (Y.2.1 (40 + j)), .int (v)] G (qv (fun G' => G' = sI G (60 + j) (s - 1) v)) := by
  intro l
  refine gM_of hY rfl (Nat.le_of_ble_eq_true rfl) [some (.ref (Y.2.1 (40 + j))), some (.int (v))] rfl rfl ?_
  rintro Z rfl C
  refine r_aload0 (pc := 0) C dX4_setNumber_0 ?_
  refine gX4_31 (pc := 1) C (by omega) dX4_setNumber_1 ?_
  refine r_eqi hs ?_
  refine r_if_le (pc := 4) 19 C dX4_setNumber_4 (by decide) (fun c4 => ?_) (fun c4 => ?_)
  · exact absurd c4 (nI_nle (by omega) (by omega))
  refine r_aload0 (pc := 7) C dX4_setNumber_7 ?_
  refine gX4_15 (pc := 8) C (by omega) dX4_setNumber_8 ?_
  refine r_aload0 (pc := 11) C dX4_setNumber_11 ?_
  refine gX4_31 (pc := 12) C (by omega) dX4_setNumber_12 ?_
  refine r_eqi hs ?_
  refine r_iconst (pc := 15) (v := nI 1) C dX4_setNumber_15 (by decide) ?_
  refine r_isub (pc := 16) C dX4_setNumber_16 ?_
  refine r_eqi (pk_sub (a := s) (b := 1) (by omega)) ?_
  refine r_iload1 (pc := 17) C dX4_setNumber_17 ?_
  refine r_iast (pc := 18) (_) C dX4_setNumber_18 (aC60r (by omega)) (rfl) (by omega) ?_
  exact r_return (pc := 19) C dX4_setNumber_19 (rfl)
set_option maxHeartbeats 4000000 in
set_option maxRecDepth 100000 in
theorem tX4_emit (Y : gY) (hY : Y.2.2.2 = wC) {G : gS} {j s c : Nat} {x : Int32} (hj : j < 3) (hs : G.1 (40 + j) 0 = nI s) (hs0 : 0 < s) (hs20 : s ≤ 20) (hc : G.1 (40 + j) 1 = nI c) (hc4 : c < 400) : ∀ l : Launch, gM Y l yX4_emit cX4_emit 2 none (0, 0) [.ref (Y.2.1 (40 + j)), .int (x)] G (qv (fun G' => G' = sI (sI (sI G (90 + j) c x) (40 + j) 1 (nI (c + 1))) (80 + j) (s - 1) (nI (c + 1)))) := by
  intro l
  refine gM_of hY rfl (Nat.le_of_ble_eq_true rfl) [some (.ref (Y.2.1 (40 + j))), some (.int (x))] rfl rfl ?_
  rintro Z rfl C
  refine r_aload0 (pc := 0) C dX4_emit_0 ?_
  refine gX4_31 (pc := 1) C (by omega) dX4_emit_1 ?_
  refine r_eqi hs ?_
  refine r_if_le (pc := 4) 52 C dX4_emit_4 (by decide) (fun c4 => ?_) (fun c4 => ?_)
  · exact absurd c4 (nI_nle (by omega) (by omega))
  refine r_aload0 (pc := 7) C dX4_emit_7 ?_
  refine gX4_35 (pc := 8) C (by omega) dX4_emit_8 ?_
  refine r_eqi hc ?_
  refine r_sipush (pc := 11) (v := nI 400) C dX4_emit_11 (by decide) ?_
  refine r_icmp_ge (pc := 14) 52 C dX4_emit_14 (by decide) (fun c14 => ?_) (fun c14 => ?_)
  · exact absurd c14 (nI_ge (by omega) (by decide))
  refine r_aload0 (pc := 17) C dX4_emit_17 ?_
  refine gX4_25 (pc := 18) C (by omega) dX4_emit_18 ?_
  refine r_aload0 (pc := 21) C dX4_emit_21 ?_
  refine gX4_35 (pc := 22) C (by omega) dX4_emit_22 ?_
  refine r_eqi hc ?_
  refine r_iload1 (pc := 25) C dX4_emit_25 ?_
  refine r_iast (pc := 26) (_) C dX4_emit_26 (aC90r (by omega)) (rfl) (by omega) ?_
  refine r_aload0 (pc := 27) C dX4_emit_27 ?_
  refine r_dup (pc := 28) C dX4_emit_28 rfl ?_
  refine gX4_35 (pc := 29) C (by omega) dX4_emit_29 ?_
  refine r_eqi (y := nI c) (by rw [sI_o (by omega)]; exact hc) ?_
  refine r_iconst (pc := 32) (v := nI 1) C dX4_emit_32 (by decide) ?_
  refine r_iadd (pc := 33) C dX4_emit_33 ?_
  refine r_eqi (nI_add c 1) ?_
  refine pX4_35 (pc := 34) C (by omega) dX4_emit_34 ?_
  refine r_aload0 (pc := 37) C dX4_emit_37 ?_
  refine gX4_22 (pc := 38) C (by omega) dX4_emit_38 ?_
  refine r_aload0 (pc := 41) C dX4_emit_41 ?_
  refine gX4_31 (pc := 42) C (by omega) dX4_emit_42 ?_
  refine r_eqi (y := nI s) (by rw [sI_s, upd_o (by decide), sI_o (by omega)]; exact hs) ?_
  refine r_iconst (pc := 45) (v := nI 1) C dX4_emit_45 (by decide) ?_
  refine r_isub (pc := 46) C dX4_emit_46 ?_
  refine r_eqi (pk_sub (a := s) (b := 1) (by omega)) ?_
  refine r_aload0 (pc := 47) C dX4_emit_47 ?_
  refine gX4_35 (pc := 48) C (by omega) dX4_emit_48 ?_
  refine r_eqi (y := nI (c + 1)) (by rw [sI_s, upd_s]) ?_
  refine r_iast (pc := 51) (_) C dX4_emit_51 (aC80r (by omega)) (rfl) (by omega) ?_
  exact r_return (pc := 52) C dX4_emit_52 (rfl)
theorem RS_add {G : gS} {j : Nat} {rs : List pR} (h : RS G j true rs) (hj : j < 3) (a : Bool) (m : Int32) : RS (sI (sI (sI (sI G (50 + j) rs.length (bI a)) (70 + j) rs.length (nI (lenC rs))) (80 + j) rs.length (nI (lenC rs))) (40 + j) 0 (nI (rs.length + 1))) j false ((a, m, []) :: rs) := by
  refine ⟨by rw [sI_s, upd_s]; rfl, by rw [sI_s, upd_o (by decide), sI_o (by omega), sI_o (by omega), sI_o (by omega), h.2.1, lenC_cons]; simp, ?_⟩
  have := RRp_add h.2.2 a m
  rw [sI_o (show 50 + j ≠ 40 + j by omega), sI_o (show 50 + j ≠ 80 + j by omega), sI_o (show 50 + j ≠ 70 + j by omega), sI_s, sI_o (show 60 + j ≠ 40 + j by omega), sI_o (show 60 + j ≠ 80 + j by omega), sI_o (show 60 + j ≠ 70 + j by omega), sI_o (show 60 + j ≠ 50 + j by omega), sI_o (show 70 + j ≠ 40 + j by omega), sI_o (show 70 + j ≠ 80 + j by omega), sI_s, sI_o (show 70 + j ≠ 50 + j by omega), sI_o (show 80 + j ≠ 40 + j by omega), sI_s, sI_o (show 80 + j ≠ 70 + j by omega), sI_o (show 80 + j ≠ 50 + j by omega), sI_o (show 90 + j ≠ 40 + j by omega), sI_o (show 90 + j ≠ 80 + j by omega), sI_o (show 90 + j ≠ 70 + j by omega), sI_o (show 90 + j ≠ 50 + j by omega)]
  exact this
theorem RS_num {G : gS} {j : Nat} {rs : List pR} {r : pR} {b : Bool} (h : RS G j b (r :: rs)) (hj : j < 3) (v : Int32) : RS (sI G (60 + j) rs.length v) j true ((r.1, v, r.2.2) :: rs) := by
  refine ⟨by rw [sI_o (by omega)]; exact h.1, by rw [sI_o (by omega)]; exact h.2.1, ?_⟩
  rw [sI_o (show 50 + j ≠ 60 + j by omega), sI_s, sI_o (show 70 + j ≠ 60 + j by omega), sI_o (show 80 + j ≠ 60 + j by omega), sI_o (show 90 + j ≠ 60 + j by omega)]
  exact RRp_num h.2.2 v
theorem RS_emit {G : gS} {j : Nat} {rs : List pR} {r : pR} {b : Bool} (h : RS G j b (r :: rs)) (hj : j < 3) (x : Int32) : RS (sI (sI (sI G (90 + j) (lenC (r :: rs)) x) (40 + j) 1 (nI (lenC (r :: rs) + 1))) (80 + j) rs.length (nI (lenC (r :: rs) + 1))) j b ((r.1, r.2.1, x :: r.2.2) :: rs) := by
  have e1 : lenC (r :: rs) = lenC rs + r.2.2.length := by rw [lenC_cons]; omega
  refine ⟨by rw [sI_o (by omega), sI_s, upd_o (by decide), sI_o (by omega)]; exact h.1, by rw [sI_o (by omega), sI_s, upd_s, lenC_cons, lenC_cons]; congr 1; simp; omega, ?_⟩
  rw [sI_o (show 50 + j ≠ 80 + j by omega), sI_o (show 50 + j ≠ 40 + j by omega), sI_o (show 50 + j ≠ 90 + j by omega), sI_o (show 60 + j ≠ 80 + j by omega), sI_o (show 60 + j ≠ 40 + j by omega), sI_o (show 60 + j ≠ 90 + j by omega), sI_o (show 70 + j ≠ 80 + j by omega), sI_o (show 70 + j ≠ 40 + j by omega), sI_o (show 70 + j ≠ 90 + j by omega), sI_s, sI_o (show 80 + j ≠ 40 + j by omega), sI_o (show 80 + j ≠ 90 + j by omega), sI_o (show 90 + j ≠ 80 + j by omega), sI_o (show 90 + j ≠ 40 + j by omega), sI_s, e1]
  exact RRp_emit h.2.2 x
theorem RS.fr {S : Nat → Prop} {G G' : gS} {j : Nat} {b : Bool} {rs : List pR} (h : RS G j b rs) (hF : Fr S G G') (h0 : ¬ S (40 + j)) (h1 : ¬ S (50 + j)) (h2 : ¬ S (60 + j)) (h3 : ¬ S (70 + j)) (h4 : ¬ S (80 + j)) (h5 : ¬ S (90 + j)) : RS G' j b rs := by
  unfold RS
  rw [hF.1 _ h0, hF.1 _ h1, hF.1 _ h2, hF.1 _ h3, hF.1 _ h4, hF.1 _ h5]
  exact h
def sE (j q : Nat) : Prop := q = 3 ∨ q = 40 + j ∨ q = 80 + j ∨ q = 90 + j
set_option maxHeartbeats 4000000 in
set_option maxRecDepth 100000 in
theorem tX3_push (Y : gY) (hY : Y.2.2.2 = wC) {G : gS} {n : Nat} {x : Int32} (hp : G.1 3 2 = nI n) (hn : n < 32) : ∀ l : Launch, gM Y l yX3_push cX3_push 2 none (0, 0) [.ref (Y.2.1 (3)), .int (x)] G (qv (fun G' => G' = sI (sI G 4 n x) 3 2 (nI (n + 1)))) := by
  intro l
  refine gM_of hY rfl (Nat.le_of_ble_eq_true rfl) [some (.ref (Y.2.1 (3))), some (.int (x))] rfl rfl ?_
  rintro Z rfl C
  refine r_aload0 (pc := 0) C dX3_push_0 ?_
  refine gX3_70 (pc := 1) C dX3_push_1 ?_
  refine r_eqi hp ?_
  refine r_bipush (pc := 4) (v := nI 32) C dX3_push_4 (by decide) ?_
  refine r_icmp_ge (pc := 6) 29 C dX3_push_6 (by decide) (fun c6 => ?_) (fun c6 => ?_)
  · exact absurd c6 (nI_ge (by omega) (by decide))
  refine r_aload0 (pc := 9) C dX3_push_9 ?_
  refine gX3_9 (pc := 10) C dX3_push_10 ?_
  refine r_aload0 (pc := 13) C dX3_push_13 ?_
  refine gX3_70 (pc := 14) C dX3_push_14 ?_
  refine r_eqi hp ?_
  refine r_iload1 (pc := 17) C dX3_push_17 ?_
  refine r_iast (pc := 18) (_) C dX3_push_18 aC4 (rfl) (by omega) ?_
  refine r_aload0 (pc := 19) C dX3_push_19 ?_
  refine r_dup (pc := 20) C dX3_push_20 rfl ?_
  refine gX3_70 (pc := 21) C dX3_push_21 ?_
  refine r_eqi (y := nI n) (by rw [sI_o (by decide)]; exact hp) ?_
  refine r_iconst (pc := 24) (v := nI 1) C dX3_push_24 (by decide) ?_
  refine r_iadd (pc := 25) C dX3_push_25 ?_
  refine r_eqi (nI_add n 1) ?_
  refine pX3_70 (pc := 26) C dX3_push_26 ?_
  exact r_return (pc := 29) C dX3_push_29 (rfl)
set_option maxHeartbeats 4000000 in
set_option maxRecDepth 100000 in
theorem tX3_emitDownTo (Y : gY) (hY : Y.2.2.2 = wC) {G : gS} {j q : Nat} {ops0 : List Nat} {c0 : List Int32} {a b : Bool} {m : Int32} {rs : List pR} (hj : j < 3) (hrj : G.2.2 3 3 = 40 + j) (hq5 : q ≤ 5) (hp : G.1 3 2 = nI ops0.length) (hO : opR (G.1 4) ops0) (hRS : RS G j b ((a, m, c0) :: rs)) (hr20 : rs.length < 20) (h9 : ∀ x, x ∈ ops0 → x ≤ 9) (hlen : lenC ((a, m, c0) :: rs) + ops0.length ≤ 400) (h32 : ops0.length ≤ 32) : ∀ l : Launch, gM Y l yX3_emitDownTo cX3_emitDownTo 2 none (1, 21) [.ref (Y.2.1 (3)), .int (nI q)] G (qv (fun G' => Fr (sE j) G G' ∧ G'.1 3 = upd (G.1 3) 2 (nI (edn q ops0 c0).1.length) ∧ RS G' j b ((a, m, (edn q ops0 c0).2) :: rs))) := by
  intro l
  refine gM_of hY rfl (Nat.le_of_ble_eq_true rfl) [some (.ref (Y.2.1 (3))), some (.int (nI q))] rfl rfl ?_
  rintro Z rfl C
  have loop : ∀ (k0 : Nat) (c : List Int32) (ops : List Nat) (Gx : gS), k0 = ops.length → Fr (sE j) G Gx → Gx.1 3 = upd (G.1 3) 2 (nI ops.length) → opR (G.1 4) ops → RS Gx j b ((a, m, c) :: rs) → (∀ x, x ∈ ops → x ≤ 9) → lenC ((a, m, c) :: rs) + ops.length ≤ 400 → edn q ops c = edn q ops0 c0 → ops.length ≤ 32 → WW Z (qv (fun G' => Fr (sE j) G G' ∧ G'.1 3 = upd (G.1 3) 2 (nI (edn q ops0 c0).1.length) ∧ RS G' j b ((a, m, (edn q ops0 c0).2) :: rs))) 0 [some (.ref (ad Z (3))), some (.int (nI q))] [] Gx := by
    intro k0
    induction k0 using Nat.strongRecOn with
    | _ k0 ih =>
      intro c ops Gx hk0 hF h3 hO hRS h9 hlen he h32
      refine r_aload0 (pc := 0) C dX3_emitDownTo_0 ?_
      refine gX3_70 (pc := 1) C dX3_emitDownTo_1 ?_
      refine r_eqi (y := nI ops.length) (by rw [h3, upd_s]) ?_
      refine r_if_le (pc := 4) 57 C dX3_emitDownTo_4 (by decide) (fun c4 => ?_) (fun c4 => ?_)
      · obtain rfl : ops = [] := by
          cases ops with
          | nil => rfl
          | cons x t => exact absurd c4 (nI_nle (by simp) (by rw [lenC_cons] at hlen; omega))
        exact r_return (pc := 57) C dX3_emitDownTo_57 (by rw [← he]; exact ⟨hF, h3, hRS⟩)
      · obtain ⟨y, t, rfl⟩ : ∃ y t, ops = y :: t := by
          cases ops with
          | nil => exact absurd (by decide) c4
          | cons x t => exact ⟨x, t, rfl⟩
        obtain ⟨hp1, hp2⟩ := opR_pop hO
        have hy9 := h9 y List.mem_cons_self
        obtain ⟨k1, k2⟩ := rk_ok y (by omega)
        have hl32 : t.length < 32 := by simp at h32; omega
        refine r_stI (pc := 7) (n := "OPERATOR_RANKS") tOr C dX3_emitDownTo_7 (by decide) (by decide) (fun h7t h7 => ?_)
        refine r_aload0 (pc := 10) C dX3_emitDownTo_10 ?_
        refine gX3_9 (pc := 11) C dX3_emitDownTo_11 ?_
        refine r_aload0 (pc := 14) C dX3_emitDownTo_14 ?_
        refine gX3_70 (pc := 15) C dX3_emitDownTo_15 ?_
        refine r_eqi (y := nI (t.length + 1)) (by rw [h3, upd_s]; rfl) ?_
        refine r_iconst (pc := 18) (v := nI 1) C dX3_emitDownTo_18 (by decide) ?_
        refine r_isub (pc := 19) C dX3_emitDownTo_19 ?_
        refine r_eqi (pk_sub (a := t.length + 1) (b := 1) (by omega)) ?_
        refine r_iald (pc := 20) (_) C dX3_emitDownTo_20 aC4 (rfl) (by omega) ?_
        refine r_eqi (y := nI y) (by rw [hF.1 4 (by rintro (h | h | h | h) <;> omega)]; exact hp2) ?_
        refine r_tald (pc := 21) (_) C dX3_emitDownTo_21 h7 (by decide) (rfl) (by show y < 10; omega) ?_
        refine r_eqi k1 ?_
        refine r_iload1 (pc := 22) C dX3_emitDownTo_22 ?_
        refine r_icmp_lt (pc := 23) 57 C dX3_emitDownTo_23 (by decide) (fun c23 => ?_) (fun c23 => ?_)
        · have hq : ¬ q ≤ rk y := by have := (nI_ltI (by omega) (by omega)).mp c23; omega
          exact r_return (pc := 57) C dX3_emitDownTo_57 (by rw [← he, edn, if_neg hq]; exact ⟨hF, h3, hRS⟩)
        · have hq : q ≤ rk y := (nI_leI (by omega) (by omega)).mp (Int32.not_lt.mp c23)
          refine r_aload0 (pc := 26) C dX3_emitDownTo_26 ?_
          refine r_dup (pc := 27) C dX3_emitDownTo_27 rfl ?_
          refine gX3_70 (pc := 28) C dX3_emitDownTo_28 ?_
          refine r_eqi (y := nI (t.length + 1)) (by rw [h3, upd_s]; rfl) ?_
          refine r_iconst (pc := 31) (v := nI 1) C dX3_emitDownTo_31 (by decide) ?_
          refine r_isub (pc := 32) C dX3_emitDownTo_32 ?_
          refine r_eqi (pk_sub (a := t.length + 1) (b := 1) (by omega)) ?_
          refine pX3_70 (pc := 33) C dX3_emitDownTo_33 ?_
          refine r_aload0 (pc := 36) C dX3_emitDownTo_36 ?_
          refine gX3_18 (pc := 37) C dX3_emitDownTo_37 ?_
          refine r_eqr (y := 40 + j) (by show Gx.2.2 3 3 = _; rw [hF.2.2]; exact hrj) ?_
          refine r_aload0 (pc := 40) C dX3_emitDownTo_40 ?_
          refine gX3_9 (pc := 41) C dX3_emitDownTo_41 ?_
          refine r_aload0 (pc := 44) C dX3_emitDownTo_44 ?_
          refine gX3_70 (pc := 45) C dX3_emitDownTo_45 ?_
          refine r_eqi (y := nI t.length) (by rw [sI_s, upd_s]; rfl) ?_
          refine r_iald (pc := 48) (_) C dX3_emitDownTo_48 aC4 (rfl) (by omega) ?_
          refine r_eqi (y := nI y) (by rw [sI_o (by decide), hF.1 4 (by rintro (h | h | h | h) <;> omega)]; exact hp2) ?_
          refine r_iconst (pc := 49) (v := (-1)) C dX3_emitDownTo_49 (by decide) ?_
          refine r_ixor (pc := 50) C dX3_emitDownTo_50 ?_
          refine r_callVv (pc := 51) C rfl dX3_emitDownTo_51 kX3_109 gF4 (jCr (by omega)) (tX4_emit Z.1 C.w (s := rs.length + 1) (c := lenC ((a, m, c) :: rs)) hj (by rw [sI_o (by omega)]; exact hRS.1) (by omega) (by omega) (by rw [sI_o (by omega)]; exact hRS.2.1) (by simp at hlen; omega)) rfl rfl (Nat.le_of_ble_eq_true rfl) (by decide) (fun G51 h51 => ?_)
          have hFs : Fr (fun q => q = 3) Gx (sI Gx 3 2 (nI (t.length + 1 - 1))) := Fr.refl.sI rfl
          have hRS1 : RS (sI Gx 3 2 (nI (t.length + 1 - 1))) j b ((a, m, c) :: rs) := hRS.fr hFs (by omega) (by omega) (by omega) (by omega) (by omega) (by omega)
          have hRS2 : RS G51 j b ((a, m, (nI y ^^^ -1) :: c) :: rs) := by rw [h51]; exact RS_emit hRS1 hj _
          have hF51 : Fr (sE j) (sI Gx 3 2 (nI (t.length + 1 - 1))) G51 := by rw [h51]; exact ((Fr.refl.sI (Or.inr (Or.inr (Or.inr rfl)))).sI (Or.inr (Or.inl rfl))).sI (Or.inr (Or.inr (Or.inl rfl)))
          refine r_goto (pc := 54) 0 C dX3_emitDownTo_54 (by decide) ?_
          refine ih t.length (by simp at hk0; omega) _ t _ rfl ((hF.sI (Or.inl rfl)).trans hF51) ?_ hp1 hRS2 (fun y hy => h9 y (List.mem_cons_of_mem _ hy)) ?_ ?_ ?_
          · rw [h51, sI_o (by omega), sI_o (by omega), sI_o (by omega), sI_s, h3, upd_u]; rfl
          · rw [lenC_cons] at hlen ⊢; simp at hlen ⊢; omega
          · rw [← he, edn, if_pos hq]
          · omega
  exact loop _ c0 ops0 G rfl Fr.refl (by rw [upd_id hp]) hO hRS h9 hlen rfl h32
