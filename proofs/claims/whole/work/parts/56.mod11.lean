/-! the reference: parts of its parser -/
def fF (f : Int32) (t : Nat) (G : gS) : gS := if 0 < G.1 100 13 then G else sI (sI G 100 13 f) 100 14 (G.1 6 t)
def nF (t : Nat) (G : gS) : gS := if t = 400 then fF (nI 2) t G else sI G 100 11 (nI (t + 1))
def isB (x : Int32) (t : Nat) (G : gS) : Bool := decide (G.1 100 13 = 0 ∧ G.1 5 t = x)
def emF (c : Nat) (k v : Int32) (G : gS) : gS := sI (sI (sI G 32 c k) 33 c v) 100 31 (nI (c + 1))
set_option maxHeartbeats 4000000 in
set_option maxRecDepth 100000 in
theorem tX9_is (Y : gY) (hY : Y.2.2.2 = wM) {G : gS} {t : Nat} {x : Int32} (ht : G.1 100 11 = nI t) (ht4 : t < 403) : ∀ l : Launch, gM Y l yX9_is cX9_is 2 (some .boolean) (0, 0) [.ref (Y.2.1 (100)), .int (x)] G (qi (fun r G' => r = bI (isB x t G) ∧ G' = G)) := by
  intro l
  refine gM_of hY rfl (Nat.le_of_ble_eq_true rfl) [some (.ref (Y.2.1 (100))), some (.int (x))] rfl rfl ?_
  rintro Z rfl C
  refine r_aload0 (pc := 0) C dX9_is_0 ?_
  refine gX9_251 (pc := 1) C dX9_is_1 ?_
  refine r_if_ne (pc := 4) 24 C dX9_is_4 (by decide) (fun c4 => ?_) (fun c4 => ?_)
  · refine r_iconst (pc := 24) (v := nI 0) C dX9_is_24 (by decide) ?_
    exact r_zreturn (pc := 25) C dX9_is_25 (rfl) (⟨bI_dn (fun z => c4 z.1), rfl⟩)
  · refine r_aload0 (pc := 7) C dX9_is_7 ?_
    refine gX9_20 (pc := 8) C dX9_is_8 ?_
    refine r_aload0 (pc := 11) C dX9_is_11 ?_
    refine gX9_254 (pc := 12) C dX9_is_12 ?_
    refine r_eqi ht ?_
    refine r_iald (pc := 15) (_) C dX9_is_15 aM5 (rfl) (by omega) ?_
    refine r_iload1 (pc := 16) C dX9_is_16 ?_
    refine r_icmp_ne (pc := 17) 24 C dX9_is_17 (by decide) (fun c17 => ?_) (fun c17 => ?_)
    · refine r_iconst (pc := 24) (v := nI 0) C dX9_is_24 (by decide) ?_
      exact r_zreturn (pc := 25) C dX9_is_25 (rfl) (⟨bI_dn (fun z => c17 z.2), rfl⟩)
    · refine r_iconst (pc := 20) (v := nI 1) C dX9_is_20 (by decide) ?_
      refine r_goto (pc := 21) 25 C dX9_is_21 (by decide) ?_
      exact r_zreturn (pc := 25) C dX9_is_25 (rfl) (⟨bI_d ⟨c4, c17⟩, rfl⟩)
set_option maxHeartbeats 4000000 in
set_option maxRecDepth 100000 in
theorem tX9_fail (Y : gY) (hY : Y.2.2.2 = wM) {G : gS} {t : Nat} {f : Int32} (ht : G.1 100 11 = nI t) (ht4 : t < 403) : ∀ l : Launch, gM Y l yX9_fail cX9_fail 2 none (0, 0) [.ref (Y.2.1 (100)), .int (f)] G (qv (fun G' => G' = fF f t G)) := by
  intro l
  refine gM_of hY rfl (Nat.le_of_ble_eq_true rfl) [some (.ref (Y.2.1 (100))), some (.int (f))] rfl rfl ?_
  rintro Z rfl C
  refine r_aload0 (pc := 0) C dX9_fail_0 ?_
  refine gX9_251 (pc := 1) C dX9_fail_1 ?_
  refine r_if_le (pc := 4) 8 C dX9_fail_4 (by decide) (fun c4 => ?_) (fun c4 => ?_)
  · refine r_aload0 (pc := 8) C dX9_fail_8 ?_
    refine r_iload1 (pc := 9) C dX9_fail_9 ?_
    refine pX9_251 (pc := 10) C dX9_fail_10 ?_
    refine r_aload0 (pc := 13) C dX9_fail_13 ?_
    refine r_aload0 (pc := 14) C dX9_fail_14 ?_
    refine gX9_24 (pc := 15) C dX9_fail_15 ?_
    refine r_aload0 (pc := 18) C dX9_fail_18 ?_
    refine gX9_254 (pc := 19) C dX9_fail_19 ?_
    refine r_eqi (y := nI t) (by rw [sI_s, upd_o (by decide)]; exact ht) ?_
    refine r_iald (pc := 22) (_) C dX9_fail_22 aM6 (rfl) (by omega) ?_
    refine r_eqi (y := G.1 6 t) (by rw [sI_o (by decide)]) ?_
    refine pX9_257 (pc := 23) C dX9_fail_23 ?_
    exact r_return (pc := 26) C dX9_fail_26 ((if_neg (Int32.not_lt.mpr c4)).symm)
  · exact r_return (pc := 7) C dX9_fail_7 ((if_pos (Int32.not_le.mp c4)).symm)
set_option maxHeartbeats 4000000 in
set_option maxRecDepth 100000 in
theorem tX9_next (Y : gY) (hY : Y.2.2.2 = wM) {G : gS} {t : Nat} (ht : G.1 100 11 = nI t) (ht4 : t < 403) : ∀ l : Launch, gM Y l yX9_next cX9_next 1 none (1, 21) [.ref (Y.2.1 (100))] G (qv (fun G' => G' = nF t G)) := by
  intro l
  refine gM_of hY rfl (Nat.le_of_ble_eq_true rfl) [some (.ref (Y.2.1 (100)))] rfl rfl ?_
  rintro Z rfl C
  refine r_aload0 (pc := 0) C dX9_next_0 ?_
  refine gX9_254 (pc := 1) C dX9_next_1 ?_
  refine r_eqi ht ?_
  refine r_sipush (pc := 4) (v := nI 400) C dX9_next_4 (by decide) ?_
  refine r_icmp_ne (pc := 7) 18 C dX9_next_7 (by decide) (fun c7 => ?_) (fun c7 => ?_)
  · have e7 : ¬ t = 400 := fun z => c7 (by rw [z])
    refine r_aload0 (pc := 18) C dX9_next_18 ?_
    refine r_dup (pc := 19) C dX9_next_19 rfl ?_
    refine gX9_254 (pc := 20) C dX9_next_20 ?_
    refine r_eqi ht ?_
    refine r_iconst (pc := 23) (v := nI 1) C dX9_next_23 (by decide) ?_
    refine r_iadd (pc := 24) C dX9_next_24 ?_
    refine r_eqi (nI_add t 1) ?_
    refine pX9_254 (pc := 25) C dX9_next_25 ?_
    exact r_return (pc := 28) C dX9_next_28 (by unfold nF; rw [if_neg e7])
  · obtain rfl : t = 400 := (nI_eq (by omega) (by decide)).mp c7
    refine r_aload0 (pc := 10) C dX9_next_10 ?_
    refine r_iconst (pc := 11) (v := nI 2) C dX9_next_11 (by decide) ?_
    refine r_callVv (pc := 12) C rfl dX9_next_12 kX9_266 gF9 jM (tX9_fail Z.1 C.w ht ht4) rfl rfl (Nat.le_of_ble_eq_true rfl) (by decide) (fun G12 h12 => ?_)
    subst h12
    refine r_goto (pc := 15) 28 C dX9_next_15 (by decide) ?_
    exact r_return (pc := 28) C dX9_next_28 (by unfold nF; rw [if_pos rfl])
set_option maxHeartbeats 4000000 in
set_option maxRecDepth 100000 in
theorem tX9_must (Y : gY) (hY : Y.2.2.2 = wM) {G : gS} {t : Nat} {x : Int32} (ht : G.1 100 11 = nI t) (ht4 : t < 403) : ∀ l : Launch, gM Y l yX9_must cX9_must 2 none (2, 41) [.ref (Y.2.1 (100)), .int (x)] G (qv (fun G' => G' = if isB x t G = true then nF t G else fF (nI 1) t G)) := by
  intro l
  refine gM_of hY rfl (Nat.le_of_ble_eq_true rfl) [some (.ref (Y.2.1 (100))), some (.int (x))] rfl rfl ?_
  rintro Z rfl C
  refine r_aload0 (pc := 0) C dX9_must_0 ?_
  refine r_iload1 (pc := 1) C dX9_must_1 ?_
  refine r_callVi (pc := 2) C rfl dX9_must_2 kX9_269 gF9 jM (tX9_is Z.1 C.w ht ht4) rfl rfl (Nat.le_of_ble_eq_true rfl) (by decide) (fun x2 G2 h2 => ?_)
  obtain ⟨rfl, h2b⟩ := h2
  have h2b := h2b.symm
  subst h2b
  refine r_if_eq (pc := 5) 15 C dX9_must_5 (by decide) (fun c5 => ?_) (fun c5 => ?_)
  · refine r_aload0 (pc := 15) C dX9_must_15 ?_
    refine r_iconst (pc := 16) (v := nI 1) C dX9_must_16 (by decide) ?_
    refine r_callVv (pc := 17) C rfl dX9_must_17 kX9_266 gF9 jM (tX9_fail Z.1 C.w ht ht4) rfl rfl (Nat.le_of_ble_eq_true rfl) (by decide) (fun G17 h17 => ?_)
    subst h17
    exact r_return (pc := 20) C dX9_must_20 (by rw [if_neg (by rw [bI_z.mp c5]; decide)])
  · refine r_aload0 (pc := 8) C dX9_must_8 ?_
    refine r_callVv (pc := 9) C rfl dX9_must_9 kX9_272 gF9 jM (tX9_next Z.1 C.w ht ht4) rfl rfl (Nat.le_of_ble_eq_true rfl) (by decide) (fun G9 h9 => ?_)
    subst h9
    refine r_goto (pc := 12) 20 C dX9_must_12 (by decide) ?_
    exact r_return (pc := 20) C dX9_must_20 (by rw [if_pos (bI_n.mp c5)])
set_option maxHeartbeats 4000000 in
set_option maxRecDepth 100000 in
theorem tX9_wrong (Y : gY) (hY : Y.2.2.2 = wM) {G : gS} {j : Nat} {x : Int32} (hj : j < 403) (hf0 : G.1 100 13 = 0) (hw : G.1 100 15 = 0 ∨ G.1 100 16 < G.1 6 j) : ∀ l : Launch, gM Y l yX9_wrong cX9_wrong 4 none (0, 0) [.ref (Y.2.1 (100)), .int (x), .int (nI j)] G (qv (fun G' => G' = if G.1 100 15 = 0 then sI (sI G 100 15 x) 100 16 (G.1 6 j) else G)) := by
  intro l
  refine gM_of hY rfl (Nat.le_of_ble_eq_true rfl) [some (.ref (Y.2.1 (100))), some (.int (x)), some (.int (nI j)), none] rfl rfl ?_
  rintro Z rfl C
  refine r_aload0 (pc := 0) C dX9_wrong_0 ?_
  refine gX9_24 (pc := 1) C dX9_wrong_1 ?_
  refine r_iload2 (pc := 4) C dX9_wrong_4 ?_
  refine r_iald (pc := 5) (_) C dX9_wrong_5 aM6 (rfl) (by omega) ?_
  refine r_istore3 (pc := 6) C dX9_wrong_6 rfl ?_
  refine r_aload0 (pc := 7) C dX9_wrong_7 ?_
  refine gX9_251 (pc := 8) C dX9_wrong_8 ?_
  refine r_if_gt (pc := 11) 45 C dX9_wrong_11 (by decide) (fun c11 => ?_) (fun c11 => ?_)
  · exact absurd c11 (by rw [hf0]; decide)
  refine r_aload0 (pc := 14) C dX9_wrong_14 ?_
  refine gX9_260 (pc := 15) C dX9_wrong_15 ?_
  refine r_if_eq (pc := 18) 46 C dX9_wrong_18 (by decide) (fun c18 => ?_) (fun c18 => ?_)
  · refine r_aload0 (pc := 46) C dX9_wrong_46 ?_
    refine r_iload1 (pc := 47) C dX9_wrong_47 ?_
    refine pX9_260 (pc := 48) C dX9_wrong_48 ?_
    refine r_aload0 (pc := 51) C dX9_wrong_51 ?_
    refine r_iload3 (pc := 52) C dX9_wrong_52 ?_
    refine pX9_263 (pc := 53) C dX9_wrong_53 ?_
    exact r_return (pc := 56) C dX9_wrong_56 ((if_pos c18).symm)
  · refine r_iload3 (pc := 21) C dX9_wrong_21 ?_
    refine r_aload0 (pc := 22) C dX9_wrong_22 ?_
    refine gX9_263 (pc := 23) C dX9_wrong_23 ?_
    refine r_icmp_gt (pc := 26) 45 C dX9_wrong_26 (by decide) (fun c26 => ?_) (fun c26 => ?_)
    · exact r_return (pc := 45) C dX9_wrong_45 ((if_neg c18).symm)
    · refine r_iload3 (pc := 29) C dX9_wrong_29 ?_
      refine r_aload0 (pc := 30) C dX9_wrong_30 ?_
      refine gX9_263 (pc := 31) C dX9_wrong_31 ?_
      refine r_icmp_ne (pc := 34) 46 C dX9_wrong_34 (by decide) (fun c34 => ?_) (fun c34 => ?_)
      · refine r_aload0 (pc := 46) C dX9_wrong_46 ?_
        refine r_iload1 (pc := 47) C dX9_wrong_47 ?_
        refine pX9_260 (pc := 48) C dX9_wrong_48 ?_
        refine r_aload0 (pc := 51) C dX9_wrong_51 ?_
        refine r_iload3 (pc := 52) C dX9_wrong_52 ?_
        refine pX9_263 (pc := 53) C dX9_wrong_53 ?_
        exact r_return (pc := 56) C dX9_wrong_56 (absurd (hw.resolve_left c18) (fun z => c26 z))
      · refine r_iload1 (pc := 37) C dX9_wrong_37 ?_
        refine r_aload0 (pc := 38) C dX9_wrong_38 ?_
        refine gX9_260 (pc := 39) C dX9_wrong_39 ?_
        refine r_icmp_lt (pc := 42) 46 C dX9_wrong_42 (by decide) (fun c42 => ?_) (fun c42 => ?_)
        · refine r_aload0 (pc := 46) C dX9_wrong_46 ?_
          refine r_iload1 (pc := 47) C dX9_wrong_47 ?_
          refine pX9_260 (pc := 48) C dX9_wrong_48 ?_
          refine r_aload0 (pc := 51) C dX9_wrong_51 ?_
          refine r_iload3 (pc := 52) C dX9_wrong_52 ?_
          refine pX9_263 (pc := 53) C dX9_wrong_53 ?_
          exact r_return (pc := 56) C dX9_wrong_56 (absurd (hw.resolve_left c18) (fun z => c26 z))
        · exact r_return (pc := 45) C dX9_wrong_45 ((if_neg c18).symm)
set_option maxHeartbeats 4000000 in
set_option maxRecDepth 100000 in
theorem tX9_emit (Y : gY) (hY : Y.2.2.2 = wM) {G : gS} {c : Nat} {k v : Int32} (hc : G.1 100 31 = nI c) (hcb : c < 2000) : ∀ l : Launch, gM Y l yX9_emit cX9_emit 3 none (0, 0) [.ref (Y.2.1 (100)), .int (k), .int (v)] G (qv (fun G' => G' = emF c k v G)) := by
  intro l
  refine gM_of hY rfl (Nat.le_of_ble_eq_true rfl) [some (.ref (Y.2.1 (100))), some (.int (k)), some (.int (v))] rfl rfl ?_
  rintro Z rfl C
  refine r_aload0 (pc := 0) C dX9_emit_0 ?_
  refine gX9_77 (pc := 1) C dX9_emit_1 ?_
  refine r_aload0 (pc := 4) C dX9_emit_4 ?_
  refine gX9_284 (pc := 5) C dX9_emit_5 ?_
  refine r_eqi (y := nI c) (hc) ?_
  refine r_iload1 (pc := 8) C dX9_emit_8 ?_
  refine r_iast (pc := 9) (_) C dX9_emit_9 aM32 (rfl) (by omega) ?_
  refine r_aload0 (pc := 10) C dX9_emit_10 ?_
  refine gX9_80 (pc := 11) C dX9_emit_11 ?_
  refine r_aload0 (pc := 14) C dX9_emit_14 ?_
  refine gX9_284 (pc := 15) C dX9_emit_15 ?_
  refine r_eqi (y := nI c) (by rw [sI_o (by decide)]; exact hc) ?_
  refine r_iload2 (pc := 18) C dX9_emit_18 ?_
  refine r_iast (pc := 19) (_) C dX9_emit_19 aM33 (rfl) (by omega) ?_
  refine r_aload0 (pc := 20) C dX9_emit_20 ?_
  refine r_dup (pc := 21) C dX9_emit_21 rfl ?_
  refine gX9_284 (pc := 22) C dX9_emit_22 ?_
  refine r_eqi (y := nI c) (by rw [sI_o (by decide), sI_o (by decide)]; exact hc) ?_
  refine r_iconst (pc := 25) (v := nI 1) C dX9_emit_25 (by decide) ?_
  refine r_iadd (pc := 26) C dX9_emit_26 ?_
  refine r_eqi (nI_add c 1) ?_
  refine pX9_284 (pc := 27) C dX9_emit_27 ?_
  exact r_return (pc := 30) C dX9_emit_30 (rfl)
def wm (x : Nat) : Nat := if x = 0 then 6 else x + 1
def wtR (f : Nat → Int32) (ops : List Nat) : Prop := opR f (ops.map wm)
theorem wtR_push {f : Nat → Int32} {ops : List Nat} (h : wtR f ops) (x : Nat) : wtR (upd f ops.length (nI (wm x))) (x :: ops) := by
  have := opR_push h (wm x)
  rw [List.length_map] at this
  exact this
theorem wtR_pop {f : Nat → Int32} {ops : List Nat} {x : Nat} (h : wtR f (x :: ops)) : wtR f ops ∧ f ops.length = nI (wm x) := by
  have := opR_pop (ops := ops.map wm) (x := wm x) h
  rw [List.length_map] at this
  exact this
theorem ap_7 (a b : Int32) : applyP (nI 7) a b = a + b := by unfold applyP; rw [if_neg (by decide), if_neg (by decide), if_neg (by decide), if_neg (by decide), if_neg (by decide), if_neg (by decide), if_pos rfl]
theorem ap_8 (a b : Int32) : applyP (nI 8) a b = a - b := by unfold applyP; rw [if_neg (by decide), if_neg (by decide), if_neg (by decide), if_neg (by decide), if_neg (by decide), if_neg (by decide), if_neg (by decide), if_pos rfl]
theorem ap_9 (a b : Int32) : applyP (nI 9) a b = a * b := by unfold applyP; rw [if_neg (by decide), if_neg (by decide), if_neg (by decide), if_neg (by decide), if_neg (by decide), if_neg (by decide), if_neg (by decide), if_neg (by decide)]
/-- an operator of the reference's code: 2, 3, 4 for 7, 8, 9 -/
theorem mEv_op {v code cint : Nat → Int32} {i x : Nat} {L : List Int32} (hx : x = 7 ∨ x = 8 ∨ x = 9) (hc : code i = nI (x - 5)) (hl : 2 ≤ L.length) : mEv v code cint 1 i L (apL [x] L) := by
  match L, hl with
  | b :: a :: N, _ =>
    refine Or.inr ⟨a, b, N, rfl, ?_⟩
    rcases hx with rfl | rfl | rfl
    · exact Or.inl ⟨hc, by show _ = applyP (nI 7) a b :: N; rw [ap_7]⟩
    · exact Or.inr (Or.inl ⟨hc, by show _ = applyP (nI 8) a b :: N; rw [ap_8]⟩)
    · exact Or.inr (Or.inr ⟨hc, by show _ = applyP (nI 9) a b :: N; rw [ap_9]⟩)
  | [_], h => simp at h
  | [], h => simp at h
theorem apL_cons {x : Nat} {p : List Nat} {L : List Int32} (hl : 2 ≤ L.length) : apL (x :: p) L = apL p (apL [x] L) := by
  match L, hl with
  | b :: a :: N, _ => rfl
  | [_], h => simp at h
  | [], h => simp at h
def coP (G G' : gS) (ops : List Nat) (tm : Bool) (c cd : Nat) (LE : (Nat → Int32) → List Int32) : Prop := Fr (fun q => q = 32 ∨ q = 33 ∨ q = 100) G G' ∧ (∀ q, q ≠ 31 → q ≠ 35 → G'.1 100 q = G.1 100 q) ∧ G'.1 100 35 = nI (ops.dropWhile (popP tm)).length ∧ G'.1 100 31 = nI (c + (ops.takeWhile (popP tm)).length) ∧ (∀ j, (j < c ∨ c + (ops.takeWhile (popP tm)).length ≤ j) → G'.1 32 j = G.1 32 j ∧ G'.1 33 j = G.1 33 j) ∧ ∀ v, mEv v (G'.1 32) (G'.1 33) (c + (ops.takeWhile (popP tm)).length - cd) cd [] (apL (ops.takeWhile (popP tm)) (LE v))
set_option maxHeartbeats 4000000 in
set_option maxRecDepth 100000 in
theorem tX9_comesOut (Y : gY) (hY : Y.2.2.2 = wM) {G : gS} {ops : List Nat} {tm : Bool} {c cd : Nat} {LE : (Nat → Int32) → List Int32} (ho : oE ops) (hw : G.1 100 35 = nI ops.length) (hws : wtR (G.1 34) ops) (hc : G.1 100 31 = nI c) (hcb : c + ops.length ≤ 2000) (h48 : ops.length ≤ 48) (hcd : cd ≤ c) (hev : ∀ v, mEv v (G.1 32) (G.1 33) (c - cd) cd [] (LE v)) (hlen : ∀ v, (LE v).length = nz ops + 1) : ∀ l : Launch, gM Y l yX9_comesOut cX9_comesOut 3 none (1, 22) [.ref (Y.2.1 (100)), .int (bI tm)] G (qv (fun G' => coP G G' ops tm c cd LE)) := by
  intro l
  refine gM_of hY rfl (Nat.le_of_ble_eq_true rfl) [some (.ref (Y.2.1 (100))), some (.int (bI tm)), none] rfl rfl ?_
  rintro Z rfl C
  have loop : ∀ (k0 : Nat) (ops1 : List Nat) (c1 : Nat) (LE1 : (Nat → Int32) → List Int32) (o2 : Option Value) (G1 : gS), k0 = ops1.length → oE ops1 → c + (ops.takeWhile (popP tm)).length = c1 + (ops1.takeWhile (popP tm)).length → ops.dropWhile (popP tm) = ops1.dropWhile (popP tm) → c ≤ c1 → G1.1 100 35 = nI ops1.length → wtR (G1.1 34) ops1 → G1.1 100 31 = nI c1 → c1 + ops1.length ≤ 2000 → ops1.length ≤ 48 → Fr (fun q => q = 32 ∨ q = 33 ∨ q = 100) G G1 → (∀ q, q ≠ 31 → q ≠ 35 → G1.1 100 q = G.1 100 q) → (∀ j, (j < c ∨ c1 ≤ j) → G1.1 32 j = G.1 32 j ∧ G1.1 33 j = G.1 33 j) → (∀ v, mEv v (G1.1 32) (G1.1 33) (c1 - cd) cd [] (LE1 v)) → (∀ v, (LE1 v).length = nz ops1 + 1) → (∀ v, apL (ops.takeWhile (popP tm)) (LE v) = apL (ops1.takeWhile (popP tm)) (LE1 v)) → WW Z (qv (fun G' => coP G G' ops tm c cd LE)) 0 [some (.ref (ad Z (100))), some (.int (bI tm)), o2] [] G1 := by
    intro k0
    induction k0 using Nat.strongRecOn with
    | _ k0 ih =>
      intro ops1 c1 LE1 o2 G1 hk0 ho1 hT hD hcc hw1 hws hc1 hcb h48 hfr h100 hlo hev hlen hA
      have done1 : ops1.takeWhile (popP tm) = [] → ops1.dropWhile (popP tm) = ops1 → coP G G1 ops tm c cd LE := by
        intro d1 d2
        rw [d1, List.length_nil] at hT
        rw [d2] at hD
        refine ⟨hfr, h100, by rw [hD]; exact hw1, by rw [hT]; exact hc1, by rw [hT]; exact hlo, fun v => ?_⟩
        rw [hT, hA v, d1]
        exact hev v
      refine r_aload0 (pc := 0) C dX9_comesOut_0 ?_
      refine gX9_308 (pc := 1) C dX9_comesOut_1 ?_
      refine r_eqi hw1 ?_
      refine r_if_le (pc := 4) 92 C dX9_comesOut_4 (by decide) (fun c4 => ?_) (fun c4 => ?_)
      · obtain rfl : ops1 = [] := by
          cases ops1 with
          | nil => rfl
          | cons x o1 => exact absurd c4 (nI_gz (by simp) (by omega))
        exact r_return (pc := 92) C dX9_comesOut_92 (done1 rfl rfl)
      · obtain ⟨x, o1, rfl⟩ : ∃ x o1, ops1 = x :: o1 := by
          cases ops1 with
          | nil => exact absurd (by simp; decide) c4
          | cons x o1 => exact ⟨x, o1, rfl⟩
        have hw1 : G1.1 100 35 = nI (o1.length + 1) := hw1
        have hpp := wtR_pop hws
        have hl48 : o1.length + 1 ≤ 48 := by simp at h48; omega
        rcases ho1 x List.mem_cons_self with rfl | rfl | rfl | rfl <;> cases tm
        · refine r_aload0 (pc := 7) C dX9_comesOut_7 ?_
          refine gX9_83 (pc := 8) C dX9_comesOut_8 ?_
          refine r_aload0 (pc := 11) C dX9_comesOut_11 ?_
          refine gX9_308 (pc := 12) C dX9_comesOut_12 ?_
          refine r_eqi (y := nI (o1.length + 1)) hw1 ?_
          refine r_iconst (pc := 15) (v := nI 1) C dX9_comesOut_15 (by decide) ?_
          refine r_isub (pc := 16) C dX9_comesOut_16 ?_
          refine r_eqi (y := nI o1.length) (pk_sub (a := o1.length + 1) (b := 1) (by omega)) ?_
          refine r_iald (pc := 17) (_) C dX9_comesOut_17 aM34 (rfl) (by omega) ?_
          refine r_eqi (y := nI 6) hpp.2 ?_
          refine r_bipush (pc := 18) (v := nI 6) C dX9_comesOut_18 (by decide) ?_
          refine r_icmp_eq (pc := 20) 92 C dX9_comesOut_20 (by decide) (fun c20 => ?_) (fun c20 => ?_)
          rotate_left
          · exact absurd c20 (fun h => h rfl)
          exact r_return (pc := 92) C dX9_comesOut_92 (done1 (by rfl) (by rfl))
        · refine r_aload0 (pc := 7) C dX9_comesOut_7 ?_
          refine gX9_83 (pc := 8) C dX9_comesOut_8 ?_
          refine r_aload0 (pc := 11) C dX9_comesOut_11 ?_
          refine gX9_308 (pc := 12) C dX9_comesOut_12 ?_
          refine r_eqi (y := nI (o1.length + 1)) hw1 ?_
          refine r_iconst (pc := 15) (v := nI 1) C dX9_comesOut_15 (by decide) ?_
          refine r_isub (pc := 16) C dX9_comesOut_16 ?_
          refine r_eqi (y := nI o1.length) (pk_sub (a := o1.length + 1) (b := 1) (by omega)) ?_
          refine r_iald (pc := 17) (_) C dX9_comesOut_17 aM34 (rfl) (by omega) ?_
          refine r_eqi (y := nI 6) hpp.2 ?_
          refine r_bipush (pc := 18) (v := nI 6) C dX9_comesOut_18 (by decide) ?_
          refine r_icmp_eq (pc := 20) 92 C dX9_comesOut_20 (by decide) (fun c20 => ?_) (fun c20 => ?_)
          rotate_left
          · exact absurd c20 (fun h => h rfl)
          exact r_return (pc := 92) C dX9_comesOut_92 (done1 (by rfl) (by rfl))
        · refine r_aload0 (pc := 7) C dX9_comesOut_7 ?_
          refine gX9_83 (pc := 8) C dX9_comesOut_8 ?_
          refine r_aload0 (pc := 11) C dX9_comesOut_11 ?_
          refine gX9_308 (pc := 12) C dX9_comesOut_12 ?_
          refine r_eqi (y := nI (o1.length + 1)) hw1 ?_
          refine r_iconst (pc := 15) (v := nI 1) C dX9_comesOut_15 (by decide) ?_
          refine r_isub (pc := 16) C dX9_comesOut_16 ?_
          refine r_eqi (y := nI o1.length) (pk_sub (a := o1.length + 1) (b := 1) (by omega)) ?_
          refine r_iald (pc := 17) (_) C dX9_comesOut_17 aM34 (rfl) (by omega) ?_
          refine r_eqi (y := nI 8) hpp.2 ?_
          refine r_bipush (pc := 18) (v := nI 6) C dX9_comesOut_18 (by decide) ?_
          refine r_icmp_eq (pc := 20) 92 C dX9_comesOut_20 (by decide) (fun c20 => ?_) (fun c20 => ?_)
          · exact absurd c20 (by decide)
          refine r_iload1 (pc := 23) C dX9_comesOut_23 ?_
          refine r_if_eq (pc := 24) 43 C dX9_comesOut_24 (by decide) (fun c24 => ?_) (fun c24 => ?_)
          rotate_left
          · exact absurd c24 (fun h => h rfl)
          refine r_aload0 (pc := 43) C dX9_comesOut_43 ?_
          refine r_dup (pc := 44) C dX9_comesOut_44 rfl ?_
          refine gX9_308 (pc := 45) C dX9_comesOut_45 ?_
          refine r_eqi (y := nI (o1.length + 1)) hw1 ?_
          refine r_iconst (pc := 48) (v := nI 1) C dX9_comesOut_48 (by decide) ?_
          refine r_isub (pc := 49) C dX9_comesOut_49 ?_
          refine r_eqi (y := nI o1.length) (pk_sub (a := o1.length + 1) (b := 1) (by omega)) ?_
          refine pX9_308 (pc := 50) C dX9_comesOut_50 ?_
          refine r_aload0 (pc := 53) C dX9_comesOut_53 ?_
          refine gX9_83 (pc := 54) C dX9_comesOut_54 ?_
          refine r_aload0 (pc := 57) C dX9_comesOut_57 ?_
          refine gX9_308 (pc := 58) C dX9_comesOut_58 ?_
          refine r_eqi (y := nI o1.length) (by rw [sI_s, upd_s]) ?_
          refine r_iald (pc := 61) (_) C dX9_comesOut_61 aM34 (rfl) (by omega) ?_
          refine r_eqi (y := nI 8) (by rw [sI_o (by decide)]; exact hpp.2) ?_
          refine r_istore2 (pc := 62) C dX9_comesOut_62 rfl ?_
          refine r_aload0 (pc := 63) C dX9_comesOut_63 ?_
          refine r_iload2 (pc := 64) C dX9_comesOut_64 ?_
          refine r_bipush (pc := 65) (v := nI 8) C dX9_comesOut_65 (by decide) ?_
          refine r_icmp_ne (pc := 67) 74 C dX9_comesOut_67 (by decide) (fun c67 => ?_) (fun c67 => ?_)
          · exact absurd c67 (fun h => h rfl)
          refine r_iconst (pc := 70) (v := nI 2) C dX9_comesOut_70 (by decide) ?_
          refine r_goto (pc := 71) 85 C dX9_comesOut_71 (by decide) ?_
          refine r_iconst (pc := 85) (v := nI 0) C dX9_comesOut_85 (by decide) ?_
          refine r_callVv (pc := 86) C rfl dX9_comesOut_86 kX9_311 gF9 jM (tX9_emit Z.1 C.w (c := c1) (by rw [sI_s, upd_o (by decide)]; exact hc1) (by simp at hcb; omega)) rfl rfl (Nat.le_of_ble_eq_true rfl) (by decide) (fun G86 h86 => ?_)
          subst h86
          refine r_goto (pc := 89) 0 C dX9_comesOut_89 (by decide) ?_
          refine ih o1.length (by rw [hk0]; simp) o1 (c1 + 1) (fun v => apL [7] (LE1 v)) _ _ rfl (fun y hy => ho1 y (List.mem_cons_of_mem _ hy)) (hT.trans ?_) (hD.trans ?_) (by omega) ?_ hpp.1 ?_ (by simp at hcb; omega) (by omega) ?_ ?_ ?_ (fun v => ?_) (fun v => ?_) (fun v => ?_)
          · rw [show ((7 : Nat) :: o1).takeWhile (popP false) = 7 :: o1.takeWhile (popP false) from rfl]; simp; omega
          · rfl
          · show (sI (sI (sI _ 32 c1 _) 33 c1 _) 100 31 _).1 100 35 = _
            rw [sI_s, upd_o (by decide), sI_o (by decide), sI_o (by decide), sI_s, upd_s]
          · show (sI (sI (sI _ 32 c1 _) 33 c1 _) 100 31 _).1 100 31 = _
            rw [sI_s, upd_s]
          · exact (((hfr.sI (Or.inr (Or.inr rfl))).sI (Or.inl rfl)).sI (Or.inr (Or.inl rfl))).sI (Or.inr (Or.inr rfl))
          · intro q a b
            show (sI (sI (sI _ 32 c1 _) 33 c1 _) 100 31 _).1 100 q = _
            rw [sI_s, upd_o a, sI_o (by decide), sI_o (by decide), sI_s, upd_o b]
            exact h100 q a b
          · intro j hj
            show (sI (sI (sI _ 32 c1 _) 33 c1 _) 100 31 _).1 32 j = _ ∧ (sI (sI (sI _ 32 c1 _) 33 c1 _) 100 31 _).1 33 j = _
            rw [sI_o (by decide), sI_o (by decide), sI_s, upd_o (by omega), sI_o (by decide), sI_o (by decide), sI_s, upd_o (by omega), sI_o (by decide), sI_o (by decide)]
            exact hlo j (by omega)
          · rw [show c1 + 1 - cd = (c1 - cd) + 1 by omega]
            refine mEv_snoc _ _ _ (LE1 v) (mEv_ext _ _ _ _ (fun j a b => ?_) (hev v)) ?_
            · show (sI (sI (sI _ 32 c1 _) 33 c1 _) 100 31 _).1 32 j = _ ∧ (sI (sI (sI _ 32 c1 _) 33 c1 _) 100 31 _).1 33 j = _
              rw [sI_o (by decide), sI_o (by decide), sI_s, upd_o (by omega), sI_o (by decide), sI_o (by decide), sI_s, upd_o (by omega), sI_o (by decide), sI_o (by decide)]
              exact ⟨rfl, rfl⟩
            · rw [show cd + (c1 - cd) = c1 by omega]
              refine mEv_op (by decide) ?_ (by rw [hlen v]; show 2 ≤ (1 + nz o1) + 1; omega)
              show (sI (sI (sI _ 32 c1 _) 33 c1 _) 100 31 _).1 32 c1 = _
              rw [sI_o (by decide), sI_o (by decide), sI_s, upd_s]
          · have hl2 : (LE1 v).length = (1 + nz o1) + 1 := hlen v
            have := apL_len [7] (LE1 v) (by rw [hl2]; simp)
            simp at this
            omega
          · rw [hA v]
            exact apL_cons (by have hl2 : (LE1 v).length = (1 + nz o1) + 1 := hlen v; omega)
        · refine r_aload0 (pc := 7) C dX9_comesOut_7 ?_
          refine gX9_83 (pc := 8) C dX9_comesOut_8 ?_
          refine r_aload0 (pc := 11) C dX9_comesOut_11 ?_
          refine gX9_308 (pc := 12) C dX9_comesOut_12 ?_
          refine r_eqi (y := nI (o1.length + 1)) hw1 ?_
          refine r_iconst (pc := 15) (v := nI 1) C dX9_comesOut_15 (by decide) ?_
          refine r_isub (pc := 16) C dX9_comesOut_16 ?_
          refine r_eqi (y := nI o1.length) (pk_sub (a := o1.length + 1) (b := 1) (by omega)) ?_
          refine r_iald (pc := 17) (_) C dX9_comesOut_17 aM34 (rfl) (by omega) ?_
          refine r_eqi (y := nI 8) hpp.2 ?_
          refine r_bipush (pc := 18) (v := nI 6) C dX9_comesOut_18 (by decide) ?_
          refine r_icmp_eq (pc := 20) 92 C dX9_comesOut_20 (by decide) (fun c20 => ?_) (fun c20 => ?_)
          · exact absurd c20 (by decide)
          refine r_iload1 (pc := 23) C dX9_comesOut_23 ?_
          refine r_if_eq (pc := 24) 43 C dX9_comesOut_24 (by decide) (fun c24 => ?_) (fun c24 => ?_)
          · exact absurd c24 (by decide)
          refine r_aload0 (pc := 27) C dX9_comesOut_27 ?_
          refine gX9_83 (pc := 28) C dX9_comesOut_28 ?_
          refine r_aload0 (pc := 31) C dX9_comesOut_31 ?_
          refine gX9_308 (pc := 32) C dX9_comesOut_32 ?_
          refine r_eqi (y := nI (o1.length + 1)) hw1 ?_
          refine r_iconst (pc := 35) (v := nI 1) C dX9_comesOut_35 (by decide) ?_
          refine r_isub (pc := 36) C dX9_comesOut_36 ?_
          refine r_eqi (y := nI o1.length) (pk_sub (a := o1.length + 1) (b := 1) (by omega)) ?_
          refine r_iald (pc := 37) (_) C dX9_comesOut_37 aM34 (rfl) (by omega) ?_
          refine r_eqi (y := nI 8) hpp.2 ?_
          refine r_bipush (pc := 38) (v := nI 10) C dX9_comesOut_38 (by decide) ?_
          refine r_icmp_ne (pc := 40) 92 C dX9_comesOut_40 (by decide) (fun c40 => ?_) (fun c40 => ?_)
          rotate_left
          · exact absurd c40 (by decide)
          exact r_return (pc := 92) C dX9_comesOut_92 (done1 (by rfl) (by rfl))
        · refine r_aload0 (pc := 7) C dX9_comesOut_7 ?_
          refine gX9_83 (pc := 8) C dX9_comesOut_8 ?_
          refine r_aload0 (pc := 11) C dX9_comesOut_11 ?_
          refine gX9_308 (pc := 12) C dX9_comesOut_12 ?_
          refine r_eqi (y := nI (o1.length + 1)) hw1 ?_
          refine r_iconst (pc := 15) (v := nI 1) C dX9_comesOut_15 (by decide) ?_
          refine r_isub (pc := 16) C dX9_comesOut_16 ?_
          refine r_eqi (y := nI o1.length) (pk_sub (a := o1.length + 1) (b := 1) (by omega)) ?_
          refine r_iald (pc := 17) (_) C dX9_comesOut_17 aM34 (rfl) (by omega) ?_
          refine r_eqi (y := nI 9) hpp.2 ?_
          refine r_bipush (pc := 18) (v := nI 6) C dX9_comesOut_18 (by decide) ?_
          refine r_icmp_eq (pc := 20) 92 C dX9_comesOut_20 (by decide) (fun c20 => ?_) (fun c20 => ?_)
          · exact absurd c20 (by decide)
          refine r_iload1 (pc := 23) C dX9_comesOut_23 ?_
          refine r_if_eq (pc := 24) 43 C dX9_comesOut_24 (by decide) (fun c24 => ?_) (fun c24 => ?_)
          rotate_left
          · exact absurd c24 (fun h => h rfl)
          refine r_aload0 (pc := 43) C dX9_comesOut_43 ?_
          refine r_dup (pc := 44) C dX9_comesOut_44 rfl ?_
          refine gX9_308 (pc := 45) C dX9_comesOut_45 ?_
          refine r_eqi (y := nI (o1.length + 1)) hw1 ?_
          refine r_iconst (pc := 48) (v := nI 1) C dX9_comesOut_48 (by decide) ?_
          refine r_isub (pc := 49) C dX9_comesOut_49 ?_
          refine r_eqi (y := nI o1.length) (pk_sub (a := o1.length + 1) (b := 1) (by omega)) ?_
          refine pX9_308 (pc := 50) C dX9_comesOut_50 ?_
          refine r_aload0 (pc := 53) C dX9_comesOut_53 ?_
          refine gX9_83 (pc := 54) C dX9_comesOut_54 ?_
          refine r_aload0 (pc := 57) C dX9_comesOut_57 ?_
          refine gX9_308 (pc := 58) C dX9_comesOut_58 ?_
          refine r_eqi (y := nI o1.length) (by rw [sI_s, upd_s]) ?_
          refine r_iald (pc := 61) (_) C dX9_comesOut_61 aM34 (rfl) (by omega) ?_
          refine r_eqi (y := nI 9) (by rw [sI_o (by decide)]; exact hpp.2) ?_
          refine r_istore2 (pc := 62) C dX9_comesOut_62 rfl ?_
          refine r_aload0 (pc := 63) C dX9_comesOut_63 ?_
          refine r_iload2 (pc := 64) C dX9_comesOut_64 ?_
          refine r_bipush (pc := 65) (v := nI 8) C dX9_comesOut_65 (by decide) ?_
          refine r_icmp_ne (pc := 67) 74 C dX9_comesOut_67 (by decide) (fun c67 => ?_) (fun c67 => ?_)
          rotate_left
          · exact absurd c67 (by decide)
          refine r_iload2 (pc := 74) C dX9_comesOut_74 ?_
          refine r_bipush (pc := 75) (v := nI 9) C dX9_comesOut_75 (by decide) ?_
          refine r_icmp_ne (pc := 77) 84 C dX9_comesOut_77 (by decide) (fun c77 => ?_) (fun c77 => ?_)
          · exact absurd c77 (fun h => h rfl)
          refine r_iconst (pc := 80) (v := nI 3) C dX9_comesOut_80 (by decide) ?_
          refine r_goto (pc := 81) 85 C dX9_comesOut_81 (by decide) ?_
          refine r_iconst (pc := 85) (v := nI 0) C dX9_comesOut_85 (by decide) ?_
          refine r_callVv (pc := 86) C rfl dX9_comesOut_86 kX9_311 gF9 jM (tX9_emit Z.1 C.w (c := c1) (by rw [sI_s, upd_o (by decide)]; exact hc1) (by simp at hcb; omega)) rfl rfl (Nat.le_of_ble_eq_true rfl) (by decide) (fun G86 h86 => ?_)
          subst h86
          refine r_goto (pc := 89) 0 C dX9_comesOut_89 (by decide) ?_
          refine ih o1.length (by rw [hk0]; simp) o1 (c1 + 1) (fun v => apL [8] (LE1 v)) _ _ rfl (fun y hy => ho1 y (List.mem_cons_of_mem _ hy)) (hT.trans ?_) (hD.trans ?_) (by omega) ?_ hpp.1 ?_ (by simp at hcb; omega) (by omega) ?_ ?_ ?_ (fun v => ?_) (fun v => ?_) (fun v => ?_)
          · rw [show ((8 : Nat) :: o1).takeWhile (popP false) = 8 :: o1.takeWhile (popP false) from rfl]; simp; omega
          · rfl
          · show (sI (sI (sI _ 32 c1 _) 33 c1 _) 100 31 _).1 100 35 = _
            rw [sI_s, upd_o (by decide), sI_o (by decide), sI_o (by decide), sI_s, upd_s]
          · show (sI (sI (sI _ 32 c1 _) 33 c1 _) 100 31 _).1 100 31 = _
            rw [sI_s, upd_s]
          · exact (((hfr.sI (Or.inr (Or.inr rfl))).sI (Or.inl rfl)).sI (Or.inr (Or.inl rfl))).sI (Or.inr (Or.inr rfl))
          · intro q a b
            show (sI (sI (sI _ 32 c1 _) 33 c1 _) 100 31 _).1 100 q = _
            rw [sI_s, upd_o a, sI_o (by decide), sI_o (by decide), sI_s, upd_o b]
            exact h100 q a b
          · intro j hj
            show (sI (sI (sI _ 32 c1 _) 33 c1 _) 100 31 _).1 32 j = _ ∧ (sI (sI (sI _ 32 c1 _) 33 c1 _) 100 31 _).1 33 j = _
            rw [sI_o (by decide), sI_o (by decide), sI_s, upd_o (by omega), sI_o (by decide), sI_o (by decide), sI_s, upd_o (by omega), sI_o (by decide), sI_o (by decide)]
            exact hlo j (by omega)
          · rw [show c1 + 1 - cd = (c1 - cd) + 1 by omega]
            refine mEv_snoc _ _ _ (LE1 v) (mEv_ext _ _ _ _ (fun j a b => ?_) (hev v)) ?_
            · show (sI (sI (sI _ 32 c1 _) 33 c1 _) 100 31 _).1 32 j = _ ∧ (sI (sI (sI _ 32 c1 _) 33 c1 _) 100 31 _).1 33 j = _
              rw [sI_o (by decide), sI_o (by decide), sI_s, upd_o (by omega), sI_o (by decide), sI_o (by decide), sI_s, upd_o (by omega), sI_o (by decide), sI_o (by decide)]
              exact ⟨rfl, rfl⟩
            · rw [show cd + (c1 - cd) = c1 by omega]
              refine mEv_op (by decide) ?_ (by rw [hlen v]; show 2 ≤ (1 + nz o1) + 1; omega)
              show (sI (sI (sI _ 32 c1 _) 33 c1 _) 100 31 _).1 32 c1 = _
              rw [sI_o (by decide), sI_o (by decide), sI_s, upd_s]
          · have hl2 : (LE1 v).length = (1 + nz o1) + 1 := hlen v
            have := apL_len [8] (LE1 v) (by rw [hl2]; simp)
            simp at this
            omega
          · rw [hA v]
            exact apL_cons (by have hl2 : (LE1 v).length = (1 + nz o1) + 1 := hlen v; omega)
        · refine r_aload0 (pc := 7) C dX9_comesOut_7 ?_
          refine gX9_83 (pc := 8) C dX9_comesOut_8 ?_
          refine r_aload0 (pc := 11) C dX9_comesOut_11 ?_
          refine gX9_308 (pc := 12) C dX9_comesOut_12 ?_
          refine r_eqi (y := nI (o1.length + 1)) hw1 ?_
          refine r_iconst (pc := 15) (v := nI 1) C dX9_comesOut_15 (by decide) ?_
          refine r_isub (pc := 16) C dX9_comesOut_16 ?_
          refine r_eqi (y := nI o1.length) (pk_sub (a := o1.length + 1) (b := 1) (by omega)) ?_
          refine r_iald (pc := 17) (_) C dX9_comesOut_17 aM34 (rfl) (by omega) ?_
          refine r_eqi (y := nI 9) hpp.2 ?_
          refine r_bipush (pc := 18) (v := nI 6) C dX9_comesOut_18 (by decide) ?_
          refine r_icmp_eq (pc := 20) 92 C dX9_comesOut_20 (by decide) (fun c20 => ?_) (fun c20 => ?_)
          · exact absurd c20 (by decide)
          refine r_iload1 (pc := 23) C dX9_comesOut_23 ?_
          refine r_if_eq (pc := 24) 43 C dX9_comesOut_24 (by decide) (fun c24 => ?_) (fun c24 => ?_)
          · exact absurd c24 (by decide)
          refine r_aload0 (pc := 27) C dX9_comesOut_27 ?_
          refine gX9_83 (pc := 28) C dX9_comesOut_28 ?_
          refine r_aload0 (pc := 31) C dX9_comesOut_31 ?_
          refine gX9_308 (pc := 32) C dX9_comesOut_32 ?_
          refine r_eqi (y := nI (o1.length + 1)) hw1 ?_
          refine r_iconst (pc := 35) (v := nI 1) C dX9_comesOut_35 (by decide) ?_
          refine r_isub (pc := 36) C dX9_comesOut_36 ?_
          refine r_eqi (y := nI o1.length) (pk_sub (a := o1.length + 1) (b := 1) (by omega)) ?_
          refine r_iald (pc := 37) (_) C dX9_comesOut_37 aM34 (rfl) (by omega) ?_
          refine r_eqi (y := nI 9) hpp.2 ?_
          refine r_bipush (pc := 38) (v := nI 10) C dX9_comesOut_38 (by decide) ?_
          refine r_icmp_ne (pc := 40) 92 C dX9_comesOut_40 (by decide) (fun c40 => ?_) (fun c40 => ?_)
          rotate_left
          · exact absurd c40 (by decide)
          exact r_return (pc := 92) C dX9_comesOut_92 (done1 (by rfl) (by rfl))
        · refine r_aload0 (pc := 7) C dX9_comesOut_7 ?_
          refine gX9_83 (pc := 8) C dX9_comesOut_8 ?_
          refine r_aload0 (pc := 11) C dX9_comesOut_11 ?_
          refine gX9_308 (pc := 12) C dX9_comesOut_12 ?_
          refine r_eqi (y := nI (o1.length + 1)) hw1 ?_
          refine r_iconst (pc := 15) (v := nI 1) C dX9_comesOut_15 (by decide) ?_
          refine r_isub (pc := 16) C dX9_comesOut_16 ?_
          refine r_eqi (y := nI o1.length) (pk_sub (a := o1.length + 1) (b := 1) (by omega)) ?_
          refine r_iald (pc := 17) (_) C dX9_comesOut_17 aM34 (rfl) (by omega) ?_
          refine r_eqi (y := nI 10) hpp.2 ?_
          refine r_bipush (pc := 18) (v := nI 6) C dX9_comesOut_18 (by decide) ?_
          refine r_icmp_eq (pc := 20) 92 C dX9_comesOut_20 (by decide) (fun c20 => ?_) (fun c20 => ?_)
          · exact absurd c20 (by decide)
          refine r_iload1 (pc := 23) C dX9_comesOut_23 ?_
          refine r_if_eq (pc := 24) 43 C dX9_comesOut_24 (by decide) (fun c24 => ?_) (fun c24 => ?_)
          rotate_left
          · exact absurd c24 (fun h => h rfl)
          refine r_aload0 (pc := 43) C dX9_comesOut_43 ?_
          refine r_dup (pc := 44) C dX9_comesOut_44 rfl ?_
          refine gX9_308 (pc := 45) C dX9_comesOut_45 ?_
          refine r_eqi (y := nI (o1.length + 1)) hw1 ?_
          refine r_iconst (pc := 48) (v := nI 1) C dX9_comesOut_48 (by decide) ?_
          refine r_isub (pc := 49) C dX9_comesOut_49 ?_
          refine r_eqi (y := nI o1.length) (pk_sub (a := o1.length + 1) (b := 1) (by omega)) ?_
          refine pX9_308 (pc := 50) C dX9_comesOut_50 ?_
          refine r_aload0 (pc := 53) C dX9_comesOut_53 ?_
          refine gX9_83 (pc := 54) C dX9_comesOut_54 ?_
          refine r_aload0 (pc := 57) C dX9_comesOut_57 ?_
          refine gX9_308 (pc := 58) C dX9_comesOut_58 ?_
          refine r_eqi (y := nI o1.length) (by rw [sI_s, upd_s]) ?_
          refine r_iald (pc := 61) (_) C dX9_comesOut_61 aM34 (rfl) (by omega) ?_
          refine r_eqi (y := nI 10) (by rw [sI_o (by decide)]; exact hpp.2) ?_
          refine r_istore2 (pc := 62) C dX9_comesOut_62 rfl ?_
          refine r_aload0 (pc := 63) C dX9_comesOut_63 ?_
          refine r_iload2 (pc := 64) C dX9_comesOut_64 ?_
          refine r_bipush (pc := 65) (v := nI 8) C dX9_comesOut_65 (by decide) ?_
          refine r_icmp_ne (pc := 67) 74 C dX9_comesOut_67 (by decide) (fun c67 => ?_) (fun c67 => ?_)
          rotate_left
          · exact absurd c67 (by decide)
          refine r_iload2 (pc := 74) C dX9_comesOut_74 ?_
          refine r_bipush (pc := 75) (v := nI 9) C dX9_comesOut_75 (by decide) ?_
          refine r_icmp_ne (pc := 77) 84 C dX9_comesOut_77 (by decide) (fun c77 => ?_) (fun c77 => ?_)
          rotate_left
          · exact absurd c77 (by decide)
          refine r_iconst (pc := 84) (v := nI 4) C dX9_comesOut_84 (by decide) ?_
          refine r_iconst (pc := 85) (v := nI 0) C dX9_comesOut_85 (by decide) ?_
          refine r_callVv (pc := 86) C rfl dX9_comesOut_86 kX9_311 gF9 jM (tX9_emit Z.1 C.w (c := c1) (by rw [sI_s, upd_o (by decide)]; exact hc1) (by simp at hcb; omega)) rfl rfl (Nat.le_of_ble_eq_true rfl) (by decide) (fun G86 h86 => ?_)
          subst h86
          refine r_goto (pc := 89) 0 C dX9_comesOut_89 (by decide) ?_
          refine ih o1.length (by rw [hk0]; simp) o1 (c1 + 1) (fun v => apL [9] (LE1 v)) _ _ rfl (fun y hy => ho1 y (List.mem_cons_of_mem _ hy)) (hT.trans ?_) (hD.trans ?_) (by omega) ?_ hpp.1 ?_ (by simp at hcb; omega) (by omega) ?_ ?_ ?_ (fun v => ?_) (fun v => ?_) (fun v => ?_)
          · rw [show ((9 : Nat) :: o1).takeWhile (popP false) = 9 :: o1.takeWhile (popP false) from rfl]; simp; omega
          · rfl
          · show (sI (sI (sI _ 32 c1 _) 33 c1 _) 100 31 _).1 100 35 = _
            rw [sI_s, upd_o (by decide), sI_o (by decide), sI_o (by decide), sI_s, upd_s]
          · show (sI (sI (sI _ 32 c1 _) 33 c1 _) 100 31 _).1 100 31 = _
            rw [sI_s, upd_s]
          · exact (((hfr.sI (Or.inr (Or.inr rfl))).sI (Or.inl rfl)).sI (Or.inr (Or.inl rfl))).sI (Or.inr (Or.inr rfl))
          · intro q a b
            show (sI (sI (sI _ 32 c1 _) 33 c1 _) 100 31 _).1 100 q = _
            rw [sI_s, upd_o a, sI_o (by decide), sI_o (by decide), sI_s, upd_o b]
            exact h100 q a b
          · intro j hj
            show (sI (sI (sI _ 32 c1 _) 33 c1 _) 100 31 _).1 32 j = _ ∧ (sI (sI (sI _ 32 c1 _) 33 c1 _) 100 31 _).1 33 j = _
            rw [sI_o (by decide), sI_o (by decide), sI_s, upd_o (by omega), sI_o (by decide), sI_o (by decide), sI_s, upd_o (by omega), sI_o (by decide), sI_o (by decide)]
            exact hlo j (by omega)
          · rw [show c1 + 1 - cd = (c1 - cd) + 1 by omega]
            refine mEv_snoc _ _ _ (LE1 v) (mEv_ext _ _ _ _ (fun j a b => ?_) (hev v)) ?_
            · show (sI (sI (sI _ 32 c1 _) 33 c1 _) 100 31 _).1 32 j = _ ∧ (sI (sI (sI _ 32 c1 _) 33 c1 _) 100 31 _).1 33 j = _
              rw [sI_o (by decide), sI_o (by decide), sI_s, upd_o (by omega), sI_o (by decide), sI_o (by decide), sI_s, upd_o (by omega), sI_o (by decide), sI_o (by decide)]
              exact ⟨rfl, rfl⟩
            · rw [show cd + (c1 - cd) = c1 by omega]
              refine mEv_op (by decide) ?_ (by rw [hlen v]; show 2 ≤ (1 + nz o1) + 1; omega)
              show (sI (sI (sI _ 32 c1 _) 33 c1 _) 100 31 _).1 32 c1 = _
              rw [sI_o (by decide), sI_o (by decide), sI_s, upd_s]
          · have hl2 : (LE1 v).length = (1 + nz o1) + 1 := hlen v
            have := apL_len [9] (LE1 v) (by rw [hl2]; simp)
            simp at this
            omega
          · rw [hA v]
            exact apL_cons (by have hl2 : (LE1 v).length = (1 + nz o1) + 1 := hlen v; omega)
        · refine r_aload0 (pc := 7) C dX9_comesOut_7 ?_
          refine gX9_83 (pc := 8) C dX9_comesOut_8 ?_
          refine r_aload0 (pc := 11) C dX9_comesOut_11 ?_
          refine gX9_308 (pc := 12) C dX9_comesOut_12 ?_
          refine r_eqi (y := nI (o1.length + 1)) hw1 ?_
          refine r_iconst (pc := 15) (v := nI 1) C dX9_comesOut_15 (by decide) ?_
          refine r_isub (pc := 16) C dX9_comesOut_16 ?_
          refine r_eqi (y := nI o1.length) (pk_sub (a := o1.length + 1) (b := 1) (by omega)) ?_
          refine r_iald (pc := 17) (_) C dX9_comesOut_17 aM34 (rfl) (by omega) ?_
          refine r_eqi (y := nI 10) hpp.2 ?_
          refine r_bipush (pc := 18) (v := nI 6) C dX9_comesOut_18 (by decide) ?_
          refine r_icmp_eq (pc := 20) 92 C dX9_comesOut_20 (by decide) (fun c20 => ?_) (fun c20 => ?_)
          · exact absurd c20 (by decide)
          refine r_iload1 (pc := 23) C dX9_comesOut_23 ?_
          refine r_if_eq (pc := 24) 43 C dX9_comesOut_24 (by decide) (fun c24 => ?_) (fun c24 => ?_)
          · exact absurd c24 (by decide)
          refine r_aload0 (pc := 27) C dX9_comesOut_27 ?_
          refine gX9_83 (pc := 28) C dX9_comesOut_28 ?_
          refine r_aload0 (pc := 31) C dX9_comesOut_31 ?_
          refine gX9_308 (pc := 32) C dX9_comesOut_32 ?_
          refine r_eqi (y := nI (o1.length + 1)) hw1 ?_
          refine r_iconst (pc := 35) (v := nI 1) C dX9_comesOut_35 (by decide) ?_
          refine r_isub (pc := 36) C dX9_comesOut_36 ?_
          refine r_eqi (y := nI o1.length) (pk_sub (a := o1.length + 1) (b := 1) (by omega)) ?_
          refine r_iald (pc := 37) (_) C dX9_comesOut_37 aM34 (rfl) (by omega) ?_
          refine r_eqi (y := nI 10) hpp.2 ?_
          refine r_bipush (pc := 38) (v := nI 10) C dX9_comesOut_38 (by decide) ?_
          refine r_icmp_ne (pc := 40) 92 C dX9_comesOut_40 (by decide) (fun c40 => ?_) (fun c40 => ?_)
          · exact absurd c40 (fun h => h rfl)
          refine r_aload0 (pc := 43) C dX9_comesOut_43 ?_
          refine r_dup (pc := 44) C dX9_comesOut_44 rfl ?_
          refine gX9_308 (pc := 45) C dX9_comesOut_45 ?_
          refine r_eqi (y := nI (o1.length + 1)) hw1 ?_
          refine r_iconst (pc := 48) (v := nI 1) C dX9_comesOut_48 (by decide) ?_
          refine r_isub (pc := 49) C dX9_comesOut_49 ?_
          refine r_eqi (y := nI o1.length) (pk_sub (a := o1.length + 1) (b := 1) (by omega)) ?_
          refine pX9_308 (pc := 50) C dX9_comesOut_50 ?_
          refine r_aload0 (pc := 53) C dX9_comesOut_53 ?_
          refine gX9_83 (pc := 54) C dX9_comesOut_54 ?_
          refine r_aload0 (pc := 57) C dX9_comesOut_57 ?_
          refine gX9_308 (pc := 58) C dX9_comesOut_58 ?_
          refine r_eqi (y := nI o1.length) (by rw [sI_s, upd_s]) ?_
          refine r_iald (pc := 61) (_) C dX9_comesOut_61 aM34 (rfl) (by omega) ?_
          refine r_eqi (y := nI 10) (by rw [sI_o (by decide)]; exact hpp.2) ?_
          refine r_istore2 (pc := 62) C dX9_comesOut_62 rfl ?_
          refine r_aload0 (pc := 63) C dX9_comesOut_63 ?_
          refine r_iload2 (pc := 64) C dX9_comesOut_64 ?_
          refine r_bipush (pc := 65) (v := nI 8) C dX9_comesOut_65 (by decide) ?_
          refine r_icmp_ne (pc := 67) 74 C dX9_comesOut_67 (by decide) (fun c67 => ?_) (fun c67 => ?_)
          rotate_left
          · exact absurd c67 (by decide)
          refine r_iload2 (pc := 74) C dX9_comesOut_74 ?_
          refine r_bipush (pc := 75) (v := nI 9) C dX9_comesOut_75 (by decide) ?_
          refine r_icmp_ne (pc := 77) 84 C dX9_comesOut_77 (by decide) (fun c77 => ?_) (fun c77 => ?_)
          rotate_left
          · exact absurd c77 (by decide)
          refine r_iconst (pc := 84) (v := nI 4) C dX9_comesOut_84 (by decide) ?_
          refine r_iconst (pc := 85) (v := nI 0) C dX9_comesOut_85 (by decide) ?_
          refine r_callVv (pc := 86) C rfl dX9_comesOut_86 kX9_311 gF9 jM (tX9_emit Z.1 C.w (c := c1) (by rw [sI_s, upd_o (by decide)]; exact hc1) (by simp at hcb; omega)) rfl rfl (Nat.le_of_ble_eq_true rfl) (by decide) (fun G86 h86 => ?_)
          subst h86
          refine r_goto (pc := 89) 0 C dX9_comesOut_89 (by decide) ?_
          refine ih o1.length (by rw [hk0]; simp) o1 (c1 + 1) (fun v => apL [9] (LE1 v)) _ _ rfl (fun y hy => ho1 y (List.mem_cons_of_mem _ hy)) (hT.trans ?_) (hD.trans ?_) (by omega) ?_ hpp.1 ?_ (by simp at hcb; omega) (by omega) ?_ ?_ ?_ (fun v => ?_) (fun v => ?_) (fun v => ?_)
          · rw [show ((9 : Nat) :: o1).takeWhile (popP true) = 9 :: o1.takeWhile (popP true) from rfl]; simp; omega
          · rfl
          · show (sI (sI (sI _ 32 c1 _) 33 c1 _) 100 31 _).1 100 35 = _
            rw [sI_s, upd_o (by decide), sI_o (by decide), sI_o (by decide), sI_s, upd_s]
          · show (sI (sI (sI _ 32 c1 _) 33 c1 _) 100 31 _).1 100 31 = _
            rw [sI_s, upd_s]
          · exact (((hfr.sI (Or.inr (Or.inr rfl))).sI (Or.inl rfl)).sI (Or.inr (Or.inl rfl))).sI (Or.inr (Or.inr rfl))
          · intro q a b
            show (sI (sI (sI _ 32 c1 _) 33 c1 _) 100 31 _).1 100 q = _
            rw [sI_s, upd_o a, sI_o (by decide), sI_o (by decide), sI_s, upd_o b]
            exact h100 q a b
          · intro j hj
            show (sI (sI (sI _ 32 c1 _) 33 c1 _) 100 31 _).1 32 j = _ ∧ (sI (sI (sI _ 32 c1 _) 33 c1 _) 100 31 _).1 33 j = _
            rw [sI_o (by decide), sI_o (by decide), sI_s, upd_o (by omega), sI_o (by decide), sI_o (by decide), sI_s, upd_o (by omega), sI_o (by decide), sI_o (by decide)]
            exact hlo j (by omega)
          · rw [show c1 + 1 - cd = (c1 - cd) + 1 by omega]
            refine mEv_snoc _ _ _ (LE1 v) (mEv_ext _ _ _ _ (fun j a b => ?_) (hev v)) ?_
            · show (sI (sI (sI _ 32 c1 _) 33 c1 _) 100 31 _).1 32 j = _ ∧ (sI (sI (sI _ 32 c1 _) 33 c1 _) 100 31 _).1 33 j = _
              rw [sI_o (by decide), sI_o (by decide), sI_s, upd_o (by omega), sI_o (by decide), sI_o (by decide), sI_s, upd_o (by omega), sI_o (by decide), sI_o (by decide)]
              exact ⟨rfl, rfl⟩
            · rw [show cd + (c1 - cd) = c1 by omega]
              refine mEv_op (by decide) ?_ (by rw [hlen v]; show 2 ≤ (1 + nz o1) + 1; omega)
              show (sI (sI (sI _ 32 c1 _) 33 c1 _) 100 31 _).1 32 c1 = _
              rw [sI_o (by decide), sI_o (by decide), sI_s, upd_s]
          · have hl2 : (LE1 v).length = (1 + nz o1) + 1 := hlen v
            have := apL_len [9] (LE1 v) (by rw [hl2]; simp)
            simp at this
            omega
          · rw [hA v]
            exact apL_cons (by have hl2 : (LE1 v).length = (1 + nz o1) + 1 := hlen v; omega)
  exact loop _ ops c LE none G rfl ho rfl rfl (Nat.le_refl _) hw hws hc hcb h48 Fr.refl (fun _ _ _ => rfl) (fun _ _ => ⟨rfl, rfl⟩) hev hlen (fun _ => rfl)
