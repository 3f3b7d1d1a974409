def RD (G : gS) (j : Nat) (b : Bool) (s : pS) : Prop := G.1 3 4 = nI s.1 ∧ G.1 3 5 = nI s.2.1 ∧ G.1 3 6 = bI s.2.2.1 ∧ G.1 3 7 = s.2.2.2.1 ∧ G.1 3 2 = nI s.2.2.2.2.1.length ∧ opR (G.1 4) s.2.2.2.2.1 ∧ RS G j b s.2.2.2.2.2
/-- the roles that reading changes -/
def sT (j q : Nat) : Prop := q = 3 ∨ q = 4 ∨ q = 5 ∨ q = 40 + j ∨ q = 50 + j ∨ q = 60 + j ∨ q = 70 + j ∨ q = 80 + j ∨ q = 90 + j
/-- the same but the scanner's own row -/
def sU (j q : Nat) : Prop := q = 3 ∨ q = 4 ∨ q = 40 + j ∨ q = 50 + j ∨ q = 60 + j ∨ q = 70 + j ∨ q = 80 + j ∨ q = 90 + j
theorem takeS_11 {o : Nat} {rel : Bool} {fw v : Int32} {ops : List Nat} {r : pR} {rs : List pR} {a : Nat} : takeS (6, o, rel, fw, ops, r :: rs) 11 v a = (6, o - 1, rel, fw, (edn 1 ops r.2.2).1.tail, (r.1, r.2.1, (edn 1 ops r.2.2).2) :: rs) := by
  rw [edn_1 1 ops r.2.2 []]; rfl
theorem takeS_12 {o : Nat} {rel : Bool} {fw v : Int32} {ops : List Nat} {r : pR} {rs : List pR} {a : Nat} : takeS (6, o, rel, fw, ops, r :: rs) 12 v a = (6, o, rel, fw, (edn 1 ops r.2.2).1, (r.1, r.2.1, (edn 1 ops r.2.2).2) :: rs) := by
  rw [edn_1 1 ops r.2.2 []]; rfl
theorem takeS_op {o so : Nat} {rel : Bool} {fw v : Int32} {ops : List Nat} {r : pR} {rs : List pR} {a : Nat} (h1 : so ≠ 11) (h2 : so ≠ 12) : takeS (6, o, rel, fw, ops, r :: rs) so v a = (6, o, decide (so = 8) || (rel && decide (so = 9)), fw, cN v :: (edn (rk (cN v)) ops r.2.2).1, (r.1, r.2.1, (edn (rk (cN v)) ops r.2.2).2) :: rs) := by
  rw [edn_1 _ ops r.2.2 []]
  show (if so = 11 then _ else if so = 12 then _ else _) = _
  rw [if_neg h1, if_neg h2]
  rfl
theorem max0 {q : Nat} (h : q < 2 ^ 31) : (if nI 0 < nI q then nI q else nI 0) = nI q := by
  rcases Nat.eq_zero_or_pos q with e | e
  · subst e; rfl
  · rw [if_pos (nI_lt e h)]
set_option maxHeartbeats 4000000 in
set_option maxRecDepth 100000 in
theorem tX3_takeNumber (Y : gY) (hY : Y.2.2.2 = wC) {G : gS} {j a : Nat} {bd v fw : Int32} {b : Bool} {r : pR} {rs : List pR} (hj : j < 3) (hrj : G.2.2 3 3 = 40 + j) (hv : G.1 5 4 = v) (ha : G.1 5 2 = nI a) (hfw : G.1 3 7 = fw) (hRS : RS G j b (r :: rs)) (hr20 : rs.length < 20) : ∀ l : Launch, gM Y l yX3_takeNumber cX3_takeNumber 2 none (1, 21) [.ref (Y.2.1 (3)), .int (bd)] G (qv (fun G' => Fr (fun q => q = 3 ∨ q = 60 + j) G G' ∧ G'.1 3 = upd (G.1 3) 7 (if ¬ v < bd ∧ fw = -1 then nI a else fw) ∧ RS G' j true ((r.1, v, r.2.2) :: rs))) := by
  intro l
  refine gM_of hY rfl (Nat.le_of_ble_eq_true rfl) [some (.ref (Y.2.1 (3))), some (.int (bd))] rfl rfl ?_
  rintro Z rfl C
  refine r_aload0 (pc := 0) C dX3_takeNumber_0 ?_
  refine gX3_31 (pc := 1) C dX3_takeNumber_1 ?_
  refine gX3_100 (pc := 4) C dX3_takeNumber_4 ?_
  refine r_eqi hv ?_
  refine r_iload1 (pc := 7) C dX3_takeNumber_7 ?_
  refine r_icmp_lt (pc := 8) 30 C dX3_takeNumber_8 (by decide) (fun c8 => ?_) (fun c8 => ?_)
  · refine r_aload0 (pc := 30) C dX3_takeNumber_30 ?_
    refine gX3_18 (pc := 31) C dX3_takeNumber_31 ?_
    refine r_eqr (y := 40 + j) hrj ?_
    refine r_aload0 (pc := 34) C dX3_takeNumber_34 ?_
    refine gX3_31 (pc := 35) C dX3_takeNumber_35 ?_
    refine gX3_100 (pc := 38) C dX3_takeNumber_38 ?_
    refine r_eqi hv ?_
    refine r_callVv (pc := 41) C rfl dX3_takeNumber_41 kX3_103 gF4 (jCr (by omega)) (tX4_setNumber Z.1 C.w (s := rs.length + 1) hj hRS.1 (by omega) (by omega)) rfl rfl (Nat.le_of_ble_eq_true rfl) (by decide) (fun G41 h41 => ?_)
    exact r_return (pc := 44) C dX3_takeNumber_44 (by
  subst h41
  refine ⟨Fr.refl.sI (Or.inr rfl), ?_, RS_num hRS hj v⟩
  rw [sI_o (by omega), if_neg (fun h => h.1 c8), upd_id hfw])
  · refine r_aload0 (pc := 11) C dX3_takeNumber_11 ?_
    refine gX3_51 (pc := 12) C dX3_takeNumber_12 ?_
    refine r_eqi hfw ?_
    refine r_iconst (pc := 15) (v := (-1)) C dX3_takeNumber_15 (by decide) ?_
    refine r_icmp_ne (pc := 16) 30 C dX3_takeNumber_16 (by decide) (fun c16 => ?_) (fun c16 => ?_)
    · refine r_aload0 (pc := 30) C dX3_takeNumber_30 ?_
      refine gX3_18 (pc := 31) C dX3_takeNumber_31 ?_
      refine r_eqr (y := 40 + j) hrj ?_
      refine r_aload0 (pc := 34) C dX3_takeNumber_34 ?_
      refine gX3_31 (pc := 35) C dX3_takeNumber_35 ?_
      refine gX3_100 (pc := 38) C dX3_takeNumber_38 ?_
      refine r_eqi hv ?_
      refine r_callVv (pc := 41) C rfl dX3_takeNumber_41 kX3_103 gF4 (jCr (by omega)) (tX4_setNumber Z.1 C.w (s := rs.length + 1) hj hRS.1 (by omega) (by omega)) rfl rfl (Nat.le_of_ble_eq_true rfl) (by decide) (fun G41 h41 => ?_)
      exact r_return (pc := 44) C dX3_takeNumber_44 (by
  subst h41
  refine ⟨Fr.refl.sI (Or.inr rfl), ?_, RS_num hRS hj v⟩
  rw [sI_o (by omega), if_neg (fun h => c16 h.2), upd_id hfw])
    · refine r_aload0 (pc := 19) C dX3_takeNumber_19 ?_
      refine r_aload0 (pc := 20) C dX3_takeNumber_20 ?_
      refine gX3_31 (pc := 21) C dX3_takeNumber_21 ?_
      refine gX3_48 (pc := 24) C dX3_takeNumber_24 ?_
      refine r_eqi ha ?_
      refine pX3_51 (pc := 27) C dX3_takeNumber_27 ?_
      refine r_aload0 (pc := 30) C dX3_takeNumber_30 ?_
      refine gX3_18 (pc := 31) C dX3_takeNumber_31 ?_
      refine r_eqr (y := 40 + j) hrj ?_
      refine r_aload0 (pc := 34) C dX3_takeNumber_34 ?_
      refine gX3_31 (pc := 35) C dX3_takeNumber_35 ?_
      refine gX3_100 (pc := 38) C dX3_takeNumber_38 ?_
      refine r_eqi (y := v) (by rw [sI_o (by decide)]; exact hv) ?_
      refine r_callVv (pc := 41) C rfl dX3_takeNumber_41 kX3_103 gF4 (jCr (by omega)) (tX4_setNumber Z.1 C.w (s := rs.length + 1) hj (by rw [sI_o (by omega)]; exact hRS.1) (by omega) (by omega)) rfl rfl (Nat.le_of_ble_eq_true rfl) (by decide) (fun G41 h41 => ?_)
      exact r_return (pc := 44) C dX3_takeNumber_44 (by
  subst h41
  refine ⟨(Fr.refl.sI (Or.inl rfl)).sI (Or.inr rfl), ?_, RS_num (hRS.fr (S := fun q => q = 3) (Fr.refl.sI rfl) (by omega) (by omega) (by omega) (by omega) (by omega) (by omega)) hj v⟩
  rw [sI_o (by omega), sI_s, if_pos ⟨c8, c16⟩])
set_option maxHeartbeats 4000000 in
set_option maxRecDepth 100000 in
theorem tX3_takeUnit (Y : gY) (hY : Y.2.2.2 = wC) {G : gS} {j so a o : Nat} {rel b : Bool} {fw v : Int32} {ops : List Nat} {r : pR} {rs : List pR} (hj : j < 3) (hrj : G.2.2 3 3 = 40 + j) (hso : G.1 5 3 = nI so) (hso2 : so ≤ 12) (hv : G.1 5 4 = v) (hD : RD G j b (5, o, rel, fw, ops, r :: rs)) (ho6 : o ≤ 6) (hr20 : rs.length < 20) (hlen : lenC (r :: rs) < 400) (h32 : ops.length < 32) : ∀ l : Launch, gM Y l yX3_takeUnit cX3_takeUnit 1 none (1, 21) [.ref (Y.2.1 (3))] G (qv (fun G' => Fr (sU j) G G' ∧ RD G' j b (takeS (5, o, rel, fw, ops, r :: rs) so v a))) := by
  intro l
  refine gM_of hY rfl (Nat.le_of_ble_eq_true rfl) [some (.ref (Y.2.1 (3)))] rfl rfl ?_
  rintro Z rfl C
  refine r_aload0 (pc := 0) C dX3_takeUnit_0 ?_
  refine gX3_31 (pc := 1) C dX3_takeUnit_1 ?_
  refine gX3_41 (pc := 4) C dX3_takeUnit_4 ?_
  refine r_eqi hso ?_
  refine r_bipush (pc := 7) (v := nI 10) C dX3_takeUnit_7 (by decide) ?_
  refine r_icmp_ne (pc := 9) 30 C dX3_takeUnit_9 (by decide) (fun c9 => ?_) (fun c9 => ?_)
  · have d9 : so ≠ 10 := fun e => c9 (by rw [e])
    refine r_aload0 (pc := 30) C dX3_takeUnit_30 ?_
    refine gX3_18 (pc := 31) C dX3_takeUnit_31 ?_
    refine r_eqr (y := 40 + j) hrj ?_
    refine r_aload0 (pc := 34) C dX3_takeUnit_34 ?_
    refine gX3_31 (pc := 35) C dX3_takeUnit_35 ?_
    refine gX3_41 (pc := 38) C dX3_takeUnit_38 ?_
    refine r_eqi hso ?_
    refine r_iconst (pc := 41) (v := nI 3) C dX3_takeUnit_41 (by decide) ?_
    refine r_icmp_ne (pc := 42) 60 C dX3_takeUnit_42 (by decide) (fun c42 => ?_) (fun c42 => ?_)
    · have d42 : so ≠ 3 := fun e => c42 (by rw [e])
      refine r_aload0 (pc := 60) C dX3_takeUnit_60 ?_
      refine gX3_31 (pc := 61) C dX3_takeUnit_61 ?_
      refine gX3_100 (pc := 64) C dX3_takeUnit_64 ?_
      refine r_eqi hv ?_
      refine r_callVv (pc := 67) C rfl dX3_takeUnit_67 kX3_109 gF4 (jCr (by omega)) (tX4_emit Z.1 C.w (s := rs.length + 1) (c := lenC (r :: rs)) hj hD.2.2.2.2.2.2.1 (by omega) (by omega) hD.2.2.2.2.2.2.2.1 hlen) rfl rfl (Nat.le_of_ble_eq_true rfl) (by decide) (fun G67 h67 => ?_)
      exact r_return (pc := 70) C dX3_takeUnit_70 (by
  have ht : takeS (5, o, rel, fw, ops, r :: rs) so v a = (5, o, rel, fw, ops, (r.1, r.2.1, (v) :: r.2.2) :: rs) := by
    show (if so = 10 then _ else (5, o, rel, fw, ops, (r.1, r.2.1, (if so = 3 then ((nI 16 + v) ^^^ -1) else v) :: r.2.2) :: rs)) = _
    rw [if_neg d9, if_neg d42]
  rw [ht]
  obtain ⟨q1, q2, q3, q4, q5, q6, q7⟩ := hD
  have hR2 : RS G67 j b ((r.1, r.2.1, (v) :: r.2.2) :: rs) := by rw [h67]; exact RS_emit q7 hj _
  have hF : Fr (fun q => q = 40 + j ∨ q = 80 + j ∨ q = 90 + j) G G67 := by rw [h67]; exact ((Fr.refl.sI (Or.inr (Or.inr rfl))).sI (Or.inl rfl)).sI (Or.inr (Or.inl rfl))
  refine ⟨hF.mono (fun q h => by unfold sU; omega), ?_, ?_, ?_, ?_, ?_, ?_, hR2⟩
  · rw [hF.1 3 (by omega)]; exact q1
  · rw [hF.1 3 (by omega)]; exact q2
  · rw [hF.1 3 (by omega)]; exact q3
  · rw [hF.1 3 (by omega)]; exact q4
  · rw [hF.1 3 (by omega)]; exact q5
  · rw [hF.1 4 (by omega)]; exact q6)
    · have d42 : so = 3 := (nI_eq (by omega) (by decide)).mp c42
      refine r_bipush (pc := 45) (v := nI 16) C dX3_takeUnit_45 (by decide) ?_
      refine r_aload0 (pc := 47) C dX3_takeUnit_47 ?_
      refine gX3_31 (pc := 48) C dX3_takeUnit_48 ?_
      refine gX3_100 (pc := 51) C dX3_takeUnit_51 ?_
      refine r_eqi hv ?_
      refine r_iadd (pc := 54) C dX3_takeUnit_54 ?_
      refine r_iconst (pc := 55) (v := (-1)) C dX3_takeUnit_55 (by decide) ?_
      refine r_ixor (pc := 56) C dX3_takeUnit_56 ?_
      refine r_goto (pc := 57) 67 C dX3_takeUnit_57 (by decide) ?_
      refine r_callVv (pc := 67) C rfl dX3_takeUnit_67 kX3_109 gF4 (jCr (by omega)) (tX4_emit Z.1 C.w (s := rs.length + 1) (c := lenC (r :: rs)) hj hD.2.2.2.2.2.2.1 (by omega) (by omega) hD.2.2.2.2.2.2.2.1 hlen) rfl rfl (Nat.le_of_ble_eq_true rfl) (by decide) (fun G67 h67 => ?_)
      exact r_return (pc := 70) C dX3_takeUnit_70 (by
  have ht : takeS (5, o, rel, fw, ops, r :: rs) so v a = (5, o, rel, fw, ops, (r.1, r.2.1, ((nI 16 + v) ^^^ -1) :: r.2.2) :: rs) := by
    show (if so = 10 then _ else (5, o, rel, fw, ops, (r.1, r.2.1, (if so = 3 then ((nI 16 + v) ^^^ -1) else v) :: r.2.2) :: rs)) = _
    rw [if_neg d9, if_pos d42]
  rw [ht]
  obtain ⟨q1, q2, q3, q4, q5, q6, q7⟩ := hD
  have hR2 : RS G67 j b ((r.1, r.2.1, ((nI 16 + v) ^^^ -1) :: r.2.2) :: rs) := by rw [h67]; exact RS_emit q7 hj _
  have hF : Fr (fun q => q = 40 + j ∨ q = 80 + j ∨ q = 90 + j) G G67 := by rw [h67]; exact ((Fr.refl.sI (Or.inr (Or.inr rfl))).sI (Or.inl rfl)).sI (Or.inr (Or.inl rfl))
  refine ⟨hF.mono (fun q h => by unfold sU; omega), ?_, ?_, ?_, ?_, ?_, ?_, hR2⟩
  · rw [hF.1 3 (by omega)]; exact q1
  · rw [hF.1 3 (by omega)]; exact q2
  · rw [hF.1 3 (by omega)]; exact q3
  · rw [hF.1 3 (by omega)]; exact q4
  · rw [hF.1 3 (by omega)]; exact q5
  · rw [hF.1 4 (by omega)]; exact q6)
  · have d9 : so = 10 := (nI_eq (by omega) (by decide)).mp c9
    refine r_aload0 (pc := 12) C dX3_takeUnit_12 ?_
    refine r_dup (pc := 13) C dX3_takeUnit_13 rfl ?_
    refine gX3_73 (pc := 14) C dX3_takeUnit_14 ?_
    refine r_eqi hD.2.1 ?_
    refine r_iconst (pc := 17) (v := nI 1) C dX3_takeUnit_17 (by decide) ?_
    refine r_iadd (pc := 18) C dX3_takeUnit_18 ?_
    refine r_eqi (nI_add o 1) ?_
    refine pX3_73 (pc := 19) C dX3_takeUnit_19 ?_
    refine r_aload0 (pc := 22) C dX3_takeUnit_22 ?_
    refine r_iconst (pc := 23) (v := nI 0) C dX3_takeUnit_23 (by decide) ?_
    refine r_callVv (pc := 24) C rfl dX3_takeUnit_24 kX3_106 gF3 jC3 (tX3_push Z.1 C.w (n := ops.length) hD.2.2.2.2.1 h32) rfl rfl (Nat.le_of_ble_eq_true rfl) (by decide) (fun G24 h24 => ?_)
    refine r_goto (pc := 27) 70 C dX3_takeUnit_27 (by decide) ?_
    exact r_return (pc := 70) C dX3_takeUnit_70 (by
  subst h24
  have ht : takeS (5, o, rel, fw, ops, r :: rs) so v a = (5, o + 1, rel, fw, 0 :: ops, r :: rs) := by rw [d9]; rfl
  rw [ht]
  obtain ⟨q1, q2, q3, q4, q5, q6, q7⟩ := hD
  have hF : Fr (fun q => q = 3 ∨ q = 4) G (sI (sI (sI G 3 5 (nI (o + 1))) 4 ops.length (nI 0)) 3 2 (nI (ops.length + 1))) := ((Fr.refl.sI (Or.inl rfl)).sI (Or.inr rfl)).sI (Or.inl rfl)
  refine ⟨hF.mono (fun q h => by unfold sU; omega), q1, ?_, q3, q4, rfl, ?_, q7.fr hF (by omega) (by omega) (by omega) (by omega) (by omega) (by omega)⟩
  · rfl
  · exact opR_push q6 0)
set_option maxHeartbeats 4000000 in
set_option maxRecDepth 100000 in
theorem tX3_takeBehindUnit (Y : gY) (hY : Y.2.2.2 = wC) {G : gS} {j so a o : Nat} {rel b : Bool} {fw v : Int32} {ops : List Nat} {r : pR} {rs : List pR} (hj : j < 3) (hrj : G.2.2 3 3 = 40 + j) (hso : G.1 5 3 = nI so) (hso2 : so ≤ 12) (hv : G.1 5 4 = v) (hD : RD G j b (6, o, rel, fw, ops, r :: rs)) (ho6 : o ≤ 6) (hr20 : rs.length < 20) (hst : stk o 6 ops) (hlen : lenC (r :: rs) + ops.length ≤ 400) (hop : so ≠ 11 → so ≠ 12 → v = nI (cN v) ∧ 1 ≤ cN v ∧ cN v ≤ 9) (hcl : so = 11 → 0 < o) : ∀ l : Launch, gM Y l yX3_takeBehindUnit cX3_takeBehindUnit 1 none (2, 42) [.ref (Y.2.1 (3))] G (qv (fun G' => Fr (sU j) G G' ∧ RD G' j b (takeS (6, o, rel, fw, ops, r :: rs) so v a))) := by
  intro l
  refine gM_of hY rfl (Nat.le_of_ble_eq_true rfl) [some (.ref (Y.2.1 (3)))] rfl rfl ?_
  rintro Z rfl C
  obtain ⟨q1, q2, q3, q4, q5, q6, q7⟩ := hD
  have h32 : ops.length ≤ 32 := by
    have := stk_len hst (Nat.le_refl 6)
    split at this <;> omega
  refine r_aload0 (pc := 0) C dX3_takeBehindUnit_0 ?_
  refine gX3_31 (pc := 1) C dX3_takeBehindUnit_1 ?_
  refine gX3_41 (pc := 4) C dX3_takeBehindUnit_4 ?_
  refine r_eqi hso ?_
  by_cases s7_11 : nI so = nI 11
  · refine r_eqi s7_11 ?_
    refine r_lookup (pc := 7) 32 C dX3_takeBehindUnit_7 (by decide) (off := 25) (by decide) (by decide) ?_
    refine r_aload0 (pc := 32) C dX3_takeBehindUnit_32 ?_
    refine r_iconst (pc := 33) (v := nI 1) C dX3_takeBehindUnit_33 (by decide) ?_
    refine r_callVv (pc := 34) C rfl dX3_takeBehindUnit_34 kX3_112 gF3 jC3 (tX3_emitDownTo Z.1 C.w (q := 1) (ops0 := ops) (c0 := r.2.2) (a := r.1) (m := r.2.1) (b := b) (rs := rs) hj hrj (by first | decide | exact k2) q5 q6 q7 hr20 (stk_9 hst) hlen h32) rfl rfl (Nat.le_of_ble_eq_true rfl) (by decide) (fun G34 h34 => ?_)
    obtain ⟨hF34, h3, hRS2⟩ := h34
    have h4 : G34.1 4 = G.1 4 := hF34.1 4 (by rintro (h | h | h | h) <;> omega)
    have hsub := edn_sub (1) ops r.2.2 q6
    have hFt : Fr (sU j) G G34 := hF34.mono (fun q h => by unfold sE at h; unfold sU; omega)
    refine r_aload0 (pc := 37) C dX3_takeBehindUnit_37 ?_
    refine r_iconst (pc := 38) (v := nI 0) C dX3_takeBehindUnit_38 (by decide) ?_
    refine r_aload0 (pc := 39) C dX3_takeBehindUnit_39 ?_
    refine gX3_70 (pc := 40) C dX3_takeBehindUnit_40 ?_
    have ho1 : 0 < o := hcl ((nI_eq (by omega) (by decide)).mp s7_11)
    obtain ⟨t, p, hO, hp1, -⟩ := (stk_1 (stk_edn (q := 1) (Nat.le_refl 1) r.2.2 hst)).resolve_left (fun h => by omega)
    refine r_eqi (y := nI (t.length + 1)) (by rw [h3, upd_s, hO]; rfl) ?_
    have hl1 := stk_len (stk_edn (q := 1) (Nat.le_refl 1) r.2.2 hst) (by omega)
    rw [hO, if_neg (by omega)] at hl1
    simp only [List.length_cons] at hl1
    refine r_iconst (pc := 43) (v := nI 1) C dX3_takeBehindUnit_43 (by decide) ?_
    refine r_isub (pc := 44) C dX3_takeBehindUnit_44 ?_
    refine r_eqi (pk_sub (a := t.length + 1) (b := 1) (by omega)) ?_
    refine r_mmax (pc := 45) C rfl dX3_takeBehindUnit_45 kX3_115.1.2.1 (Nat.le_of_ble_eq_true rfl) (by decide) ?_
    refine r_eqi (y := nI t.length) (max0 (by omega)) ?_
    refine pX3_70 (pc := 48) C dX3_takeBehindUnit_48 ?_
    refine r_aload0 (pc := 51) C dX3_takeBehindUnit_51 ?_
    refine r_dup (pc := 52) C dX3_takeBehindUnit_52 rfl ?_
    refine gX3_73 (pc := 53) C dX3_takeBehindUnit_53 ?_
    refine r_eqi (y := nI o) (by rw [sI_s, upd_o (by decide), h3, upd_o (by decide)]; exact q2) ?_
    refine r_iconst (pc := 56) (v := nI 1) C dX3_takeBehindUnit_56 (by decide) ?_
    refine r_isub (pc := 57) C dX3_takeBehindUnit_57 ?_
    refine r_eqi (pk_sub (a := o) (b := 1) (by omega)) ?_
    refine pX3_73 (pc := 58) C dX3_takeBehindUnit_58 ?_
    refine r_goto (pc := 61) 138 C dX3_takeBehindUnit_61 (by decide) ?_
    exact r_return (pc := 138) C dX3_takeBehindUnit_138 (by
  obtain rfl : so = 11 := (nI_eq (by omega) (by decide)).mp s7_11
  rw [takeS_11, hO]
  have hF2 : Fr (fun q => q = 3) G34 (sI (sI G34 3 2 (nI t.length)) 3 5 (nI (o - 1))) := ((Fr.refl (S := fun q => q = 3)).sI rfl).sI rfl
  refine ⟨hFt.trans (hF2.mono (fun q h => by unfold sU; omega)), ?_, ?_, ?_, ?_, ?_, ?_, hRS2.fr hF2 (by omega) (by omega) (by omega) (by omega) (by omega) (by omega)⟩
  · show (sI (sI G34 3 2 (nI t.length)) 3 5 (nI (o - 1))).1 3 4 = nI 6
    rw [sI_s, upd_o (by decide), sI_s, upd_o (by decide), h3, upd_o (by decide)]; exact q1
  · rw [sI_s, upd_s]
  · rw [sI_s, upd_o (by decide), sI_s, upd_o (by decide), h3, upd_o (by decide)]; exact q3
  · rw [sI_s, upd_o (by decide), sI_s, upd_o (by decide), h3, upd_o (by decide)]; exact q4
  · rw [sI_s, upd_o (by decide), sI_s, upd_s]; rfl
  · rw [sI_o (by decide), sI_o (by decide), h4]
    rw [hO] at hsub
    exact (opR_pop hsub).1)
  by_cases s7_12 : nI so = nI 12
  · refine r_eqi s7_12 ?_
    refine r_lookup (pc := 7) 64 C dX3_takeBehindUnit_7 (by decide) (off := 57) (by decide) (by decide) ?_
    refine r_aload0 (pc := 64) C dX3_takeBehindUnit_64 ?_
    refine r_iconst (pc := 65) (v := nI 1) C dX3_takeBehindUnit_65 (by decide) ?_
    refine r_callVv (pc := 66) C rfl dX3_takeBehindUnit_66 kX3_112 gF3 jC3 (tX3_emitDownTo Z.1 C.w (q := 1) (ops0 := ops) (c0 := r.2.2) (a := r.1) (m := r.2.1) (b := b) (rs := rs) hj hrj (by first | decide | exact k2) q5 q6 q7 hr20 (stk_9 hst) hlen h32) rfl rfl (Nat.le_of_ble_eq_true rfl) (by decide) (fun G66 h66 => ?_)
    obtain ⟨hF66, h3, hRS2⟩ := h66
    have h4 : G66.1 4 = G.1 4 := hF66.1 4 (by rintro (h | h | h | h) <;> omega)
    have hsub := edn_sub (1) ops r.2.2 q6
    have hFt : Fr (sU j) G G66 := hF66.mono (fun q h => by unfold sE at h; unfold sU; omega)
    refine r_goto (pc := 69) 138 C dX3_takeBehindUnit_69 (by decide) ?_
    exact r_return (pc := 138) C dX3_takeBehindUnit_138 (by
  obtain rfl : so = 12 := (nI_eq (by omega) (by decide)).mp s7_12
  rw [takeS_12]
  refine ⟨hFt, ?_, ?_, ?_, ?_, ?_, ?_, hRS2⟩
  · rw [h3, upd_o (by decide)]; exact q1
  · rw [h3, upd_o (by decide)]; exact q2
  · rw [h3, upd_o (by decide)]; exact q3
  · rw [h3, upd_o (by decide)]; exact q4
  · rw [h3, upd_s]
  · rw [h4]; exact hsub)
  refine r_lookup (pc := 7) 72 C dX3_takeBehindUnit_7 (by decide) (off := 65) (by rw [lv_osw s7_11 (by decide)]; rw [lv_osw s7_12 (by decide)]; rfl) (by decide) ?_
  have n11 : so ≠ 11 := fun e => s7_11 (by rw [e])
  have n12 : so ≠ 12 := fun e => s7_12 (by rw [e])
  obtain ⟨v1, v2, v3⟩ := hop n11 n12
  obtain ⟨k1, k2⟩ := rk_ok (cN v) (by omega)
  refine r_aload0 (pc := 72) C dX3_takeBehindUnit_72 ?_
  refine r_stI (pc := 73) (n := "OPERATOR_RANKS") tOr C dX3_takeBehindUnit_73 (by decide) (by decide) (fun h73t h73 => ?_)
  refine r_aload0 (pc := 76) C dX3_takeBehindUnit_76 ?_
  refine gX3_31 (pc := 77) C dX3_takeBehindUnit_77 ?_
  refine gX3_100 (pc := 80) C dX3_takeBehindUnit_80 ?_
  refine r_eqi (y := nI (cN v)) (hv.trans v1) ?_
  refine r_tald (pc := 83) (_) C dX3_takeBehindUnit_83 h73 (by decide) (rfl) (by show cN v < 10; omega) ?_
  refine r_eqi k1 ?_
  refine r_callVv (pc := 84) C rfl dX3_takeBehindUnit_84 kX3_112 gF3 jC3 (tX3_emitDownTo Z.1 C.w (q := rk (cN v)) (ops0 := ops) (c0 := r.2.2) (a := r.1) (m := r.2.1) (b := b) (rs := rs) hj hrj (by first | decide | exact k2) q5 q6 q7 hr20 (stk_9 hst) hlen h32) rfl rfl (Nat.le_of_ble_eq_true rfl) (by decide) (fun G84 h84 => ?_)
  obtain ⟨hF84, h3, hRS2⟩ := h84
  have h4 : G84.1 4 = G.1 4 := hF84.1 4 (by rintro (h | h | h | h) <;> omega)
  have hsub := edn_sub (rk (cN v)) ops r.2.2 q6
  have hFt : Fr (sU j) G G84 := hF84.mono (fun q h => by unfold sE at h; unfold sU; omega)
  have e5 : G84.1 5 = G.1 5 := hF84.1 5 (by rintro (h | h | h | h) <;> omega)
  refine r_aload0 (pc := 87) C dX3_takeBehindUnit_87 ?_
  refine r_aload0 (pc := 88) C dX3_takeBehindUnit_88 ?_
  refine gX3_31 (pc := 89) C dX3_takeBehindUnit_89 ?_
  refine gX3_100 (pc := 92) C dX3_takeBehindUnit_92 ?_
  refine r_eqi (y := nI (cN v)) (by rw [e5]; exact hv.trans v1) ?_
  refine r_callVv (pc := 95) C rfl dX3_takeBehindUnit_95 kX3_106 gF3 jC3 (tX3_push Z.1 C.w (n := (edn (rk (cN v)) ops r.2.2).1.length) (by rw [h3, upd_s]) (by
    have := stk_len (stk_edn (q := rk (cN v)) (rk_pos _ (by omega) v2) r.2.2 hst) (by omega)
    split at this <;> omega)) rfl rfl (Nat.le_of_ble_eq_true rfl) (by decide) (fun G95 h95 => ?_)
  have hF95 : Fr (fun q => q = 3 ∨ q = 4) G84 G95 := by rw [h95]; exact (Fr.refl.sI (Or.inr rfl)).sI (Or.inl rfl)
  have g3 : G95.1 3 = upd (G.1 3) 2 (nI ((edn (rk (cN v)) ops r.2.2).1.length + 1)) := by rw [h95, sI_s, sI_o (by decide), h3, upd_u]
  have g4 : G95.1 4 = upd (G.1 4) (edn (rk (cN v)) ops r.2.2).1.length (nI (cN v)) := by rw [h95, sI_o (by decide), sI_s, h4]
  have g5 : G95.1 5 = G.1 5 := by rw [hF95.1 5 (by omega), e5]
  refine r_aload0 (pc := 98) C dX3_takeBehindUnit_98 ?_
  refine r_aload0 (pc := 99) C dX3_takeBehindUnit_99 ?_
  refine gX3_31 (pc := 100) C dX3_takeBehindUnit_100 ?_
  refine gX3_41 (pc := 103) C dX3_takeBehindUnit_103 ?_
  refine r_eqi (y := nI so) (by rw [g5]; exact hso) ?_
  refine r_bipush (pc := 106) (v := nI 8) C dX3_takeBehindUnit_106 (by decide) ?_
  refine r_icmp_eq (pc := 108) 130 C dX3_takeBehindUnit_108 (by decide) (fun c108 => ?_) (fun c108 => ?_)
  · have d108 : so = 8 := (nI_eq (by omega) (by decide)).mp c108
    refine r_iconst (pc := 130) (v := nI 1) C dX3_takeBehindUnit_130 (by decide) ?_
    refine r_goto (pc := 131) 135 C dX3_takeBehindUnit_131 (by decide) ?_
    refine pX3_76 (pc := 135) C dX3_takeBehindUnit_135 rfl rfl ?_
    exact r_return (pc := 138) C dX3_takeBehindUnit_138 (by
  rw [takeS_op n11 n12, show (decide (so = 8) || (rel && decide (so = 9))) = true from by simp [d108]]
  refine ⟨(hFt.trans (hF95.mono (fun q h => by unfold sU; omega))).sI (Or.inl rfl), ?_, ?_, ?_, ?_, ?_, ?_, (hRS2.fr hF95 (by omega) (by omega) (by omega) (by omega) (by omega) (by omega)).fr (S := fun q => q = 3) (Fr.refl.sI rfl) (by omega) (by omega) (by omega) (by omega) (by omega) (by omega)⟩
  · rw [sI_s, upd_o (by decide), g3, upd_o (by decide)]; exact q1
  · rw [sI_s, upd_o (by decide), g3, upd_o (by decide)]; exact q2
  · rw [sI_s, upd_s]; rfl
  · rw [sI_s, upd_o (by decide), g3, upd_o (by decide)]; exact q4
  · rw [sI_s, upd_o (by decide), g3, upd_s]; rfl
  · rw [sI_o (by decide), g4]; exact opR_push hsub _)
  · have d108 : so ≠ 8 := fun e => c108 (by rw [e])
    refine r_aload0 (pc := 111) C dX3_takeBehindUnit_111 ?_
    refine gX3_76 (pc := 112) C dX3_takeBehindUnit_112 ?_
    refine r_eqi (y := bI rel) (by rw [g3, upd_o (by decide)]; exact q3) ?_
    refine r_if_eq (pc := 115) 134 C dX3_takeBehindUnit_115 (by decide) (fun c115 => ?_) (fun c115 => ?_)
    · refine r_iconst (pc := 134) (v := nI 0) C dX3_takeBehindUnit_134 (by decide) ?_
      refine pX3_76 (pc := 135) C dX3_takeBehindUnit_135 rfl rfl ?_
      exact r_return (pc := 138) C dX3_takeBehindUnit_138 (by
  rw [takeS_op n11 n12, show (decide (so = 8) || (rel && decide (so = 9))) = false from by simp [d108, bI_z.mp c115]]
  refine ⟨(hFt.trans (hF95.mono (fun q h => by unfold sU; omega))).sI (Or.inl rfl), ?_, ?_, ?_, ?_, ?_, ?_, (hRS2.fr hF95 (by omega) (by omega) (by omega) (by omega) (by omega) (by omega)).fr (S := fun q => q = 3) (Fr.refl.sI rfl) (by omega) (by omega) (by omega) (by omega) (by omega) (by omega)⟩
  · rw [sI_s, upd_o (by decide), g3, upd_o (by decide)]; exact q1
  · rw [sI_s, upd_o (by decide), g3, upd_o (by decide)]; exact q2
  · rw [sI_s, upd_s]; rfl
  · rw [sI_s, upd_o (by decide), g3, upd_o (by decide)]; exact q4
  · rw [sI_s, upd_o (by decide), g3, upd_s]; rfl
  · rw [sI_o (by decide), g4]; exact opR_push hsub _)
    · refine r_aload0 (pc := 118) C dX3_takeBehindUnit_118 ?_
      refine gX3_31 (pc := 119) C dX3_takeBehindUnit_119 ?_
      refine gX3_41 (pc := 122) C dX3_takeBehindUnit_122 ?_
      refine r_eqi (y := nI so) (by rw [g5]; exact hso) ?_
      refine r_bipush (pc := 125) (v := nI 9) C dX3_takeBehindUnit_125 (by decide) ?_
      refine r_icmp_ne (pc := 127) 134 C dX3_takeBehindUnit_127 (by decide) (fun c127 => ?_) (fun c127 => ?_)
      · have d127 : so ≠ 9 := fun e => c127 (by rw [e])
        refine r_iconst (pc := 134) (v := nI 0) C dX3_takeBehindUnit_134 (by decide) ?_
        refine pX3_76 (pc := 135) C dX3_takeBehindUnit_135 rfl rfl ?_
        exact r_return (pc := 138) C dX3_takeBehindUnit_138 (by
  rw [takeS_op n11 n12, show (decide (so = 8) || (rel && decide (so = 9))) = false from by simp [d108, d127]]
  refine ⟨(hFt.trans (hF95.mono (fun q h => by unfold sU; omega))).sI (Or.inl rfl), ?_, ?_, ?_, ?_, ?_, ?_, (hRS2.fr hF95 (by omega) (by omega) (by omega) (by omega) (by omega) (by omega)).fr (S := fun q => q = 3) (Fr.refl.sI rfl) (by omega) (by omega) (by omega) (by omega) (by omega) (by omega)⟩
  · rw [sI_s, upd_o (by decide), g3, upd_o (by decide)]; exact q1
  · rw [sI_s, upd_o (by decide), g3, upd_o (by decide)]; exact q2
  · rw [sI_s, upd_s]; rfl
  · rw [sI_s, upd_o (by decide), g3, upd_o (by decide)]; exact q4
  · rw [sI_s, upd_o (by decide), g3, upd_s]; rfl
  · rw [sI_o (by decide), g4]; exact opR_push hsub _)
      · have d127 : so = 9 := (nI_eq (by omega) (by decide)).mp c127
        refine r_iconst (pc := 130) (v := nI 1) C dX3_takeBehindUnit_130 (by decide) ?_
        refine r_goto (pc := 131) 135 C dX3_takeBehindUnit_131 (by decide) ?_
        refine pX3_76 (pc := 135) C dX3_takeBehindUnit_135 rfl rfl ?_
        exact r_return (pc := 138) C dX3_takeBehindUnit_138 (by
  rw [takeS_op n11 n12, show (decide (so = 8) || (rel && decide (so = 9))) = true from by simp [d108, bI_n.mp c115, d127]]
  refine ⟨(hFt.trans (hF95.mono (fun q h => by unfold sU; omega))).sI (Or.inl rfl), ?_, ?_, ?_, ?_, ?_, ?_, (hRS2.fr hF95 (by omega) (by omega) (by omega) (by omega) (by omega) (by omega)).fr (S := fun q => q = 3) (Fr.refl.sI rfl) (by omega) (by omega) (by omega) (by omega) (by omega) (by omega)⟩
  · rw [sI_s, upd_o (by decide), g3, upd_o (by decide)]; exact q1
  · rw [sI_s, upd_o (by decide), g3, upd_o (by decide)]; exact q2
  · rw [sI_s, upd_s]; rfl
  · rw [sI_s, upd_o (by decide), g3, upd_o (by decide)]; exact q4
  · rw [sI_s, upd_o (by decide), g3, upd_s]; rfl
  · rw [sI_o (by decide), g4]; exact opR_push hsub _)
