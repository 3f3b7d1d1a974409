/-! in which ranges the rows stay; what is kept of them is read back whole -/
def rg (x : Int32) (b : Nat) : Prop := ∃ n, n ≤ b ∧ x + nI 1 = nI n
theorem rg_c {n b : Nat} (h : n + 1 ≤ b) : rg (nI n) b := ⟨n + 1, h, nI_add n 1⟩
theorem rg_m {b : Nat} : rg (-1) b := ⟨0, Nat.zero_le b, by decide⟩
theorem rg_n {x : Int32} {b : Nat} (h : x = nI (cN x)) (hb : cN x + 1 ≤ b) : rg x b := by rw [h]; exact rg_c hb
theorem rg_cnt {x : Int32} {c b : Nat} (h : x = nI (cN x) ∧ cN x ≤ c) (hb : c + 1 ≤ b) : rg x b := rg_n h.1 (by omega)
theorem rg_s {x : Int32} {c b : Nat} (h : x = nI (cN x)) (hc : cN x ≤ c) (hb : c + 2 ≤ b) : rg (x + nI 1) b := by
  rw [h, nI_add]
  exact rg_c (by omega)
def rR (f : Nat → Int32) : Prop := rg (f 3) 6 ∧ rg (f 4) 6 ∧ rg (f 5) 13 ∧ rg (f 6) 6 ∧ rg (f 7) 6 ∧ rg (f 8) 6 ∧ rg (f 9) 5 ∧ rg (f 10) 13 ∧ rg (f 12) 4
def rB (n : Nat) (f : Nat → Int32) : Prop := ∃ b, f 11 = nI b ∧ (f 3 = nI 0 → ∃ o, f 15 = nI o ∧ 4 * b ≤ o ∧ o ≤ n + 2) ∧ (f 3 ≠ nI 0 → 4 * b ≤ n + 3)
theorem rB.mono {n m : Nat} {f : Nat → Int32} (h : rB n f) (hm : n ≤ m) : rB m f := by
  obtain ⟨b, h1, h2, h3⟩ := h
  exact ⟨b, h1, fun z => by obtain ⟨o, a1, a2, a3⟩ := h2 z; exact ⟨o, a1, a2, by omega⟩, fun z => by have := h3 z; omega⟩
theorem rB.same {n : Nat} {f g : Nat → Int32} (h : rB n f) (e11 : g 11 = f 11) (h0 : f 3 ≠ nI 0) (g0 : g 3 ≠ nI 0) : rB n g := by
  obtain ⟨b, h1, h2, h3⟩ := h
  exact ⟨b, e11.trans h1, fun z => absurd z g0, fun _ => h3 h0⟩
theorem rR_reset {f : Nat → Int32} : rR (mReset f) := ⟨rg_c (n := 0) (by decide), rg_m, rg_m, rg_m, rg_c (n := 0) (by decide), rg_c (n := 0) (by decide), rg_c (n := 0) (by decide), rg_c (n := 0) (by decide), rg_c (n := 0) (by decide)⟩
theorem rB_reset {f : Nat → Int32} : rB 0 (mReset f) := ⟨0, rfl, fun _ => ⟨0, rfl, by omega, by omega⟩, fun z => absurd rfl z⟩
theorem rR_pw {f : Nat → Int32} {c : Bool} {w t : Int32} (h : rR f) : rR (pw1 c w t f) := by
  unfold pw1
  split
  · exact ⟨rg_c (n := 0) (by decide), rg_m, rg_m, h.2.2.2.1, rg_c (n := 0) (by decide), rg_c (n := 0) (by decide), rg_c (n := 0) (by decide), rg_c (n := 0) (by decide), rg_c (n := 0) (by decide)⟩
  · split
    · exact ⟨rg_c (n := 1) (by decide), rg_m, rg_m, h.2.2.2.1, rg_c (n := 0) (by decide), rg_c (n := 0) (by decide), rg_c (n := 0) (by decide), rg_c (n := 0) (by decide), rg_c (n := 0) (by decide)⟩
    · exact h
theorem rB_pw {f : Nat → Int32} {c : Bool} {w : Int32} {t : Nat} (ht : t < 300) (h : rB t f) : rB (t + 1) (pw1 c w (nI t) f) := by
  obtain ⟨b, h1, h2, h3⟩ := h
  unfold pw1
  split
  · refine ⟨b, h1, fun _ => ⟨t + 3, ?_, ?_, by omega⟩, fun z => absurd rfl z⟩
    · show nI t + nI 3 = _; rw [nI_add]
    · by_cases e : f 3 = nI 0
      · obtain ⟨o, a1, a2, a3⟩ := h2 e; omega
      · exact h3 e
  · split
    · rename_i hc
      obtain ⟨c1, c2, -⟩ := hc
      obtain ⟨o, a1, a2, a3⟩ := h2 c1
      rw [a1] at c2
      have : o ≤ t := by
        rcases Nat.lt_or_ge t o with z | z
        · exact absurd (nI_lt z (by omega)) c2
        · exact z
      refine ⟨b + 1, ?_, fun z => absurd z (by show ¬ nI 1 = nI 0; decide), fun _ => by omega⟩
      show f 11 + nI 1 = _
      rw [h1, nI_add]
    · exact ⟨b, h1, fun z => by obtain ⟨o, a1, a2, a3⟩ := h2 z; exact ⟨o, a1, a2, by omega⟩, fun z => by have := h3 z; omega⟩
theorem rR_resc {f : Nat → Int32} {y : Nat} (hy : y ≤ 5) (h : rR f) : rR (mRescue (nI y) f) := ⟨rg_c (n := 5) (by decide), rg_m, rg_m, h.2.2.2.1, rg_c (by omega), h.2.2.2.2.2.1, h.2.2.2.2.2.2.1, h.2.2.2.2.2.2.2.1, rg_c (n := 0) (by decide)⟩
theorem rR_fetch {h : hQ} {fc : Nat} {f : Nat → Int32} {a c : Int32} {b : Nat} (hh : hOk h fc) (h0 : 0 ≤ a) (h1 : ¬ hFc h ≤ a) (hb : b ≤ 3) (hr : rR f) : rR (mFetch a (nI b) c f) := by
  refine ⟨rg_c (n := 2) (by decide), ?_, rg_c (n := 0) (by decide), hr.2.2.2.1, rg_c (n := 0) (by decide), hr.2.2.2.2.2.1, hr.2.2.2.2.2.2.1, hr.2.2.2.2.2.2.2.1, rg_c (by omega)⟩
  obtain ⟨j, hj, rfl⟩ := nI_of (Int32.not_lt.mpr h0)
  have hjf : j < fc := by
    rcases Nat.lt_or_ge j fc with g | g
    · exact g
    · exact absurd (by rw [hh.2.1]; exact nI_le g hj) h1
  exact rg_c (by have := hh.2.2.1; omega)
theorem rR_qs {h : hQ} {fc : Nat} {f : Nat → Int32} {t : Int32} {p : Int32 × Int32} {w : Bool} (hh : hOk h fc) (hp : 0 ≤ p.1 → ¬ hFc h ≤ p.1) (hr : rR f) (hn : rN f) (h1 : f 3 = nI 1) : rR (qsF t p w f) := by
  obtain ⟨-, h8, h9, h10⟩ := hn.1 (by rw [h1]; decide)
  unfold qsF
  split
  · rename_i h0
    split
    · exact hr
    · exact rR_fetch hh h0 (hp h0) (by decide) hr
  · have hr2 : rR (upd f 8 (f 8 + nI 1)) := ⟨hr.1, hr.2.1, hr.2.2.1, hr.2.2.2.1, hr.2.2.2.2.1, rg_s h8.1 h8.2 (by decide), hr.2.2.2.2.2.2.1, hr.2.2.2.2.2.2.2.1, hr.2.2.2.2.2.2.2.2⟩
    unfold mFail
    split
    · exact hr2
    · split
      · exact rR_resc (by decide) hr2
      · exact rR_resc (by decide) hr2
theorem rB_qs {f : Nat → Int32} {t : Int32} {p : Int32 × Int32} {w : Bool} {n : Nat} (h : rB n f) (h1 : f 3 = nI 1) : rB n (qsF t p w f) := by
  have h0 : f 3 ≠ nI 0 := by rw [h1]; decide
  unfold qsF
  split
  · split
    · exact h.same rfl h0 h0
    · exact h.same rfl h0 (by show nI 2 ≠ nI 0; decide)
  · unfold mFail
    split
    · exact h.same rfl h0 h0
    · exact h.same rfl h0 (by show nI 5 ≠ nI 0; decide)
theorem rR_rcv {h : hQ} {fc : Nat} {f : Nat → Int32} {t : Int32} {a b c : Bool} (hh : hOk h fc) (ho : fOk fc (hBl h) f) (hr : rR f) (hn : rN f) (h2 : f 3 = nI 2) : rR (rcvF (hFc h) (hBl h) (hNx h) t a b c f) := by
  obtain ⟨-, h8, h9, h10⟩ := hn.1 (by rw [h2]; decide)
  have h12 := hn.2 h2
  obtain ⟨o1, o2, o3, o4, o5⟩ := ho.1 h2
  obtain ⟨r3, r4, r5, r6, r7, r8, r9, r10, r12⟩ := hr
  unfold rcvF
  split
  · have hr2 : rR (upd f 10 (f 10 + nI 1)) := ⟨r3, r4, r5, r6, r7, r8, r9, rg_s h10.1 h10.2 (by decide), r12⟩
    unfold mNone
    split
    · exact hr2
    · exact rR_resc (by decide) hr2
  · split
    · have hr2 : rR (upd f 9 (f 9 + nI 1)) := ⟨r3, r4, r5, r6, r7, r8, rg_s h9.1 h9.2 (by decide), r10, r12⟩
      unfold mWrong
      split
      · exact hr2
      · exact rR_resc (by decide) hr2
    · have hr2 : rR (upd (upd f 10 (nI 0)) 5 (f 5 + nI 1)) := ⟨r3, r4, rg_s (c := 11) o3 (by omega) (by decide), r6, r7, r8, r9, rg_c (n := 0) (by decide), r12⟩
      split
      · exact hr2
      · unfold goF
        split
        · exact ⟨rg_c (n := 3) (by decide), r4, rg_c (n := 0) (by decide), r6, r7, r8, r9, rg_c (n := 0) (by decide), r12⟩
        · split
          · exact rR_resc (by decide) hr2
          · rename_i hx hl
            have hl : ¬ (nI 4 ≤ f 12 + nI 1 ∨ hFc h ≤ hNx h (cN (f 4))) := hl
            have e : f 12 + nI 1 = nI (cN (f 12) + 1) := by rw [h12.1, nI_add, cN_nI (by omega)]
            show rR (mFetch _ (f 12 + nI 1) _ _)
            rw [e]
            refine rR_fetch hh ((hh.2.2.2.2.1 _ o2).resolve_left hx) (fun k => hl (Or.inr k)) ?_ hr2
            rcases Nat.lt_or_ge (cN (f 12)) 3 with g | g
            · omega
            · exact absurd (Or.inl (by rw [e]; exact nI_le (by omega) (by omega))) hl
theorem rB_rcv {f : Nat → Int32} {fc t : Int32} {bl nx : Nat → Int32} {a b c : Bool} {n : Nat} (h : rB n f) (h2 : f 3 = nI 2) : rB n (rcvF fc bl nx t a b c f) := by
  have h0 : f 3 ≠ nI 0 := by rw [h2]; decide
  unfold rcvF
  split
  · unfold mNone
    split
    · exact h.same rfl h0 h0
    · exact h.same rfl h0 (by show nI 5 ≠ nI 0; decide)
  · split
    · unfold mWrong
      split
      · exact h.same rfl h0 h0
      · exact h.same rfl h0 (by show nI 5 ≠ nI 0; decide)
    · split
      · exact h.same rfl h0 h0
      · unfold goF
        split
        · exact h.same rfl h0 (by show nI 3 ≠ nI 0; decide)
        · split
          · exact h.same rfl h0 (by show nI 5 ≠ nI 0; decide)
          · exact h.same rfl h0 (by show nI 2 ≠ nI 0; decide)
theorem rR_wr {f : Nat → Int32} {bl : Nat} (hb : bl ≤ 12) (hr : rR f) (hn : rN f) (h3 : f 3 = nI 3) : rR (mWrite (nI bl) f) := by
  obtain ⟨r3, r4, r5, r6, r7, r8, r9, r10, r12⟩ := hr
  unfold mWrite
  split
  · exact ⟨rg_c (n := 4) (by decide), rg_m, rg_m, r4, rg_c (n := 0) (by decide), r8, r9, r10, rg_c (n := 0) (by decide)⟩
  · rename_i hl
    refine ⟨r3, r4, ?_, r6, r7, r8, r9, r10, r12⟩
    obtain ⟨m, hm, e⟩ := r5
    show rg (f 5 + nI 1) 13
    rw [e]
    refine rg_c ?_
    rcases Nat.lt_or_ge m 13 with z | z
    · omega
    · exfalso
      have e5 : f 5 = nI 12 := by
        have e2 : f 5 + nI 1 = nI 12 + nI 1 := by rw [e, show m = 13 by omega]; rfl
        rw [← Int32.add_sub_cancel (a := f 5) (b := nI 1), e2, Int32.add_sub_cancel]
      exact hl (by rw [e5]; exact nI_le hb (by decide))
theorem rB_wr {f : Nat → Int32} {x : Int32} {n : Nat} (h : rB n f) (h3 : f 3 = nI 3) : rB n (mWrite x f) := by
  have h0 : f 3 ≠ nI 0 := by rw [h3]; decide
  unfold mWrite
  split
  · exact h.same rfl h0 (by show nI 4 ≠ nI 0; decide)
  · exact h.same rfl h0 h0
/-- all that stays true of the rows behind n TICKS -/
def iW (h : hQ) (fc n : Nat) (F : Nat → Nat → Int32) : Prop := iV h fc F ∧ ∀ i, i < hMc h → rR (F i) ∧ rB n (F i)
theorem pw_at {cut : Nat → Bool} {wk : Nat → Int32} {t : Int32} {F : Nat → Nat → Int32} : ∀ {n i : Nat}, (i < n → itN (pwS cut wk t) n F i = pw1 (cut i) (wk (kN (F i))) t (F i)) ∧ (n ≤ i → itN (pwS cut wk t) n F i = F i)
  | 0, i => ⟨fun h => absurd h (Nat.not_lt_zero i), fun _ => rfl⟩
  | n + 1, i => by
    refine ⟨fun h => ?_, fun h => ?_⟩
    · rw [itN_s, pwS]
      by_cases e : i = n
      · subst e; rw [va_up_self, pw_at.2 (Nat.le_refl i)]
      · rw [va_up_ne _ _ e]; exact pw_at.1 (by omega)
    · rw [itN_s, pwS, va_up_ne _ _ (by omega)]; exact pw_at.2 (by omega)
theorem iW_up {h : hQ} {fc n i : Nat} {F : Nat → Nat → Int32} {f : Nat → Int32} (hv : ∀ i, i < hMc h → rR (F i) ∧ rB n (F i)) (hf : i < hMc h → rR f ∧ rB n f) : ∀ j, j < hMc h → rR (va_up F i f j) ∧ rB n (va_up F i f j) := by
  intro j hj
  by_cases e : j = i
  · subst e; rw [va_up_self]; exact hf hj
  · rw [va_up_ne _ _ e]; exact hv j hj
theorem iW_crk {h : hQ} {fc : Nat} (hh : hOk h fc) {t : Nat} (ht : t < 300) {c : rC} (hv : iW h fc t c.1) : iW h fc (t + 1) (crk h t c).1 := by
  have h1 : iW h fc (t + 1) (fPw h t c.1) := ⟨itN_inv (P := iV h fc) hv.1 (fun i s hi hs => iV_pwS t hi hs), fun i hi => by
    unfold fPw
    rw [pw_at.1 hi]
    exact ⟨rR_pw (hv.2 i hi).1, rB_pw ht (hv.2 i hi).2⟩⟩
  have h2 : iW h fc (t + 1) (fAsk h t (fPw h t c.1)) := itN_inv (P := iW h fc (t + 1)) h1 (fun i s hi hs => ⟨iV_askS hh t hi hs.1, by
    unfold askS
    split
    · rename_i hc
      exact iW_up (fc := fc) hs.2 (fun _ => ⟨rR_qs hh (hrd_ok hh _ _ _) (hs.2 i hi).1 (hs.1.2 i hi) hc.1, rB_qs (hs.2 i hi).2 hc.1⟩)
    · exact hs.2⟩)
  have h3 : iW h fc (t + 1) (fRv h t (fAsk h t (fPw h t c.1)) (fSd h t (fAsk h t (fPw h t c.1)) c.2.2.1 c.2.1).2.1) := by
    have hl := line_ex (nI t) (hMc h) (fAsk h t (fPw h t c.1))
    refine ⟨iV_rv hh h2.1, fun i hi => ?_⟩
    unfold fRv
    rw [rvL_at (line_nodup hl.2)]
    split
    · rename_i hm
      have hp := (of_decide_eq_true ((hl.1 i).mp hm).2).1
      exact ⟨rR_rcv hh (h2.1.1.2 i hi) (h2.2 i hi).1 (h2.1.2 i hi) hp, rB_rcv (h2.2 i hi).2 hp⟩
    · exact h2.2 i hi
  exact itN_inv (P := iW h fc (t + 1)) h3 (fun i s hi hs => ⟨iV_insS t hi hs.1, by
    unfold insS
    split
    · rename_i hc
      refine iW_up (fc := fc) hs.2 (fun _ => ⟨?_, rB_wr (hs.2 i hi).2 hc.1⟩)
      obtain ⟨b1, b2, b3⟩ := hh.2.2.2.1 _ ((hs.1.1.2 i hi).2 hc.1).2
      rw [b1]
      exact rR_wr b3 (hs.2 i hi).1 (hs.1.2 i hi) hc.1
    · exact hs.2⟩)
theorem iW_run {h : hQ} {fc : Nat} (hh : hOk h fc) {c : rC} (hk : kOk (hMc h) c.1) : ∀ n, n ≤ 300 → iW h fc n (ctR h c n).1
  | 0, _ => ⟨iV_crs hk, fun i hi => by
    show rR (itN _ (hMc h) c.1 i) ∧ rB 0 (itN _ (hMc h) c.1 i)
    rw [rs_at hi]
    exact ⟨rR_reset, rB_reset⟩⟩
  | n + 1, hn => iW_crk hh (by omega) (iW_run hh hk n (by omega))
/-! a row in one long, and back -/
theorem or_sh {a b k : Nat} (ha : a < 2 ^ k) (hk : k < 32) (h : a + b * 2 ^ k < 2 ^ 31) : nI a ||| (nI b <<< (nI k &&& 31)) = nI (a + b * 2 ^ k) := by
  apply Int32.toBitVec_inj.mp
  apply BitVec.eq_of_toNat_eq
  rw [pk_shlN _ k (smod32 hk) (by omega), Int32.toBitVec_or, BitVec.toNat_or, pk_tn (by omega), pk_tn (by omega), pk_tn (by omega), Nat.or_comm, ← Nat.shiftLeft_eq, ← Nat.shiftLeft_add_eq_or_of_lt ha, Nat.shiftLeft_eq, Nat.add_comm]
theorem or_shL {a b k : Nat} (ha : a < 2 ^ k) (hk : k < 64) (h : a + b * 2 ^ k < 2 ^ 63) : (lN b <<< ((nI k).toInt64 &&& 63)) ||| lN a = lN (a + b * 2 ^ k) := by
  rw [wb_shl _ hk, wb_or (by omega) (by omega), ← Nat.shiftLeft_eq, ← Nat.shiftLeft_add_eq_or_of_lt ha, Nat.shiftLeft_eq, Nat.add_comm]
theorem snap_n {f : Nat → Int32} {a b c d e g i j k l : Nat} (h3 : f 3 + nI 1 = nI a) (h4 : f 4 + nI 1 = nI b) (h5 : f 5 + nI 1 = nI c) (h6 : f 6 + nI 1 = nI d) (h7 : f 7 + nI 1 = nI e) (h8 : f 8 + nI 1 = nI g) (h9 : f 9 + nI 1 = nI i) (h10 : f 10 + nI 1 = nI j) (h11 : f 11 + nI 1 = nI k) (h12 : f 12 + nI 1 = nI l) (ha : a < 16) (hb : b < 16) (hc : c < 16) (hd : d < 16) (he : e < 16) (hg : g < 16) (hi : i < 8) (hj : j < 16) (hk : k < 256) (hl : l < 16) : mSnap f = lN (a + b * 2 ^ 4 + c * 2 ^ 8 + d * 2 ^ 12 + e * 2 ^ 16 + g * 2 ^ 20 + i * 2 ^ 24 + (j + k * 2 ^ 4 + l * 2 ^ 12) * 2 ^ 28) := by
  unfold mSnap
  rw [h3, h4, h5, h6, h7, h8, h9, h10, h11, h12]
  rw [or_sh (a := a) (k := 4) (by omega) (by decide) (by omega), or_sh (k := 8) (by omega) (by decide) (by omega), or_sh (k := 12) (by omega) (by decide) (by omega), or_sh (k := 16) (by omega) (by decide) (by omega), or_sh (k := 20) (by omega) (by decide) (by omega), or_sh (k := 24) (by omega) (by decide) (by omega)]
  rw [or_sh (a := j) (k := 4) (by omega) (by decide) (by omega), or_sh (k := 12) (by omega) (by decide) (by omega), nI_l (n := j + k * 2 ^ 4 + l * 2 ^ 12) (by omega), nI_l (n := a + b * 2 ^ 4 + c * 2 ^ 8 + d * 2 ^ 12 + e * 2 ^ 16 + g * 2 ^ 20 + i * 2 ^ 24) (by omega), or_shL (k := 28) (by omega) (by decide) (by omega)]
theorem tSh_ok : ∀ w, w < 10 → tSh.getD w 0 = nI (cN (tSh.getD w 0)) ∧ cN (tSh.getD w 0) < 64 ∧ ((nI 1 <<< ((tSh.getD (w + 1) 0 - tSh.getD w 0) &&& 31)) - nI 1).toBitVec.toNat = 2 ^ (cN (tSh.getD (w + 1) 0) - cN (tSh.getD w 0)) - 1 := by decide +kernel
theorem rcd_n {X : Nat} (hX : X < 2 ^ 63) {w : Nat} (hw : w < 10) : rcd (lN X) w = nI (X / 2 ^ cN (tSh.getD w 0) % 2 ^ (cN (tSh.getD (w + 1) 0) - cN (tSh.getD w 0)) % 2 ^ 32) - nI 1 ∨ rcd (lN X) w = nI (X / 2 ^ cN (tSh.getD w 0) % 2 ^ 32 % 2 ^ (cN (tSh.getD (w + 1) 0) - cN (tSh.getD w 0))) - nI 1 := by
  right
  obtain ⟨e1, e2, e3⟩ := tSh_ok w hw
  unfold rcd
  rw [pk_and _ _ e3]
  rw [e1, cN_nI (by omega), wb_shr (by omega) e2, lN_i]
  show nI ((BitVec.ofNat 32 _).toNat % _) - nI 1 = _
  rw [BitVec.toNat_ofNat]
theorem rg_get {x : Int32} {n : Nat} (h : x + nI 1 = nI n) : nI n - nI 1 = x := by rw [← h, Int32.add_sub_cancel]
theorem rcd_snap {f : Nat → Int32} {n : Nat} (hr : rR f) (hb : rB n f) (hn : n ≤ 300) : ∀ w, w < 10 → rcd (mSnap f) w = f (3 + w) := by
  obtain ⟨⟨a, ha, h3⟩, ⟨b, hb4, h4⟩, ⟨c, hc, h5⟩, ⟨d, hd, h6⟩, ⟨e, he, h7⟩, ⟨g, hg, h8⟩, ⟨i, hi, h9⟩, ⟨j, hj, h10⟩, ⟨l, hl, h12⟩⟩ := hr
  obtain ⟨k, hk, h11⟩ : ∃ k, k ≤ 255 ∧ f 11 + nI 1 = nI k := by
    obtain ⟨b, h1, h2, h3⟩ := hb
    refine ⟨b + 1, ?_, by rw [h1, nI_add]⟩
    by_cases z : f 3 = nI 0
    · obtain ⟨o, a1, a2, a3⟩ := h2 z; omega
    · have := h3 z; omega
  rw [snap_n h3 h4 h5 h6 h7 h8 h9 h10 h11 h12 (by omega) (by omega) (by omega) (by omega) (by omega) (by omega) (by omega) (by omega) (by omega) (by omega)]
  generalize hX : a + b * 2 ^ 4 + c * 2 ^ 8 + d * 2 ^ 12 + e * 2 ^ 16 + g * 2 ^ 20 + i * 2 ^ 24 + (j + k * 2 ^ 4 + l * 2 ^ 12) * 2 ^ 28 = X
  have hX2 : X < 2 ^ 63 := by omega
  intro w hw
  rcases (show w = 0 ∨ w = 1 ∨ w = 2 ∨ w = 3 ∨ w = 4 ∨ w = 5 ∨ w = 6 ∨ w = 7 ∨ w = 8 ∨ w = 9 by omega) with rfl | rfl | rfl | rfl | rfl | rfl | rfl | rfl | rfl | rfl
  all_goals
    rcases rcd_n hX2 hw with z | z
    all_goals
      rw [z]
  · rw [← rg_get h3]; congr 2; show X / 2 ^ 0 % 2 ^ 4 % 2 ^ 32 = a; omega
  · rw [← rg_get h3]; congr 2; show X / 2 ^ 0 % 2 ^ 32 % 2 ^ 4 = a; omega
  · rw [← rg_get h4]; congr 2; show X / 2 ^ 4 % 2 ^ 4 % 2 ^ 32 = b; omega
  · rw [← rg_get h4]; congr 2; show X / 2 ^ 4 % 2 ^ 32 % 2 ^ 4 = b; omega
  · rw [← rg_get h5]; congr 2; show X / 2 ^ 8 % 2 ^ 4 % 2 ^ 32 = c; omega
  · rw [← rg_get h5]; congr 2; show X / 2 ^ 8 % 2 ^ 32 % 2 ^ 4 = c; omega
  · rw [← rg_get h6]; congr 2; show X / 2 ^ 12 % 2 ^ 4 % 2 ^ 32 = d; omega
  · rw [← rg_get h6]; congr 2; show X / 2 ^ 12 % 2 ^ 32 % 2 ^ 4 = d; omega
  · rw [← rg_get h7]; congr 2; show X / 2 ^ 16 % 2 ^ 4 % 2 ^ 32 = e; omega
  · rw [← rg_get h7]; congr 2; show X / 2 ^ 16 % 2 ^ 32 % 2 ^ 4 = e; omega
  · rw [← rg_get h8]; congr 2; show X / 2 ^ 20 % 2 ^ 4 % 2 ^ 32 = g; omega
  · rw [← rg_get h8]; congr 2; show X / 2 ^ 20 % 2 ^ 32 % 2 ^ 4 = g; omega
  · rw [← rg_get h9]; congr 2; show X / 2 ^ 24 % 2 ^ 4 % 2 ^ 32 = i; omega
  · rw [← rg_get h9]; congr 2; show X / 2 ^ 24 % 2 ^ 32 % 2 ^ 4 = i; omega
  · rw [← rg_get h10]; congr 2; show X / 2 ^ 28 % 2 ^ 4 % 2 ^ 32 = j; omega
  · rw [← rg_get h10]; congr 2; show X / 2 ^ 28 % 2 ^ 32 % 2 ^ 4 = j; omega
  · rw [← rg_get h11]; congr 2; show X / 2 ^ 32 % 2 ^ 8 % 2 ^ 32 = k; omega
  · rw [← rg_get h11]; congr 2; show X / 2 ^ 32 % 2 ^ 32 % 2 ^ 8 = k; omega
  · rw [← rg_get h12]; congr 2; show X / 2 ^ 40 % 2 ^ 4 % 2 ^ 32 = l; omega
  · rw [← rg_get h12]; congr 2; show X / 2 ^ 40 % 2 ^ 32 % 2 ^ 4 = l; omega
