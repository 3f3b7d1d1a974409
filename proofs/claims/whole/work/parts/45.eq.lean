/-! rows of the two programs, side by side -/
theorem bt_sar (x : Int32) {m : Nat} (h : m < 8) : (x >>> (nI m &&& 31)) &&& nI 1 = bI (bt x m) := by
  rw [pk_and _ (m := nI 1) 1 (by decide)]
  have e2 : (x >>> (nI m &&& 31)).toInt = x.toInt >>> m := pk_shr _ _ _ (smod32 (by omega))
  have e3 := tn_eq (x >>> (nI m &&& 31))
  have e4 := tn_eq x
  rw [Int.shiftRight_eq_div_pow] at e2
  have e5 : (x >>> (nI m &&& 31)).toBitVec.toNat % 2 ^ 1 = x.toBitVec.toNat / 2 ^ m % 2 := by
    rcases (show m = 0 ∨ m = 1 ∨ m = 2 ∨ m = 3 ∨ m = 4 ∨ m = 5 ∨ m = 6 ∨ m = 7 by omega) with rfl | rfl | rfl | rfl | rfl | rfl | rfl | rfl
    all_goals
      simp only [Nat.reducePow] at e2 ⊢
      omega
  rw [e5, bt_nat, bt]
  cases x.toBitVec.toNat.testBit m <;> rfl
def rQ (f g : Nat → Int32) : Prop := (∀ k, k < 16 → k ≠ 13 → k ≠ 14 → g k = f k) ∧ (f 3 = nI 1 → g 13 = f 13) ∧ (f 3 = nI 2 ∨ f 3 = nI 3 → g 14 = f 14)
theorem rQ.refl {f : Nat → Int32} : rQ f f := ⟨fun _ _ _ _ => rfl, fun _ => rfl, fun _ => rfl⟩
theorem rQ.o {f g : Nat → Int32} (h : rQ f g) (k : Nat) (hk : k < 16 := by decide) (h1 : k ≠ 13 := by decide) (h2 : k ≠ 14 := by decide) : g k = f k := h.1 k hk h1 h2
theorem rQ.trans {f g e : Nat → Int32} (h : rQ f g) (h' : rQ g e) : rQ f e :=
  ⟨fun k a b c => (h'.1 k a b c).trans (h.1 k a b c), fun k => (h'.2.1 ((h.o 3).trans k)).trans (h.2.1 k), fun k => (h'.2.2 (by rw [h.o 3]; exact k)).trans (h.2.2 k)⟩
theorem rE.q {f g : Nat → Int32} (h : rE f g) : rQ f g := by
  rcases h with rfl | ⟨⟨h2, h3⟩, v, rfl⟩
  · exact rQ.refl
  · exact ⟨fun k _ _ h => upd_o h, fun _ => upd_o (by decide), fun k => absurd k (not_or.mpr ⟨h2, h3⟩)⟩
theorem upd_k {f g : Nat → Int32} {a k : Nat} {v w : Int32} (h : g k = f k) (hv : w = v) : upd g a w k = upd f a v k := by
  subst hv
  simp only [upd]
  split
  · rfl
  · exact h
theorem en_c {f g : Nat → Int32} {k : Nat} (p : Int32) (h : g k = f k) : mEnter p g k = mEnter p f k := upd_k (upd_k (upd_k (upd_k (upd_k h rfl) rfl) rfl) rfl) rfl
theorem cl_c {f g : Nat → Int32} {k : Nat} (h : g k = f k) : mClear g k = mClear f k := upd_k (upd_k (upd_k h rfl) rfl) rfl
theorem rQ_no {f g : Nat → Int32} (h : ∀ k, k < 16 → k ≠ 13 → k ≠ 14 → g k = f k) (p : Int32) (hp : f 3 = p) (hn : ¬ p = nI 1 ∧ ¬ (p = nI 2 ∨ p = nI 3)) : rQ f g := ⟨h, fun k => absurd (hp.symm.trans k) hn.1, fun k => absurd (by rw [hp] at k; exact k) hn.2⟩
theorem rQ_reset {f g : Nat → Int32} (h : ∀ k, k < 3 → g k = f k) : rQ (mReset f) (mReset g) := by
  refine rQ_no (fun k hk h1 h2 => ?_) (nI 0) rfl (by decide)
  by_cases h3 : k < 3
  · exact cl_c (en_c _ (upd_k (upd_k (upd_k (h k h3) rfl) rfl) rfl))
  · rcases (show k = 3 ∨ k = 4 ∨ k = 5 ∨ k = 6 ∨ k = 7 ∨ k = 8 ∨ k = 9 ∨ k = 10 ∨ k = 11 ∨ k = 12 ∨ k = 15 by omega) with rfl | rfl | rfl | rfl | rfl | rfl | rfl | rfl | rfl | rfl | rfl <;> rfl
theorem rQ_pw {f g : Nat → Int32} {c : Bool} {w t : Int32} (h : rQ f g) : rQ (pw1 c w t f) (pw1 c w t g) := by
  unfold pw1
  rw [h.o 3, h.o 15]
  split
  · exact rQ_no (fun k a b d => upd_k (cl_c (en_c _ (h.1 k a b d))) rfl) (nI 0) rfl (by decide)
  · split
    · exact ⟨fun k a b d => upd_k (upd_k (cl_c (en_c _ (h.1 k a b d))) (by rw [h.o 11])) rfl, fun _ => rfl, fun k => absurd k (by show ¬ (nI 1 = nI 2 ∨ nI 1 = nI 3); decide)⟩
    · exact h
theorem rQ_resc {f g : Nat → Int32} {y : Int32} (h : ∀ k, k < 16 → k ≠ 13 → k ≠ 14 → g k = f k) : rQ (mRescue y f) (mRescue y g) :=
  rQ_no (fun k a b d => upd_k (en_c _ (h k a b d)) rfl) (nI 5) rfl (by decide)
theorem rQ_fetch {f g : Nat → Int32} {a b c : Int32} (h : ∀ k, k < 16 → k ≠ 13 → k ≠ 14 → g k = f k) : rQ (mFetch a b c f) (mFetch a b c g) :=
  ⟨fun k p q r => upd_k (upd_k (upd_k (upd_k (en_c _ (h k p q r)) rfl) rfl) rfl) rfl, fun k => absurd k (by show ¬ nI 2 = nI 1; decide), fun _ => rfl⟩
theorem rQ_qs {f g : Nat → Int32} {t : Int32} {p : Int32 × Int32} {w : Bool} (h : rQ f g) (h1 : f 3 = nI 1) : rQ (qsF t p w f) (qsF t p w g) := by
  unfold qsF
  split
  · split
    · exact ⟨fun k a b d => upd_k (h.1 k a b d) rfl, fun _ => rfl, fun k => h.2.2 k⟩
    · exact rQ_fetch h.1
  · unfold mFail
    rw [h.o 8]
    split
    · exact ⟨fun k a b d => upd_k (upd_k (h.1 k a b d) rfl) rfl, fun _ => rfl, fun k => h.2.2 k⟩
    · exact rQ_resc (fun k a b d => upd_k (h.1 k a b d) rfl)
theorem rQ_go {f g : Nat → Int32} {fc nx s : Int32} (h : ∀ k, k < 16 → k ≠ 13 → k ≠ 14 → g k = f k) : rQ (goF fc nx s f) (goF fc nx s g) := by
  unfold goF
  rw [h 12 (by decide) (by decide) (by decide)]
  split
  · exact ⟨fun k a b d => upd_k (upd_k (upd_k (h k a b d) rfl) rfl) rfl, fun k => absurd k (by show ¬ nI 3 = nI 1; decide), fun _ => rfl⟩
  · split
    · exact rQ_resc h
    · exact rQ_fetch h
theorem rQ_rcv {f g : Nat → Int32} {fc t : Int32} {bl nx : Nat → Int32} {a b c : Bool} (h : rQ f g) (h2 : f 3 = nI 2) : rQ (rcvF fc bl nx t a b c f) (rcvF fc bl nx t a b c g) := by
  have up : ∀ k v, k ≠ 3 → k ≠ 13 → k ≠ 14 → rQ (upd f k v) (upd g k v) := by
    intro k v k3 k13 k14
    refine ⟨fun j p q r => upd_k (h.1 j p q r) rfl, fun j => ?_, fun j => ?_⟩
    · rw [upd_o (fun e => k3 e.symm), h2] at j; exact absurd j (by decide)
    · rw [upd_o (fun e => k14 e.symm), upd_o (fun e => k14 e.symm)]; exact h.2.2 (Or.inl h2)
  unfold rcvF
  rw [h.o 5, h.o 4]
  split
  · unfold mNone
    rw [h.o 10]
    split
    · exact up 10 _ (by decide) (by decide) (by decide)
    · exact rQ_resc (fun k a b d => upd_k (h.1 k a b d) rfl)
  · split
    · unfold mWrong
      rw [h.o 9]
      split
      · exact up 9 _ (by decide) (by decide) (by decide)
      · exact rQ_resc (fun k a b d => upd_k (h.1 k a b d) rfl)
    · split
      · refine ⟨fun k a b d => upd_k (upd_k (h.1 k a b d) rfl) rfl, fun k => ?_, fun _ => h.2.2 (Or.inl h2)⟩
        exact absurd (show f 3 = nI 1 from k) (by rw [h2]; decide)
      · exact rQ_go (fun k a b d => upd_k (upd_k (h.1 k a b d) rfl) rfl)
theorem rQ_wr {f g : Nat → Int32} {n : Int32} (h : rQ f g) (h3 : f 3 = nI 3) : rQ (mWrite n f) (mWrite n g) := by
  unfold mWrite
  rw [h.o 5, h.o 4]
  split
  · exact rQ_no (fun k a b d => en_c _ (upd_k (h.1 k a b d) rfl)) (nI 4) rfl (by decide)
  · exact ⟨fun k a b d => upd_k (h.1 k a b d) rfl, fun k => absurd (show f 3 = nI 1 from k) (by rw [h3]; decide), fun _ => h.2.2 (Or.inr h3)⟩
theorem rQ.want {f g : Nat → Int32} (h : rQ f g) (t : Int32) : wantB t g = wantB t f := by
  unfold wantB
  rw [h.o 3]
  by_cases e : f 3 = nI 2
  · rw [h.2.2 (Or.inl e)]
  · rw [decide_eq_false (fun k => e k.1), decide_eq_false (fun k => e k.1)]
theorem rQ.kn {f g : Nat → Int32} (h : rQ f g) : kN g = kN f := by unfold kN; rw [h.o 0]
theorem rQ.vq {f g : Nat → Int32} (h : rQ f g) (t : Int32) : vqF t g = vqF t f := by unfold vqF; rw [h.o 0, h.o 1, h.o 2, h.o 8, h.o 9, h.o 11]
theorem rQ.blk {f g : Nat → Int32} (h : rQ f g) : blkN g = blkN f := by unfold blkN; rw [h.o 4, h.o 5]
theorem rQ.rn {f g : Nat → Int32} (h : rQ f g) (hn : rN f) : rN g := by unfold rN; rw [h.o 3, h.o 7, h.o 8, h.o 9, h.o 10, h.o 12]; exact hn
def EqQ (mc : Nat) (F F' : Nat → Nat → Int32) : Prop := ∀ i, i < mc → rQ (F i) (F' i)
theorem EqQ.up {mc i : Nat} {F F' : Nat → Nat → Int32} {f g : Nat → Int32} (h : EqQ mc F F') (k : i < mc → rQ f g) : EqQ mc (va_up F i f) (va_up F' i g) := by
  intro j hj
  by_cases e : j = i
  · subst e; rw [va_up_self, va_up_self]; exact k hj
  · rw [va_up_ne _ _ e, va_up_ne _ _ e]; exact h j hj
theorem EqQ.waits {mc m : Nat} {F F' : Nat → Nat → Int32} {x : Int32} (h : EqQ mc F F') : waitsF mc F' m x = waitsF mc F m x := anyN_cong (fun k hk => by rw [(h k hk).kn, (h k hk).o 3])
theorem EqQ.kok {mc : Nat} {F F' : Nat → Nat → Int32} (h : EqQ mc F F') (k : kOk mc F) : kOk mc F' := by
  intro i hi
  rw [(h i hi).kn, (h i hi).o 0]
  exact k i hi
/-! what else stays true of a row -/
theorem c0_le {b : Nat} : cN (nI 0) ≤ b := by rw [cN_nI (by decide)]; exact Nat.zero_le b
theorem rN_pw {f : Nat → Int32} {c : Bool} {w t : Int32} (h : rN f) : rN (pw1 c w t f) := by
  unfold pw1
  split
  · exact ⟨fun _ => ⟨rfl, ⟨rfl, c0_le⟩, ⟨rfl, c0_le⟩, ⟨rfl, c0_le⟩⟩, fun k => absurd k (by show ¬ nI 0 = nI 2; decide)⟩
  · split
    · exact ⟨fun _ => ⟨rfl, ⟨rfl, c0_le⟩, ⟨rfl, c0_le⟩, ⟨rfl, c0_le⟩⟩, fun k => absurd k (by show ¬ nI 1 = nI 2; decide)⟩
    · exact h
theorem rN_reset {f : Nat → Int32} : rN (mReset f) := ⟨fun _ => ⟨rfl, ⟨rfl, c0_le⟩, ⟨rfl, c0_le⟩, ⟨rfl, c0_le⟩⟩, fun k => absurd k (by show ¬ nI 0 = nI 2; decide)⟩
theorem rN_resc {f : Nat → Int32} {y : Int32} : rN (mRescue y f) := ⟨fun k => absurd rfl k, fun k => absurd k (by show ¬ nI 5 = nI 2; decide)⟩
theorem cnt_up {x : Int32} {b : Nat} (h : x = nI (cN x)) (hb : cN x ≤ b) (hB : b < 1000) (hl : x + nI 1 < nI (b + 1)) : x + nI 1 = nI (cN (x + nI 1)) ∧ cN (x + nI 1) ≤ b := by
  have e : x + nI 1 = nI (cN x + 1) := by rw [h, nI_add, cN_nI (by omega)]
  rw [e, cN_nI (by omega)]
  rw [e] at hl
  have := (nI_ltI (by omega) (by omega)).mp hl
  exact ⟨rfl, by omega⟩
theorem rN_fetch {f : Nat → Int32} {a c : Int32} {b : Nat} (h : rN f) (h5 : f 3 ≠ nI 5) (hb : b ≤ 3) : rN (mFetch a (nI b) c f) := by
  obtain ⟨-, h8, h9, h10⟩ := h.1 h5
  refine ⟨fun _ => ⟨rfl, h8, h9, h10⟩, fun _ => ?_⟩
  show nI b = nI (cN (nI b)) ∧ cN (nI b) ≤ 3
  rw [cN_nI (by omega)]
  exact ⟨rfl, hb⟩
theorem rN_qs {f : Nat → Int32} {t : Int32} {p : Int32 × Int32} {w : Bool} (h : rN f) (h1 : f 3 = nI 1) : rN (qsF t p w f) := by
  have h5 : f 3 ≠ nI 5 := by rw [h1]; decide
  obtain ⟨h7, h8, h9, h10⟩ := h.1 h5
  unfold qsF
  split
  · split
    · exact ⟨fun _ => ⟨h7, h8, h9, h10⟩, fun k => absurd (show f 3 = nI 2 from k) (by rw [h1]; decide)⟩
    · exact rN_fetch h h5 (by decide)
  · unfold mFail
    split
    · rename_i hl
      exact ⟨fun _ => ⟨h7, cnt_up h8.1 h8.2 (by decide) hl, h9, h10⟩, fun k => absurd (show f 3 = nI 2 from k) (by rw [h1]; decide)⟩
    · exact rN_resc
theorem rN_rcv {f : Nat → Int32} {fc t : Int32} {bl nx : Nat → Int32} {a b c : Bool} (h : rN f) (h2 : f 3 = nI 2) : rN (rcvF fc bl nx t a b c f) := by
  have h5 : f 3 ≠ nI 5 := by rw [h2]; decide
  obtain ⟨h7, h8, h9, h10⟩ := h.1 h5
  have h12 := h.2 h2
  unfold rcvF
  split
  · unfold mNone
    split
    · rename_i hl
      exact ⟨fun _ => ⟨h7, h8, h9, cnt_up h10.1 h10.2 (by decide) hl⟩, fun _ => h12⟩
    · exact rN_resc
  · split
    · unfold mWrong
      split
      · rename_i hl
        exact ⟨fun _ => ⟨h7, h8, cnt_up h9.1 h9.2 (by decide) hl, h10⟩, fun _ => h12⟩
      · exact rN_resc
    · have hn : rN (upd (upd f 10 (nI 0)) 5 (f 5 + nI 1)) := ⟨fun _ => ⟨h7, h8, h9, ⟨rfl, c0_le⟩⟩, fun _ => h12⟩
      split
      · exact hn
      · unfold goF
        split
        · exact ⟨fun _ => ⟨h7, h8, h9, ⟨rfl, c0_le⟩⟩, fun k => absurd k (by show ¬ nI 3 = nI 2; decide)⟩
        · split
          · exact rN_resc
          · rename_i hl
            have hl : ¬ (nI 4 ≤ f 12 + nI 1 ∨ fc ≤ _) := hl
            have e : f 12 + nI 1 = nI (cN (f 12) + 1) := by rw [h12.1, nI_add, cN_nI (by omega)]
            show rN (mFetch _ (f 12 + nI 1) _ _)
            rw [e]
            refine rN_fetch hn h5 ?_
            rcases Nat.lt_or_ge (cN (f 12)) 3 with g | g
            · omega
            · exact absurd (Or.inl (by rw [e]; exact nI_le (by omega) (by omega))) hl
theorem rN_wr {f : Nat → Int32} {n : Int32} (h : rN f) (h3 : f 3 = nI 3) : rN (mWrite n f) := by
  have h5 : f 3 ≠ nI 5 := by rw [h3]; decide
  obtain ⟨h7, h8, h9, h10⟩ := h.1 h5
  unfold mWrite
  split
  · exact ⟨fun _ => ⟨rfl, h8, h9, h10⟩, fun k => absurd k (by show ¬ nI 4 = nI 2; decide)⟩
  · exact ⟨fun _ => ⟨h7, h8, h9, h10⟩, fun k => absurd (show f 3 = nI 2 from k) (by rw [h3]; decide)⟩
/-- what stays true of all rows -/
def iV (h : hQ) (fc : Nat) (F : Nat → Nat → Int32) : Prop := inF h fc F ∧ ∀ i, i < hMc h → rN (F i)
theorem iV.up {h : hQ} {fc i : Nat} {F : Nat → Nat → Int32} {f : Nat → Int32} (hv : iV h fc F) (h0 : f 0 = F i 0) (ho : i < hMc h → fOk fc (hBl h) f) (hn : i < hMc h → rN f) : iV h fc (va_up F i f) := by
  refine ⟨⟨kOk_up hv.1.1 h0, allOk_up hv.1.2 ho⟩, fun j hj => ?_⟩
  by_cases e : j = i
  · subst e; rw [va_up_self]; exact hn hj
  · rw [va_up_ne _ _ e]; exact hv.2 j hj
theorem iV_pwS {h : hQ} {fc i : Nat} {F : Nat → Nat → Int32} (t : Nat) (hi : i < hMc h) (hv : iV h fc F) : iV h fc (pwS (hCut h t) (hWk h) (nI t) i F) :=
  hv.up (m0_pw _ _ _ _) (fun _ => fOk_pw (hv.1.2 i hi)) (fun _ => rN_pw (hv.2 i hi))
theorem iV_askS {h : hQ} {fc i : Nat} {F : Nat → Nat → Int32} (hh : hOk h fc) (t : Nat) (hi : i < hMc h) (hv : iV h fc F) : iV h fc (askS (hMc h) (nI t) (hLost h t) (hDown h t) (hAn h) (hAh h) i F) := by
  unfold askS
  split
  · rename_i hc
    exact hv.up (m0_qs _ _ _ _) (fun _ => fOk_qs hh (hrd_ok hh _ _ _) hc.1) (fun _ => rN_qs (hv.2 i hi) hc.1)
  · exact hv
theorem iV_insS {h : hQ} {fc i : Nat} {F : Nat → Nat → Int32} (t : Nat) (hi : i < hMc h) (hv : iV h fc F) : iV h fc (insS (hBl h) (nI t) i F) := by
  unfold insS
  split
  · rename_i hc
    exact hv.up (m0_write _ _) (fun _ => fOk_write (hv.1.2 i hi) hc.1) (fun _ => rN_wr (hv.2 i hi) hc.1)
  · exact hv
theorem rvL_at {step : Nat → (Nat → Int32) → Nat → Int32} : ∀ {L : List Nat} {F : Nat → Nat → Int32} {i : Nat}, L.Nodup → rvL step L F i = if i ∈ L then step i (F i) else F i
  | [], F, i, _ => by rw [if_neg List.not_mem_nil]; rfl
  | a :: L, F, i, h => by
    obtain ⟨h1, h2⟩ := List.nodup_cons.mp h
    show rvL step L (va_up F a (step a (F a))) i = _
    rw [rvL_at h2]
    by_cases e : i = a
    · subst e
      rw [if_neg h1, va_up_self, if_pos List.mem_cons_self]
    · rw [va_up_ne _ _ e]
      by_cases hm : i ∈ L
      · rw [if_pos hm, if_pos (List.mem_cons_of_mem _ hm)]
      · rw [if_neg hm, if_neg (fun k => (List.mem_cons.mp k).elim e hm)]
theorem iV_rv {h : hQ} {fc : Nat} {F : Nat → Nat → Int32} (hh : hOk h fc) {t : Nat} {ls : Nat → Int32} (hv : iV h fc F) : iV h fc (fRv h t F ls) := by
  have hl := line_ex (nI t) (hMc h) F
  refine ⟨inF_rv hh hl hv.1, fun i hi => ?_⟩
  unfold fRv
  rw [rvL_at (line_nodup hl.2)]
  split
  · rename_i hm
    exact rN_rcv (hv.2 i hi) (of_decide_eq_true ((hl.1 i).mp hm).2).1
  · exact hv.2 i hi
theorem iV_crk {h : hQ} {fc : Nat} (hh : hOk h fc) (t : Nat) {c : rC} (hv : iV h fc c.1) : iV h fc (crk h t c).1 := by
  have h1 : iV h fc (fPw h t c.1) := itN_inv (P := iV h fc) hv (fun i s hi hs => iV_pwS t hi hs)
  have h2 : iV h fc (fAsk h t (fPw h t c.1)) := itN_inv (P := iV h fc) h1 (fun i s hi hs => iV_askS hh t hi hs)
  exact itN_inv (P := iV h fc) (iV_rv hh h2) (fun i s hi hs => iV_insS t hi hs)
theorem iV_crs {h : hQ} {fc : Nat} {c : rC} (hk : kOk (hMc h) c.1) : iV h fc (crs h c).1 := by
  refine ⟨inF_rs hk, fun i hi => ?_⟩
  show rN (itN _ (hMc h) c.1 i)
  rw [rs_at hi]
  exact rN_reset
theorem iV_run {h : hQ} {fc : Nat} (hh : hOk h fc) {c : rC} (hk : kOk (hMc h) c.1) : ∀ n, iV h fc (itN (crk h) n (crs h c)).1
  | 0 => iV_crs hk
  | n + 1 => by rw [itN_s]; exact iV_crk hh n (iV_run hh hk n)
/-- a line holds no more than there are MACHINES -/
theorem nodup_len : ∀ {n : Nat} {L : List Nat}, L.Nodup → (∀ i, i ∈ L → i < n) → L.length ≤ n
  | 0, [], _, _ => Nat.le_refl 0
  | 0, a :: L, _, h => absurd (h a List.mem_cons_self) (Nat.not_lt_zero a)
  | n + 1, L, hn, h => by
    have h2 : (L.erase n).length ≤ n := nodup_len (hn.erase n) (fun i hi => by
      have := (List.Nodup.mem_erase_iff hn).mp hi
      have := h i this.2
      omega)
    by_cases e : n ∈ L
    · rw [List.length_erase_of_mem e] at h2; omega
    · rw [List.erase_of_not_mem e] at h2; omega
/-- the last sendings lie before TICK t -/
def lsOk (t : Nat) (ls : Nat → Int32) : Prop := ∀ b, b < 72 → ∀ u, t ≤ u → u < 1000 → ls b ≠ nI u
theorem lsOk_sd {w : Int32} {t : Nat} (ht : t < 300) {F : Nat → Nat → Int32} : ∀ (L : List Nat) (s : Int32 × (Nat → Int32) × (Nat → Int32)), lsOk (t + 1) s.2.1 → lsOk (t + 1) (sdL w (nI t) F L s).2.1
  | [], _, h => h
  | a :: L, s, h => by
    refine lsOk_sd ht L _ ?_
    show lsOk (t + 1) (sdS w (nI t) (blkN (F a)) s).2.1
    unfold sdS
    split
    · exact h
    · intro b hb u hu hu2
      by_cases e : b = blkN (F a)
      · subst e
        show upd _ _ _ _ ≠ _
        rw [upd_s]
        exact fun k => absurd ((nI_eq (by omega) (by omega)).mp k) (by omega)
      · show upd _ _ _ _ ≠ _
        rw [upd_o e]
        exact h b hb u hu hu2
theorem lsOk_run {h : hQ} {c : rC} : ∀ n, n ≤ 300 → lsOk n (itN (crk h) n (crs h c)).2.2.1
  | 0, _ => fun b hb u _ hu => by
    show fillR _ _ _ b ≠ _
    unfold fillR
    rw [if_pos hb]
    intro k
    have := congrArg Int32.toInt k
    rw [nI_toInt (by omega)] at this
    have e : (-1 : Int32).toInt = -1 := rfl
    omega
  | n + 1, hn => by
    rw [itN_s]
    exact lsOk_sd (by omega) _ _ (fun b hb u hu hu2 => lsOk_run n (by omega) b hb u (by omega) hu2)
/-- KIND, place and mark stay -/
theorem ks_enter {f : Nat → Int32} {p : Int32} : ∀ {k}, k < 3 → mEnter p f k = f k
  | 0, _ => rfl
  | 1, _ => rfl
  | 2, _ => rfl
def k3 (f g : Nat → Int32) : Prop := g 0 = f 0 ∧ g 1 = f 1 ∧ g 2 = f 2
theorem k3.refl {f : Nat → Int32} : k3 f f := ⟨rfl, rfl, rfl⟩
theorem k3_pw {c : Bool} {w t : Int32} {f : Nat → Int32} : k3 f (pw1 c w t f) := by
  unfold pw1
  split
  · exact ⟨rfl, rfl, rfl⟩
  · split <;> exact ⟨rfl, rfl, rfl⟩
theorem k3_qs {t : Int32} {p : Int32 × Int32} {w : Bool} {f : Nat → Int32} : k3 f (qsF t p w f) := by
  unfold qsF
  split
  · split <;> exact ⟨rfl, rfl, rfl⟩
  · unfold mFail
    split <;> exact ⟨rfl, rfl, rfl⟩
theorem k3_rcv {fc t : Int32} {bl nx : Nat → Int32} {a b c : Bool} {f : Nat → Int32} : k3 f (rcvF fc bl nx t a b c f) := by
  unfold rcvF
  split
  · unfold mNone
    split <;> exact ⟨rfl, rfl, rfl⟩
  · split
    · unfold mWrong
      split <;> exact ⟨rfl, rfl, rfl⟩
    · split
      · exact ⟨rfl, rfl, rfl⟩
      · unfold goF
        split
        · exact ⟨rfl, rfl, rfl⟩
        · split <;> exact ⟨rfl, rfl, rfl⟩
theorem k3_wr {n : Int32} {f : Nat → Int32} : k3 f (mWrite n f) := by
  unfold mWrite
  split <;> exact ⟨rfl, rfl, rfl⟩
theorem k3.trans {f g e : Nat → Int32} (h : k3 f g) (k : k3 g e) : k3 f e := ⟨k.1.trans h.1, k.2.1.trans h.2.1, k.2.2.trans h.2.2⟩
def K3 (F F' : Nat → Nat → Int32) : Prop := ∀ i, k3 (F i) (F' i)
theorem K3.up {F F' : Nat → Nat → Int32} {i : Nat} {f : Nat → Int32} (h : K3 F F') (h0 : k3 (F' i) f) : K3 F (va_up F' i f) := by
  intro j
  by_cases e : j = i
  · subst e; rw [va_up_self]; exact (h j).trans h0
  · rw [va_up_ne _ _ e]; exact h j
theorem K3_rv {F : Nat → Nat → Int32} {fc t : Int32} {bl nx : Nat → Int32} {lo wr : Nat → Bool} {ls : Nat → Int32} : ∀ (L : List Nat) (F' : Nat → Nat → Int32), K3 F F' → K3 F (rvL (rvS fc bl nx t lo wr ls) L F')
  | [], _, h => h
  | a :: L, F', h => K3_rv L _ (h.up k3_rcv)
theorem K3_crk (h : hQ) (t : Nat) {F : Nat → Nat → Int32} {c : rC} (hk : K3 F c.1) : K3 F (crk h t c).1 := by
  have h1 : K3 F (fPw h t c.1) := itN_inv (P := K3 F) hk (fun i s _ hs => hs.up k3_pw)
  have h2 : K3 F (fAsk h t (fPw h t c.1)) := itN_inv (P := K3 F) h1 (fun i s _ hs => by
    unfold askS
    split
    · exact hs.up k3_qs
    · exact hs)
  have h3 := K3_rv (fc := hFc h) (t := nI t) (bl := hBl h) (nx := hNx h) (lo := hLost h t) (wr := hWr h t) (ls := (fSd h t (fAsk h t (fPw h t c.1)) c.2.2.1 c.2.1).2.1) (lineC (nI t) (hMc h) (fAsk h t (fPw h t c.1))) _ h2
  exact itN_inv (P := K3 F) h3 (fun i s _ hs => by
    unfold insS
    split
    · exact hs.up k3_wr
    · exact hs)
theorem K3_run (h : hQ) {F : Nat → Nat → Int32} {c : rC} (hk : K3 F c.1) : ∀ n, K3 F (itN (crk h) n (crs h c)).1
  | 0 => itN_inv (P := K3 F) hk (fun i s _ hs => hs.up ⟨rfl, rfl, rfl⟩)
  | n + 1 => by rw [itN_s]; exact K3_crk h n (K3_run h hk n)
/-! what the reference has been told, in the same words -/
def pgM (G : gS) (h : hQ) (k : Nat) : Prop := (∀ v v' : Nat → Int32, (∀ j, j < 7 → v j = v' j) → hAn h k v = hAn h k v' ∧ hAh h k v = hAh h k v') ∧ ∃ lv n aft num rels, G.1 18 k = nI lv ∧ lv < 2 ∧ pgOk G (2 * k + lv) n aft num rels ∧ ∀ v, hAn h k v = chR (hFc h) aft (fun r => hm v (rels r)) num n 0 (-1) ∧ (0 ≤ hAn h k v → hAh h k v = ahR aft (fun r => hm v (rels r)) num n 0 (nI 0))
def relM (G : gS) (h : hQ) (fc wd : Nat) : Prop := G.1 100 36 = nI (hMc h) ∧ hMc h ≤ 8 ∧ G.1 100 41 = hFc h ∧ hFc h = nI fc ∧ fc ≤ 6 ∧ G.1 100 44 = hWd h ∧ hWd h = nI wd ∧ 1 ≤ wd ∧ wd ≤ 8 ∧ (∀ f, f < fc → G.1 42 f = hBl h f ∧ G.1 43 f = hNx h f) ∧ (∀ k, k < 4 → G.1 40 k = hWk h k) ∧ (∀ i, i < hMc h → ∀ t, t < 300 → G.1 47 (300 * i + t) = bI (hCut h t i) ∧ G.1 46 (300 * i + t) = bI (hLost h t i)) ∧ (∀ k, k < 2 → ∀ t, t < 300 → G.1 48 (300 * k + t) = bI (hDown h t k)) ∧ (∀ b, b < 72 → ∀ t, t < 300 → G.1 49 (300 * b + t) = bI (hWr h t b)) ∧ ∀ k, k < 2 → pgM G h k
def relS (r : Nat) : Prop := r = 18 ∨ (20 ≤ r ∧ r ≤ 33) ∨ r = 40 ∨ r = 42 ∨ r = 43 ∨ (46 ≤ r ∧ r ≤ 49)
theorem pgM.fr {S : Nat → Prop} {G G' : gS} {h : hQ} {k : Nat} (hm : pgM G h k) (hF : Fr S G G') (hS : ∀ r, relS r → ¬ S r) : pgM G' h k := by
  obtain ⟨h1, lv, n, aft, num, rels, h2, h3, h4, h5⟩ := hm
  refine ⟨h1, lv, n, aft, num, rels, ?_, h3, h4.fr hF (fun k a b => hS k (Or.inr (Or.inl ⟨a, b⟩))), h5⟩
  rw [hF.1 _ (hS 18 (Or.inl rfl))]
  exact h2
theorem relM.fr {S : Nat → Prop} {G G' : gS} {h : hQ} {fc wd : Nat} (hm : relM G h fc wd) (hF : Fr S G G') (hS : ∀ r, relS r → ¬ S r) (h36 : G'.1 100 36 = G.1 100 36) (h41 : G'.1 100 41 = G.1 100 41) (h44 : G'.1 100 44 = G.1 100 44) : relM G' h fc wd := by
  obtain ⟨a1, a2, a3, a4, a5, a6, a7, a8, a9, b1, b2, b3, b4, b5, b6⟩ := hm
  have e40 := hF.1 _ (hS 40 (by unfold relS; omega))
  have e42 := hF.1 _ (hS 42 (by unfold relS; omega))
  have e43 := hF.1 _ (hS 43 (by unfold relS; omega))
  have e46 := hF.1 _ (hS 46 (by unfold relS; omega))
  have e47 := hF.1 _ (hS 47 (by unfold relS; omega))
  have e48 := hF.1 _ (hS 48 (by unfold relS; omega))
  have e49 := hF.1 _ (hS 49 (by unfold relS; omega))
  unfold relM
  rw [h36, h41, h44, e40, e42, e43, e46, e47, e48, e49]
  exact ⟨a1, a2, a3, a4, a5, a6, a7, a8, a9, b1, b2, b3, b4, b5, fun k hk => (b6 k hk).fr hF hS⟩
