/-! a whole run, and what stays true in it -/
/-- what has been told, as a run needs it: MACHINES, FILES, width, blocks, nexts, WAKES, cut, lost, down, wrong (by TICK), the keepers' answers, the KINDS ahead -/
abbrev hQ : Type := Nat × Int32 × Int32 × (Nat → Int32) × (Nat → Int32) × (Nat → Int32) × (Nat → Nat → Bool) × (Nat → Nat → Bool) × (Nat → Nat → Bool) × (Nat → Nat → Bool) × (Nat → (Nat → Int32) → Int32) × (Nat → (Nat → Int32) → Int32)
def hMc (h : hQ) : Nat := h.1
def hFc (h : hQ) : Int32 := h.2.1
def hWd (h : hQ) : Int32 := h.2.2.1
def hBl (h : hQ) : Nat → Int32 := h.2.2.2.1
def hNx (h : hQ) : Nat → Int32 := h.2.2.2.2.1
def hWk (h : hQ) : Nat → Int32 := h.2.2.2.2.2.1
def hCut (h : hQ) : Nat → Nat → Bool := h.2.2.2.2.2.2.1
def hLost (h : hQ) : Nat → Nat → Bool := h.2.2.2.2.2.2.2.1
def hDown (h : hQ) : Nat → Nat → Bool := h.2.2.2.2.2.2.2.2.1
def hWr (h : hQ) : Nat → Nat → Bool := h.2.2.2.2.2.2.2.2.2.1
def hAn (h : hQ) : Nat → (Nat → Int32) → Int32 := h.2.2.2.2.2.2.2.2.2.2.1
def hAh (h : hQ) : Nat → (Nat → Int32) → Int32 := h.2.2.2.2.2.2.2.2.2.2.2
/-- a run's state: the MACHINES' rows, sendings by TICK, times sent by block, last TICK sent by block, all sent, the last TICK that wasn't settled, the record -/
abbrev rS : Type := (Nat → Nat → Int32) × (Nat → Int32) × (Nat → Int32) × (Nat → Int32) × Int32 × Int32 × (Nat → Int64)
def fPw (h : hQ) (t : Nat) (F : Nat → Nat → Int32) : Nat → Nat → Int32 := itN (pwS (hCut h t) (hWk h) (nI t)) (hMc h) F
def fAsk (h : hQ) (t : Nat) (F : Nat → Nat → Int32) : Nat → Nat → Int32 := itN (askS (hMc h) (nI t) (hLost h t) (hDown h t) (hAn h) (hAh h)) (hMc h) F
noncomputable def fSd (h : hQ) (t : Nat) (F : Nat → Nat → Int32) (ls ts : Nat → Int32) : Int32 × (Nat → Int32) × (Nat → Int32) := sdL (hWd h) (nI t) F (lineC (nI t) (hMc h) F) (nI 0, ls, ts)
noncomputable def fRv (h : hQ) (t : Nat) (F : Nat → Nat → Int32) (ls : Nat → Int32) : Nat → Nat → Int32 := rvL (rvS (hFc h) (hBl h) (hNx h) (nI t) (hLost h t) (hWr h t) ls) (lineC (nI t) (hMc h) F) F
def fIn (h : hQ) (t : Nat) (F : Nat → Nat → Int32) : Nat → Nat → Int32 := itN (insS (hBl h) (nI t)) (hMc h) F
/-- one TICK -/
noncomputable def tkF (h : hQ) (keep : Bool) (t : Nat) (s : rS) : rS :=
  let F2 := fAsk h t (fPw h t s.1)
  let S := fSd h t F2 s.2.2.2.1 s.2.2.1
  let F4 := fIn h t (fRv h t F2 S.2.1)
  (F4, upd s.2.1 t S.1, S.2.2, S.2.1, s.2.2.2.2.1 + S.1, if doneF (hMc h) F4 then s.2.2.2.2.2.1 else nI t, if keep then kpL t F4 (hMc h) s.2.2.2.2.2.2 else s.2.2.2.2.2.2)
def rsF (h : hQ) (s : rS) : rS := (itN (fun i F => va_up F i (mReset (F i))) (hMc h) s.1, s.2.1, fillR s.2.2.1 (nI 0) 72, fillR s.2.2.2.1 (-1) 72, nI 0, -1, s.2.2.2.2.2.2)
/-- what has been told is in range -/
def hOk (h : hQ) (fc : Nat) : Prop := hMc h ≤ 8 ∧ hFc h = nI fc ∧ fc ≤ 6 ∧ (∀ f, f < fc → hBl h f = nI (cN (hBl h f)) ∧ 1 ≤ cN (hBl h f) ∧ cN (hBl h f) ≤ 12) ∧ (∀ f, f < fc → hNx h f = -1 ∨ 0 ≤ hNx h f) ∧ (∀ k v, 0 ≤ hAn h k v → ¬ hFc h ≤ hAn h k v)
def allOk (n fc : Nat) (bl : Nat → Int32) (F : Nat → Nat → Int32) : Prop := ∀ i, i < n → fOk fc bl (F i)
theorem allOk_up {n fc : Nat} {bl : Nat → Int32} {F : Nat → Nat → Int32} {i : Nat} {f : Nat → Int32} (h : allOk n fc bl F) (hf : i < n → fOk fc bl f) : allOk n fc bl (va_up F i f) := by
  intro j hj
  by_cases e : j = i
  · subst e; rw [va_up_self]; exact hf hj
  · rw [va_up_ne _ _ e]; exact h j hj
theorem itN_inv {σ : Type} {step : Nat → σ → σ} {P : σ → Prop} : ∀ {n : Nat} {s : σ}, P s → (∀ i s, i < n → P s → P (step i s)) → P (itN step n s)
  | 0, _, h, _ => h
  | n + 1, s, h, hs => hs n _ (Nat.lt_succ_self n) (itN_inv h (fun i s hi => hs i s (by omega)))
theorem fOk_ne {fc : Nat} {bl : Nat → Int32} {f : Nat → Int32} (h2 : f 3 ≠ nI 2) (h3 : f 3 ≠ nI 3) : fOk fc bl f := ⟨fun h => absurd h h2, fun h => absurd h h3⟩
theorem fOk_pw {fc : Nat} {bl : Nat → Int32} {f : Nat → Int32} {c : Bool} {w t : Int32} (h : fOk fc bl f) : fOk fc bl (pw1 c w t f) := by
  unfold pw1
  split
  · exact fOk_ne (by show nI 0 ≠ nI 2; decide) (by show nI 0 ≠ nI 3; decide)
  · split
    · exact fOk_ne (by show nI 1 ≠ nI 2; decide) (by show nI 1 ≠ nI 3; decide)
    · exact h
theorem fOk_resc {fc : Nat} {bl : Nat → Int32} {f : Nat → Int32} {y : Int32} : fOk fc bl (mRescue y f) := fOk_ne (by show nI 5 ≠ nI 2; decide) (by show nI 5 ≠ nI 3; decide)
theorem fOk_fetch {h : hQ} {fc : Nat} {f : Nat → Int32} {a b c : Int32} (hh : hOk h fc) (h0 : 0 ≤ a) (h1 : ¬ hFc h ≤ a) : fOk fc (hBl h) (mFetch a b c f) := by
  obtain ⟨-, e1, e2, e3, -, -⟩ := hh
  obtain ⟨j, hj, rfl⟩ := nI_of (Int32.not_lt.mpr h0)
  have hjf : j < fc := by
    rcases Nat.lt_or_ge j fc with g | g
    · exact g
    · exact absurd (by rw [e1]; exact nI_le g hj) h1
  obtain ⟨b1, b2, b3⟩ := e3 j hjf
  refine ⟨fun _ => ?_, fun k => absurd k (by show ¬ nI 2 = nI 3; decide)⟩
  show nI j = nI (cN (nI j)) ∧ cN (nI j) < fc ∧ nI 0 = nI (cN (nI 0)) ∧ cN (nI 0) < 12 ∧ ¬ hBl h (cN (nI j)) ≤ nI 0
  rw [cN_nI hj]
  refine ⟨rfl, hjf, by decide, by decide, ?_⟩
  rw [b1]
  exact nI_ge (by omega) (by omega)
theorem fOk_qs {h : hQ} {fc : Nat} {f : Nat → Int32} {t : Int32} {p : Int32 × Int32} {w : Bool} (hh : hOk h fc) (hp : 0 ≤ p.1 → ¬ hFc h ≤ p.1) (h1 : f 3 = nI 1) : fOk fc (hBl h) (qsF t p w f) := by
  unfold qsF
  split
  · rename_i h0
    split
    · exact fOk_ne (by show f 3 ≠ nI 2; rw [h1]; decide) (by show f 3 ≠ nI 3; rw [h1]; decide)
    · exact fOk_fetch hh h0 (hp h0)
  · unfold mFail
    split
    · exact fOk_ne (by show f 3 ≠ nI 2; rw [h1]; decide) (by show f 3 ≠ nI 3; rw [h1]; decide)
    · exact fOk_resc
theorem hrd_ok {h : hQ} {fc : Nat} (hh : hOk h fc) (l : Bool) (d : Nat → Bool) (v : Nat → Int32) : 0 ≤ (hrd l d (hAn h) (hAh h) v).1 → ¬ hFc h ≤ (hrd l d (hAn h) (hAh h) v).1 := by
  have key : ∀ k (p : Int32 × Int32), (0 ≤ p.1 → ¬ hFc h ≤ p.1) → 0 ≤ (hrd1 d (hAn h) (hAh h) v k p).1 → ¬ hFc h ≤ (hrd1 d (hAn h) (hAh h) v k p).1 := by
    intro k p hp
    unfold hrd1
    split
    · exact hh.2.2.2.2.2 k v
    · exact hp
  unfold hrd
  split
  · intro h0; exact absurd h0 (by decide)
  · exact key 1 _ (key 0 _ (fun h0 => absurd h0 (by decide)))
theorem fOk_go {h : hQ} {fc : Nat} {f : Nat → Int32} {s : Int32} {b : Nat} (hh : hOk h fc) (h4 : f 4 = nI (cN (f 4))) (hf : cN (f 4) < fc) (hb : b = cN (f 4)) : fOk fc (hBl h) (goF (hFc h) (hNx h b) s f) := by
  subst hb
  unfold goF
  split
  · exact ⟨fun k => absurd k (by show ¬ nI 3 = nI 2; decide), fun _ => ⟨h4, hf⟩⟩
  · split
    · exact fOk_resc
    · rename_i h1 h2
      exact fOk_fetch hh ((hh.2.2.2.2.1 _ hf).resolve_left h1) (fun k => h2 (Or.inr k))
theorem fOk_rcv {h : hQ} {fc : Nat} {f : Nat → Int32} {t : Int32} {a b c : Bool} (hh : hOk h fc) (ho : fOk fc (hBl h) f) (h2 : f 3 = nI 2) : fOk fc (hBl h) (rcvF (hFc h) (hBl h) (hNx h) t a b c f) := by
  obtain ⟨o1, o2, o3, o4, o5⟩ := ho.1 h2
  have hno : ∀ k v, k ≠ 3 → k ≠ 4 → k ≠ 5 → fOk fc (hBl h) (upd f k v) := by
    intro k v k3 k4 k5
    have e3 : upd f k v 3 = f 3 := upd_o (fun e => k3 e.symm)
    have e4 : upd f k v 4 = f 4 := upd_o (fun e => k4 e.symm)
    have e5 : upd f k v 5 = f 5 := upd_o (fun e => k5 e.symm)
    unfold fOk
    rw [e3, e4, e5]
    exact ho
  unfold rcvF
  split
  · unfold mNone
    split
    · exact hno 10 _ (by decide) (by decide) (by decide)
    · exact fOk_resc
  · split
    · unfold mWrong
      split
      · exact hno 9 _ (by decide) (by decide) (by decide)
      · exact fOk_resc
    · split
      · rename_i hlt
        have e5 : f 5 + nI 1 = nI (cN (f 5) + 1) := by rw [o3, nI_add, cN_nI (by omega)]
        obtain ⟨b1, b2, b3⟩ := hh.2.2.2.1 _ o2
        refine ⟨fun _ => ?_, fun k => absurd (show f 3 = nI 3 from k) (by rw [h2]; decide)⟩
        show f 4 = nI (cN (f 4)) ∧ cN (f 4) < fc ∧ f 5 + nI 1 = nI (cN (f 5 + nI 1)) ∧ cN (f 5 + nI 1) < 12 ∧ ¬ hBl h (cN (f 4)) ≤ f 5 + nI 1
        rw [e5, cN_nI (by omega)]
        rw [e5, b1] at hlt
        have := (nI_ltI (by omega) (by omega)).mp hlt
        refine ⟨o1, o2, rfl, by omega, ?_⟩
        rw [b1]
        exact nI_ge this (by omega)
      · exact fOk_go hh (f := upd (upd f 10 (nI 0)) 5 (f 5 + nI 1)) o1 o2 rfl
theorem fOk_write {h : hQ} {fc : Nat} {f : Nat → Int32} {n : Int32} (ho : fOk fc (hBl h) f) (h3 : f 3 = nI 3) : fOk fc (hBl h) (mWrite n f) := by
  unfold mWrite
  split
  · exact fOk_ne (by show nI 4 ≠ nI 2; decide) (by show nI 4 ≠ nI 3; decide)
  · exact ⟨fun k => absurd (show f 3 = nI 2 from k) (by rw [h3]; decide), fun _ => ho.2 h3⟩
/-- what stays true of the rows -/
def inF (h : hQ) (fc : Nat) (F : Nat → Nat → Int32) : Prop := kOk (hMc h) F ∧ allOk (hMc h) fc (hBl h) F
theorem inF_pw {h : hQ} {fc : Nat} {F : Nat → Nat → Int32} (t : Nat) (hi : inF h fc F) : inF h fc (fPw h t F) :=
  itN_inv (P := inF h fc) hi (fun i s hin hs => ⟨kOk_up hs.1 (m0_pw _ _ _ _), allOk_up hs.2 (fun _ => fOk_pw (hs.2 i hin))⟩)
theorem inF_ask {h : hQ} {fc : Nat} {F : Nat → Nat → Int32} (hh : hOk h fc) (t : Nat) (hi : inF h fc F) : inF h fc (fAsk h t F) :=
  itN_inv (P := inF h fc) hi (fun i s hin hs => by
    unfold askS
    split
    · rename_i hc
      exact ⟨kOk_up hs.1 (m0_qs _ _ _ _), allOk_up hs.2 (fun _ => fOk_qs hh (hrd_ok hh _ _ _) hc.1)⟩
    · exact hs)
theorem inF_in {h : hQ} {fc : Nat} {F : Nat → Nat → Int32} (t : Nat) (hi : inF h fc F) : inF h fc (fIn h t F) :=
  itN_inv (P := inF h fc) hi (fun i s hin hs => by
    unfold insS
    split
    · rename_i hc
      exact ⟨kOk_up hs.1 (m0_write _ _), allOk_up hs.2 (fun _ => fOk_write (hs.2 i hin) hc.1)⟩
    · exact hs)
theorem rvL_inv {h : hQ} {fc : Nat} (hh : hOk h fc) {t : Int32} {lo wr : Nat → Bool} {ls : Nat → Int32} : ∀ (L : List Nat) (F : Nat → Nat → Int32), inF h fc F → L.Nodup → (∀ i, i ∈ L → F i 3 = nI 2) → inF h fc (rvL (rvS (hFc h) (hBl h) (hNx h) t lo wr ls) L F)
  | [], _, hi, _, _ => hi
  | a :: L, F, hi, hn, hp => by
    obtain ⟨h1, h2⟩ := List.nodup_cons.mp hn
    refine rvL_inv hh L _ ⟨kOk_up hi.1 (m0_rcv _ _ _ _ _ _ _ _), allOk_up hi.2 (fun ha => fOk_rcv hh (hi.2 a ha) (hp a List.mem_cons_self))⟩ h2 (fun i hm => ?_)
    show va_up F a _ i 3 = nI 2
    rw [va_up_ne _ _ (show i ≠ a from fun e => h1 (by rw [← e]; exact hm))]
    exact hp i (List.mem_cons_of_mem _ hm)
theorem inF_rv {h : hQ} {fc : Nat} {F : Nat → Nat → Int32} (hh : hOk h fc) {t : Nat} {ls : Nat → Int32} (hl : lineOk (nI t) (hMc h) F (lineC (nI t) (hMc h) F)) (hi : inF h fc F) : inF h fc (fRv h t F ls) :=
  rvL_inv hh _ F hi (line_nodup hl.2) (fun i hm => (of_decide_eq_true ((hl.1 i).mp hm).2).1)
theorem fOk_reset {fc : Nat} {bl : Nat → Int32} {f : Nat → Int32} : fOk fc bl (mReset f) := fOk_ne (by show nI 0 ≠ nI 2; decide) (by show nI 0 ≠ nI 3; decide)
/-- behind a reset: every MACHINE is OFF -/
theorem rs_at {F : Nat → Nat → Int32} : ∀ {n : Nat} {i : Nat}, i < n → itN (fun i F => va_up F i (mReset (F i))) n F i = mReset (F i)
  | 0, i, h => absurd h (Nat.not_lt_zero i)
  | n + 1, i, h => by
    have key : ∀ m j, m ≤ j → itN (fun i F => va_up F i (mReset (F i))) m F j = F j := by
      intro m
      induction m with
      | zero => intro j _; rfl
      | succ m ihm => intro j hj; rw [itN_s, va_up_ne _ _ (by omega)]; exact ihm j (by omega)
    rw [itN_s]
    by_cases e : i = n
    · subst e; rw [va_up_self, key i i (Nat.le_refl _)]
    · rw [va_up_ne _ _ e]; exact rs_at (by omega)
theorem inF_rs {h : hQ} {fc : Nat} {F : Nat → Nat → Int32} (hk : kOk (hMc h) F) : inF h fc (itN (fun i F => va_up F i (mReset (F i))) (hMc h) F) := by
  refine ⟨itN_inv (P := kOk (hMc h)) hk (fun i s _ hs => kOk_up hs (m0_reset _)), fun i hi => ?_⟩
  rw [rs_at hi]
  exact fOk_reset
