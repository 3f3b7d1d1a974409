/-! when all is settled and nothing is cut any more, no TICK changes anything; so a run may stop early -/
abbrev rC : Type := (Nat → Nat → Int32) × (Nat → Int32) × (Nat → Int32) × Int32 × Int32
def cr (s : rS) : rC := (s.1, s.2.2.1, s.2.2.2.1, s.2.2.2.2.1, s.2.2.2.2.2.1)
noncomputable def crk (h : hQ) (t : Nat) (c : rC) : rC :=
  let F2 := fAsk h t (fPw h t c.1)
  let S := fSd h t F2 c.2.2.1 c.2.1
  let F4 := fIn h t (fRv h t F2 S.2.1)
  (F4, S.2.2, S.2.1, c.2.2.2.1 + S.1, if doneF (hMc h) F4 then c.2.2.2.2 else nI t)
theorem cr_tk (h : hQ) (kp : Bool) (t : Nat) (s : rS) : cr (tkF h kp t s) = crk h t (cr s) := rfl
theorem cr_it (h : hQ) (kp : Bool) (s : rS) : ∀ n, cr (itN (tkF h kp) n s) = itN (crk h) n (cr s)
  | 0 => rfl
  | n + 1 => by rw [itN_s, itN_s, cr_tk, cr_it h kp s n]
theorem itN_id {σ : Type} {step : Nat → σ → σ} {s : σ} : ∀ {n : Nat}, (∀ i, i < n → step i s = s) → itN step n s = s
  | 0, _ => rfl
  | n + 1, h => by rw [itN_s, itN_id (fun i hi => h i (by omega)), h n (by omega)]
theorem done_at {mc : Nat} {F : Nat → Nat → Int32} (h : doneF mc F = true) {i : Nat} (hi : i < mc) : F i 3 = nI 4 ∨ F i 3 = nI 5 := by
  have h1 : anyN (fun i => !mDone (F i)) mc = false := by
    unfold doneF at h
    cases e : anyN (fun i => !mDone (F i)) mc with
    | false => rfl
    | true => rw [e] at h; cases h
  cases hd : mDone (F i) with
  | true =>
    unfold mDone at hd
    simp only [Bool.or_eq_true, beq_iff_eq] at hd
    exact hd
  | false =>
    have := anyN_t (p := fun i => !mDone (F i)) (x := i) (by rw [hd]; rfl) hi
    rw [h1] at this; cases this
theorem crk_id {h : hQ} {t : Nat} {c : rC} (hd : doneF (hMc h) c.1 = true) (hc : ∀ i, i < hMc h → hCut h t i = false) : crk h t c = c := by
  obtain ⟨F, ts, ls, al, un⟩ := c
  have hF : ∀ i, i < hMc h → F i 3 = nI 4 ∨ F i 3 = nI 5 := fun i hi => done_at hd hi
  have e1 : fPw h t F = F := itN_id (fun i hi => by
    unfold pwS pw1
    rw [if_neg (by rw [hc i hi]; decide), if_neg (by rintro ⟨h0, -⟩; rcases hF i hi with e | e <;> rw [e] at h0 <;> exact absurd h0 (by decide))]
    exact va_up_id F i)
  have e2 : fAsk h t F = F := itN_id (fun i hi => by
    unfold askS
    rw [if_neg (by rintro ⟨h0, -⟩; rcases hF i hi with e | e <;> rw [e] at h0 <;> exact absurd h0 (by decide))])
  have e3 : lineC (nI t) (hMc h) F = [] := (lineC_eq ⟨fun i => ⟨fun k => absurd k List.not_mem_nil, fun k => by
    have h0 := (of_decide_eq_true k.2).1
    rcases hF i k.1 with e | e <;> rw [e] at h0 <;> exact absurd h0 (by decide)⟩, List.Pairwise.nil⟩).symm
  have e4 : fSd h t F ls ts = (nI 0, ls, ts) := by unfold fSd; rw [e3]; rfl
  have e5 : fRv h t F ls = F := by unfold fRv; rw [e3]; rfl
  have e6 : fIn h t F = F := itN_id (fun i hi => by
    unfold insS
    rw [if_neg (by rintro ⟨h0, -⟩; rcases hF i hi with e | e <;> rw [e] at h0 <;> exact absurd h0 (by decide))])
  unfold crk
  dsimp only at hd ⊢
  rw [e1, e2, e4]
  dsimp only
  rw [e5, e6, hd, if_pos rfl, show al + nI 0 = al from Int32.add_zero al]
theorem itN_stop {h : hQ} {c : rC} {n : Nat} (hd : doneF (hMc h) (itN (crk h) n c).1 = true) (hc : ∀ t i, n ≤ t → t < 300 → i < hMc h → hCut h t i = false) : ∀ m, n + m ≤ 300 → itN (crk h) (n + m) c = itN (crk h) n c
  | 0, _ => rfl
  | m + 1, hm => by
    rw [show n + (m + 1) = (n + m) + 1 by omega, itN_s, itN_stop hd hc m (by omega), crk_id hd (fun i hi => hc (n + m) i (by omega) (by omega) hi)]
/-- KINDS stay -/
def kin (F F' : Nat → Nat → Int32) : Prop := ∀ i, F' i 0 = F i 0
theorem kin_up {F F' : Nat → Nat → Int32} {i : Nat} {f : Nat → Int32} (h : kin F F') (h0 : f 0 = F' i 0) : kin F (va_up F' i f) := by
  intro j
  by_cases e : j = i
  · subst e; rw [va_up_self, h0]; exact h j
  · rw [va_up_ne _ _ e]; exact h j
theorem kin_rv {F : Nat → Nat → Int32} {fc t : Int32} {bl nx : Nat → Int32} {lo wr : Nat → Bool} {ls : Nat → Int32} : ∀ (L : List Nat) (F' : Nat → Nat → Int32), kin F F' → kin F (rvL (rvS fc bl nx t lo wr ls) L F')
  | [], _, h => h
  | a :: L, F', h => kin_rv L _ (kin_up h (m0_rcv _ _ _ _ _ _ _ _))
theorem kin_crk (h : hQ) (t : Nat) {F : Nat → Nat → Int32} {c : rC} (hk : kin F c.1) : kin F (crk h t c).1 := by
  have h1 : kin F (fPw h t c.1) := itN_inv (P := kin F) hk (fun i s _ hs => kin_up hs (m0_pw _ _ _ _))
  have h2 : kin F (fAsk h t (fPw h t c.1)) := itN_inv (P := kin F) h1 (fun i s _ hs => by
    unfold askS
    split
    · exact kin_up hs (m0_qs _ _ _ _)
    · exact hs)
  have h3 := kin_rv (fc := hFc h) (t := nI t) (bl := hBl h) (nx := hNx h) (lo := hLost h t) (wr := hWr h t) (ls := (fSd h t (fAsk h t (fPw h t c.1)) c.2.2.1 c.2.1).2.1) (lineC (nI t) (hMc h) (fAsk h t (fPw h t c.1))) _ h2
  exact itN_inv (P := kin F) h3 (fun i s _ hs => by
    unfold insS
    split
    · exact kin_up hs (m0_write _ _)
    · exact hs)
theorem wkRow_b {c : Nat} {s : Int32} {f g : Nat → Int32} {n : Nat} (h : ∀ k, n ≤ k → g k = f k) : wkRow c s g n = wkRow c s f n := by
  funext k
  simp only [wkRow]
  by_cases hk : k < n
  · simp [hk]
  · simp [hk, h k (by omega)]
noncomputable def crun (h : hQ) (c : rC) : rC := itN (crk h) 300 c
def crs (h : hQ) (c : rC) : rC := (itN (fun i F => va_up F i (mReset (F i))) (hMc h) c.1, fillR c.2.1 (nI 0) 72, fillR c.2.2.1 (-1) 72, nI 0, -1)
theorem cr_rs (h : hQ) (s : rS) : cr (rsF h s) = crs h (cr s) := rfl
theorem kin_run (h : hQ) {F : Nat → Nat → Int32} {c : rC} (hk : kin F c.1) : ∀ n, kin F (itN (crk h) n (crs h c)).1
  | 0 => itN_inv (P := kin F) hk (fun i s _ hs => kin_up hs (m0_reset _))
  | n + 1 => by rw [itN_s]; exact kin_crk h n (kin_run h hk n)
theorem inF_tk {h : hQ} {fc : Nat} (hh : hOk h fc) (t : Nat) {c : rC} (hi : inF h fc c.1) : inF h fc (crk h t c).1 :=
  inF_in t (inF_rv hh (line_ex _ _ _) (inF_ask hh t (inF_pw t hi)))
theorem inF_crun {h : hQ} {fc : Nat} (hh : hOk h fc) {c : rC} (hk : kOk (hMc h) c.1) : ∀ n, inF h fc (itN (crk h) n (crs h c)).1
  | 0 => inF_rs hk
  | n + 1 => by rw [itN_s]; exact inF_tk hh n (inF_crun hh hk n)
/-- other WAKES -/
def hW (h : hQ) (w : Nat → Int32) : hQ := (h.1, h.2.1, h.2.2.1, h.2.2.2.1, h.2.2.2.2.1, w, h.2.2.2.2.2.2)
theorem hW_W (h : hQ) (v w : Nat → Int32) : hW (hW h v) w = hW h w := rfl
theorem hW_ok {h : hQ} {fc : Nat} {w : Nat → Int32} (hh : hOk h fc) : hOk (hW h w) fc := hh
def endF (mc : Nat) (c : rC) : Int32 := if nI mc = 0 then nI 300 else c.2.2.2.2 + nI 1
def costF (mc : Nat) (c : rC) : Int32 := ((nI mc - bcP (upF c.1 mc)) * nI 301 + endF mc c) * nI 2401 + c.2.2.2.1
/-- one choice of a plan: the run's state, the best so far, its cost and end -/
noncomputable def plS (h : hQ) (s : Int32) (c : Nat) (p : rC × Nat × Int32 × Int32) : rC × Nat × Int32 × Int32 :=
  if badW (hMc h) p.1.1 c 4 = true then p else
    let r := crun (hW h (wkRow c s (hWk h) 4)) (crs h p.1)
    if costF (hMc h) r < p.2.2.1 then (r, c, costF (hMc h) r, endF (hMc h) r) else (r, p.2)
theorem wkRow_w (c d : Nat) (s : Int32) (f : Nat → Int32) (n : Nat) : wkRow c s (wkRow d s f n) n = wkRow c s f n := by
  funext k
  simp only [wkRow]
  by_cases h : k < n
  · simp [h]
  · simp [h]
theorem badW_0 (mc : Nat) (F : Nat → Nat → Int32) : badW mc F 0 4 = false := by
  have e : ∀ k, stp 0 k = 0 := fun k => by unfold stp; simp
  unfold badW
  simp [anyN, e]
theorem hasK_cong {mc : Nat} {F F' : Nat → Nat → Int32} (h : ∀ i, i < mc → F i 0 = F' i 0) (k : Int32) : hasK mc F k = hasK mc F' k := anyN_cong (fun i hi => by rw [h i hi])
theorem badW_cong {mc : Nat} {F F' : Nat → Nat → Int32} (h : ∀ i, i < mc → F i 0 = F' i 0) (c n : Nat) : badW mc F c n = badW mc F' c n := anyN_cong (fun k _ => by rw [hasK_cong h])
