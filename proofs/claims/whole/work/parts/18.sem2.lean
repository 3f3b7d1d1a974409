theorem va_up_id {α : Type} (f : Nat → α) (k : Nat) : va_up f k (f k) = f := by
  funext j
  by_cases h : j = k
  · subst h; rw [va_up_self]
  · rw [va_up_ne _ _ h]
theorem itN_s {σ : Type} (step : Nat → σ → σ) (n : Nat) (s : σ) : itN step (n + 1) s = step n (itN step n s) := rfl
theorem kOk_i {n : Nat} {G : gS} {i : Nat} (h : kOk n (mF G)) (hi : i < n) (h8 : i < 8) : G.1 (32 + i) 0 = nI (kN (G.1 (32 + i))) ∧ kN (G.1 (32 + i)) < 4 := by
  have := h i hi
  rw [mF_i h8] at this
  exact this
/-- what the keepers see of a MACHINE -/
def vq (a b c d e f g : Int32) : Nat → Int32 := fun k => match k with | 0 => a | 1 => b | 2 => c | 3 => d | 4 => e | 5 => f | 6 => g | _ => 0
def vqF (t : Int32) (f : Nat → Int32) : Nat → Int32 := vq (f 0) (f 1) (f 2) (f 8) (f 9) (f 11) t
theorem valP_v {v v' : Nat → Int32} (h : ∀ k, k < 7 → v k = v' k) (x : Int32) : valP x v = valP x v' := by
  unfold valP
  split
  · rfl
  · rename_i h0
    split
    · rfl
    · rename_i h1
      by_cases h2 : (x ^^^ -1) - nI 16 < 0
      · have e : cN ((x ^^^ -1) - nI 16) = 0 := by
          unfold cN
          have := Int32.lt_iff_toInt_lt.mp h2
          have e0 : (0 : Int32).toInt = 0 := rfl
          show ((x ^^^ -1) - nI 16).toInt.toNat = 0
          omega
        rw [e]; exact h 0 (by decide)
      · obtain ⟨j, hj, hj2⟩ := nI_of h2
        rw [hj2] at h1 ⊢
        rw [cN_nI hj]
        refine h j ?_
        rcases Nat.lt_or_ge j 7 with h3 | h3
        · exact h3
        · exact absurd (nI_le h3 hj) h1
theorem evR_v {v v' code : Nat → Int32} (h : ∀ k, k < 7 → v k = v' k) : ∀ (n i : Nat) (S : Nat × (Nat → Int32)), evR v code n i S = evR v' code n i S
  | 0, _, _ => rfl
  | n + 1, i, S => by
    rw [evR, evR, evR_v h n (i + 1)]
    unfold evS
    rw [valP_v h]
theorem hP_v {v v' code : Nat → Int32} (h : ∀ k, k < 7 → v k = v' k) (s e : Nat) : hP v code s e = hP v' code s e := by unfold hP; rw [evR_v h]
theorem holdC_v {G : gS} {j : Nat} {v v' : Nat → Int32} (h : ∀ k, k < 7 → v k = v' k) : holdC G j v = holdC G j v' := by funext r; exact hP_v h _ _
theorem chC_v {G : gS} {j n : Nat} {v v' : Nat → Int32} {fc : Int32} (h : ∀ k, k < 7 → v k = v' k) : chC G j n v fc = chC G j n v' fc := by unfold chC; rw [holdC_v h]
theorem ahC_v {G : gS} {j n : Nat} {v v' : Nat → Int32} (h : ∀ k, k < 7 → v k = v' k) : ahC G j n v = ahC G j n v' := by unfold ahC; rw [holdC_v h]
/-- what a MACHINE hears, and which KINDS must be UP ahead -/
def hrd1 (down : Nat → Bool) (an ah : Nat → (Nat → Int32) → Int32) (v : Nat → Int32) (k : Nat) (p : Int32 × Int32) : Int32 × Int32 := if p.1 = -1 ∧ down k = false then (an k v, if 0 ≤ an k v then ah k v else nI 0) else p
def hrd (lost : Bool) (down : Nat → Bool) (an ah : Nat → (Nat → Int32) → Int32) (v : Nat → Int32) : Int32 × Int32 := if lost then (-1, nI 0) else hrd1 down an ah v 1 (hrd1 down an ah v 0 (-1, nI 0))
def qsF (t : Int32) (p : Int32 × Int32) (wait : Bool) (f : Nat → Int32) : Nat → Int32 := if 0 ≤ p.1 then (if wait then upd f 13 (t + nI 1) else mFetch p.1 (nI 1) (t + nI 1) f) else mFail (if p.1 = -2 then nI 2 else nI 1) t f
theorem m0_qs (t : Int32) (p : Int32 × Int32) (w : Bool) (f : Nat → Int32) : qsF t p w f 0 = f 0 := by
  unfold qsF
  split
  · split <;> rfl
  · exact m0_fail _ _ _
def askS (mc : Nat) (t : Int32) (lost down : Nat → Bool) (an ah : Nat → (Nat → Int32) → Int32) (i : Nat) (F : Nat → Nat → Int32) : Nat → Nat → Int32 :=
  if F i 3 = nI 1 ∧ ¬ t < F i 13 then va_up F i (qsF t (hrd (lost i) down an ah (vqF t (F i))) (waitsF mc F i (hrd (lost i) down an ah (vqF t (F i))).2) (F i)) else F
def insS (bl : Nat → Int32) (t : Int32) (i : Nat) (F : Nat → Nat → Int32) : Nat → Nat → Int32 := if F i 3 = nI 3 ∧ ¬ t < F i 14 then va_up F i (mWrite (bl (cN (F i 4))) (F i)) else F
/-- FETCHES: the FILE is there and the block is one of it; INSTALLS: the FILE is there -/
def fOk (fc : Nat) (bl : Nat → Int32) (f : Nat → Int32) : Prop := (f 3 = nI 2 → f 4 = nI (cN (f 4)) ∧ cN (f 4) < fc ∧ f 5 = nI (cN (f 5)) ∧ cN (f 5) < 12 ∧ ¬ bl (cN (f 4)) ≤ f 5) ∧ (f 3 = nI 3 → f 4 = nI (cN (f 4)) ∧ cN (f 4) < fc)
def doneF (mc : Nat) (F : Nat → Nat → Int32) : Bool := !anyN (fun i => !mDone (F i)) mc
def upF (F : Nat → Nat → Int32) : Nat → Int32
  | 0 => nI 0
  | n + 1 => if F n 3 = nI 4 then upF F n ||| (nI 1 <<< (nI n &&& 31)) else upF F n
def kpL (t : Nat) (F : Nat → Nat → Int32) : Nat → (Nat → Int64) → Nat → Int64
  | 0, r => r
  | n + 1, r => vp_updL (kpL t F n r) (300 * n + t) (mSnap (F n))
def rcd (x : Int64) (w : Nat) : Int32 := ((x.toUInt64 >>> ((tSh.getD w 0).toInt64.toUInt64 &&& Int64.toUInt64 63)).toInt64.toInt32 &&& ((nI 1 <<< ((tSh.getD (w + 1) 0 - tSh.getD w 0) &&& 31)) - nI 1)) - nI 1
def chgF (ph : Nat → Int32) (ix : Int32) : Nat → Nat → Int32 → Int32 → Int32
  | 0, _, _, _ => -1
  | n + 1, t, before, ch => if ph t = before then chgF ph ix n (t + 1) before ch else if ch = ix then nI 10 * nI t + ph t else chgF ph ix n (t + 1) (ph t) (ch + nI 1)
/-- a MACHINE's row behind the sending: got, a letter LOST, a block WRONG -/
def goF (fc : Int32) (nx : Int32) (since : Int32) (f : Nat → Int32) : Nat → Int32 := if nx = -1 then mInst since f else if nI 4 ≤ f 12 + nI 1 ∨ fc ≤ nx then mRescue (nI 5) f else mFetch nx (f 12 + nI 1) since f
def rcvF (fc : Int32) (bl nx : Nat → Int32) (t : Int32) (got lost wrong : Bool) (f : Nat → Int32) : Nat → Int32 :=
  if !got || lost then mNone f else if wrong then mWrong f else
    if f 5 + nI 1 < bl (cN (f 4)) then upd (upd f 10 (nI 0)) 5 (f 5 + nI 1) else goF fc (nx (cN (f 4))) (t + nI 1) (upd (upd f 10 (nI 0)) 5 (f 5 + nI 1))
def blkN (f : Nat → Int32) : Nat := 12 * cN (f 4) + cN (f 5)
