/-! pure words: a role's row put whole; bits; a MACHINE's row of 16 numbers and what each of its methods does to it -/
def sW (G : gS) (r : Nat) (f : Nat → Int32) : gS := (fun a => if a = r then f else G.1 a, G.2)
theorem sI0 (G : gS) (r k : Nat) (v : Int32) : sI G r k v = sW G r (upd (G.1 r) k v) := rfl
theorem sW_s (G : gS) (r : Nat) (f : Nat → Int32) : (sW G r f).1 r = f := if_pos rfl
theorem sW_o (G : gS) (r : Nat) (f : Nat → Int32) {a : Nat} (h : a ≠ r) : (sW G r f).1 a = G.1 a := if_neg h
theorem sW_2 (G : gS) (r : Nat) (f : Nat → Int32) : (sW G r f).2 = G.2 := rfl
theorem sW_W (G : gS) (r : Nat) (f g : Nat → Int32) : sW (sW G r f) r g = sW G r g := by
  refine Prod.ext (funext fun a => ?_) rfl
  show (if a = r then g else (if a = r then f else G.1 a)) = (if a = r then g else G.1 a)
  by_cases h : a = r
  · rw [if_pos h, if_pos h]
  · rw [if_neg h, if_neg h, if_neg h]
theorem sW_c (G : gS) {r q : Nat} (h : r ≠ q) (f g : Nat → Int32) : sW (sW G r f) q g = sW (sW G q g) r f := by
  refine Prod.ext (funext fun a => ?_) rfl
  show (if a = q then g else (if a = r then f else G.1 a)) = (if a = r then f else (if a = q then g else G.1 a))
  by_cases h1 : a = q
  · rw [if_pos h1, if_neg (fun e => h (e.symm.trans h1)), if_pos h1]
  · rw [if_neg h1, if_neg h1]
theorem sW_id (G : gS) (r : Nat) : sW G r (G.1 r) = G := by
  refine Prod.ext (funext fun a => ?_) rfl
  show (if a = r then G.1 r else G.1 a) = G.1 a
  by_cases h : a = r
  · rw [if_pos h, h]
  · rw [if_neg h]
/-- a boolean as an int -/
def bI (b : Bool) : Int32 := if b then nI 1 else nI 0
theorem bI_z {b : Bool} : bI b = 0 ↔ b = false := by cases b <;> decide
theorem bI_n {b : Bool} : ¬ bI b = 0 ↔ b = true := by cases b <;> decide
theorem bI_t : bI true = nI 1 := rfl
theorem bI_f : bI false = nI 0 := rfl
theorem bI_nar (b : Bool) : narrow .boolean (.int (bI b)) = .int (bI b) := by cases b <;> rfl
theorem bI_d {c : Prop} [Decidable c] (h : c) : nI 1 = bI (decide c) := by rw [decide_eq_true h]; rfl
theorem bI_dn {c : Prop} [Decidable c] (h : ¬ c) : nI 0 = bI (decide c) := by rw [decide_eq_false h]; rfl
def bt (x : Int32) (k : Nat) : Bool := x.toBitVec.toNat.testBit k
def btL (x : Int64) (k : Nat) : Bool := x.toBitVec.toNat.testBit k
theorem bt_nat (a k : Nat) : a / 2 ^ k % 2 = (a.testBit k).toNat := by
  rw [Nat.testBit_eq_decide_div_mod_eq]
  rcases Nat.mod_two_eq_zero_or_one (a / 2 ^ k) with h | h <;> simp [h]
theorem smod32 {m : Nat} (h : m < 32) : ((nI m &&& 31).toBitVec.smod 32).toNat = m := by
  have : ∀ m, m < 32 → ((nI m &&& 31).toBitVec.smod 32).toNat = m := by decide +kernel
  exact this m h
theorem uand31 {m : Nat} (h : m < 32) : (((nI m).toUInt32 &&& Int32.toUInt32 31).toBitVec % 32).toNat = m := by
  have : ∀ m, m < 32 → (((nI m).toUInt32 &&& Int32.toUInt32 31).toBitVec % 32).toNat = m := by decide +kernel
  exact this m h
theorem bt_get (x : Int32) {m : Nat} (h : m < 32) : ((x.toUInt32 >>> ((nI m).toUInt32 &&& Int32.toUInt32 31)).toInt32 &&& nI 1) = bI (bt x m) := by
  rw [pk_and _ (m := nI 1) 1 (by decide), pk_ushr x (nI m) m (uand31 h), bt_nat]
  show nI (x.toBitVec.toNat.testBit m).toNat = bI (x.toBitVec.toNat.testBit m)
  cases x.toBitVec.toNat.testBit m <;> rfl
theorem bt_set (x : Int32) {m j : Nat} (h : m < 31) : bt (x ||| (nI 1 <<< (nI m &&& 31))) j = (bt x j || decide (j = m)) := by
  have e1 : (nI 1 <<< (nI m &&& 31)).toBitVec.toNat = 2 ^ m := by
    rw [pk_shl _ _ m (smod32 (by omega))]
    have : 2 ^ m < 2 ^ 32 := Nat.pow_lt_pow_right (by decide) (by omega)
    rw [show (nI 1).toBitVec.toNat = 1 from rfl, Nat.one_mul, Nat.mod_eq_of_lt this]
  have e2 : (x ||| (nI 1 <<< (nI m &&& 31))).toBitVec.toNat = x.toBitVec.toNat ||| 2 ^ m := by
    rw [Int32.toBitVec_or, BitVec.toNat_or, e1]
  rw [bt, e2, Nat.testBit_or, Nat.testBit_two_pow, bt]
  congr 1
  simp [eq_comm]
def mEnter (p : Int32) (f : Nat → Int32) : Nat → Int32 := upd (upd (upd (upd (upd f 3 p) 4 (-1)) 5 (-1)) 7 (nI 0)) 12 (nI 0)
def mClear (f : Nat → Int32) : Nat → Int32 := upd (upd (upd f 8 (nI 0)) 9 (nI 0)) 10 (nI 0)
def mReset (f : Nat → Int32) : Nat → Int32 := mClear (mEnter (nI 0) (upd (upd (upd f 11 (nI 0)) 6 (-1)) 15 (nI 0)))
def mLose (t : Int32) (f : Nat → Int32) : Nat → Int32 := upd (mClear (mEnter (nI 0) f)) 15 (t + nI 3)
def mBegin (t : Int32) (f : Nat → Int32) : Nat → Int32 := upd (upd (mClear (mEnter (nI 1) f)) 11 (f 11 + nI 1)) 13 t
def mRescue (why : Int32) (f : Nat → Int32) : Nat → Int32 := upd (mEnter (nI 5) f) 7 why
def mFail (why t : Int32) (f : Nat → Int32) : Nat → Int32 := if f 8 + nI 1 < nI 5 then upd (upd f 8 (f 8 + nI 1)) 13 (t + (nI 1 <<< ((f 8 + nI 1) &&& 31))) else mRescue why (upd f 8 (f 8 + nI 1))
def mFetch (file links since : Int32) (f : Nat → Int32) : Nat → Int32 := upd (upd (upd (upd (mEnter (nI 2) f) 4 file) 5 (nI 0)) 12 links) 14 since
def mNone (f : Nat → Int32) : Nat → Int32 := if f 10 + nI 1 < nI 12 then upd f 10 (f 10 + nI 1) else mRescue (nI 4) (upd f 10 (f 10 + nI 1))
def mWrong (f : Nat → Int32) : Nat → Int32 := if f 9 + nI 1 < nI 4 then upd f 9 (f 9 + nI 1) else mRescue (nI 3) (upd f 9 (f 9 + nI 1))
def mInst (since : Int32) (f : Nat → Int32) : Nat → Int32 := upd (upd (upd f 3 (nI 3)) 5 (nI 0)) 14 since
def mWrite (n : Int32) (f : Nat → Int32) : Nat → Int32 := if n ≤ f 5 then mEnter (nI 4) (upd f 6 (f 4)) else upd f 5 (f 5 + nI 1)
def mDone (f : Nat → Int32) : Bool := f 3 == nI 4 || f 3 == nI 5
def mSnap (f : Nat → Int32) : Int64 :=
  (((f 10 + nI 1) ||| ((f 11 + nI 1) <<< (nI 4 &&& 31))) ||| ((f 12 + nI 1) <<< (nI 12 &&& 31))).toInt64 <<< ((nI 28).toInt64 &&& 63) |||
  ((((((((f 3 + nI 1) ||| ((f 4 + nI 1) <<< (nI 4 &&& 31))) ||| ((f 5 + nI 1) <<< (nI 8 &&& 31))) ||| ((f 6 + nI 1) <<< (nI 12 &&& 31))) ||| ((f 7 + nI 1) <<< (nI 16 &&& 31))) ||| ((f 8 + nI 1) <<< (nI 20 &&& 31))) ||| ((f 9 + nI 1) <<< (nI 24 &&& 31)))).toInt64
