/-! what a run does, in plain words over rows of numbers; F i is MACHINE i's row -/
def itN {σ : Type} (step : Nat → σ → σ) : Nat → σ → σ
  | 0, s => s
  | n + 1, s => step n (itN step n s)
def anyN (p : Nat → Bool) : Nat → Bool
  | 0 => false
  | n + 1 => anyN p n || p n
theorem anyN_t {p : Nat → Bool} {x : Nat} (hp : p x = true) : ∀ {n : Nat}, x < n → anyN p n = true
  | 0, h => absurd h (Nat.not_lt_zero x)
  | n + 1, h => by
    rw [anyN]
    by_cases e : x = n
    · subst e; rw [hp, Bool.or_true]
    · rw [anyN_t hp (show x < n by omega), Bool.true_or]
theorem anyN_f {p : Nat → Bool} {n : Nat} (h : anyN p n = false) (hp : p n = false) : anyN p (n + 1) = false := by rw [anyN, h, hp]; rfl
theorem anyN_cong {p q : Nat → Bool} : ∀ {n : Nat}, (∀ k, k < n → p k = q k) → anyN p n = anyN q n
  | 0, _ => rfl
  | n + 1, h => by rw [anyN, anyN, anyN_cong (fun k hk => h k (by omega)), h n (by omega)]
def mF (G : gS) : Nat → Nat → Int32 := fun i => if i < 8 then G.1 (32 + i) else fun _ => 0
theorem mF_i {G : gS} {i : Nat} (h : i < 8) : mF G i = G.1 (32 + i) := if_pos h
theorem mF_W {G : gS} {i : Nat} {f : Nat → Int32} (h : i < 8) : mF (sW G (32 + i) f) = va_up (mF G) i f := by
  funext j
  by_cases e : j = i
  · subst e; rw [mF_i h, sW_s, va_up_self]
  · rw [va_up_ne _ _ e]
    simp only [mF]
    by_cases h8 : j < 8
    · rw [if_pos h8, if_pos h8, sW_o _ _ _ (by omega)]
    · rw [if_neg h8, if_neg h8]
/-- the roles of the MACHINES -/
def sMr (r : Nat) : Prop := 32 ≤ r ∧ r < 40
theorem sMr_i {i : Nat} (h : i < 8) : sMr (32 + i) := ⟨by omega, by omega⟩
def kN (f : Nat → Int32) : Nat := (f 0).toNatClampNeg
/-- the KINDS of the first n MACHINES are 0 .. 3 -/
def kOk (n : Nat) (F : Nat → Nat → Int32) : Prop := ∀ i, i < n → F i 0 = nI (kN (F i)) ∧ kN (F i) < 4
theorem m0_enter (p : Int32) (f : Nat → Int32) : mEnter p f 0 = f 0 := rfl
theorem m0_clear (f : Nat → Int32) : mClear f 0 = f 0 := rfl
theorem m0_reset (f : Nat → Int32) : mReset f 0 = f 0 := rfl
theorem m0_lose (t : Int32) (f : Nat → Int32) : mLose t f 0 = f 0 := rfl
theorem m0_begin (t : Int32) (f : Nat → Int32) : mBegin t f 0 = f 0 := rfl
theorem m0_rescue (y : Int32) (f : Nat → Int32) : mRescue y f 0 = f 0 := rfl
theorem m0_fail (y t : Int32) (f : Nat → Int32) : mFail y t f 0 = f 0 := by unfold mFail; split <;> rfl
theorem m0_fetch (a b c : Int32) (f : Nat → Int32) : mFetch a b c f 0 = f 0 := rfl
theorem m0_none (f : Nat → Int32) : mNone f 0 = f 0 := by unfold mNone; split <;> rfl
theorem m0_wrong (f : Nat → Int32) : mWrong f 0 = f 0 := by unfold mWrong; split <;> rfl
theorem m0_inst (t : Int32) (f : Nat → Int32) : mInst t f 0 = f 0 := rfl
theorem m0_write (n : Int32) (f : Nat → Int32) : mWrite n f 0 = f 0 := by unfold mWrite; split <;> rfl
theorem kOk_up {n : Nat} {F : Nat → Nat → Int32} {i : Nat} {f : Nat → Int32} (h : kOk n F) (h0 : f 0 = F i 0) : kOk n (va_up F i f) := by
  intro j hj
  by_cases e : j = i
  · subst e; rw [va_up_self]; unfold kN; rw [h0]; exact h j hj
  · rw [va_up_ne _ _ e]; exact h j hj
/-- a KIND has a MACHINE -/
def hasK (mc : Nat) (F : Nat → Nat → Int32) (k : Int32) : Bool := anyN (fun i => F i 0 == k) mc
/-- a MACHINE of these KINDS, other than m, is not UP -/
def waitsF (mc : Nat) (F : Nat → Nat → Int32) (m : Nat) (kinds : Int32) : Bool := anyN (fun i => decide (i ≠ m) && bt kinds (kN (F i)) && !(F i 3 == nI 4)) mc
def pw1 (cut : Bool) (wake t : Int32) (f : Nat → Int32) : Nat → Int32 := if cut then mLose t f else if f 3 = 0 ∧ ¬ t < f 15 ∧ ¬ t < wake then mBegin t f else f
def pwS (cut : Nat → Bool) (wk : Nat → Int32) (t : Int32) (i : Nat) (F : Nat → Nat → Int32) : Nat → Nat → Int32 := va_up F i (pw1 (cut i) (wk (kN (F i))) t (F i))
theorem m0_pw (c : Bool) (w t : Int32) (f : Nat → Int32) : pw1 c w t f 0 = f 0 := by
  unfold pw1
  split
  · rfl
  · split <;> rfl
/-- WAKES by a choice: two bits a KIND, KIND 0's the highest -/
def stp (c k : Nat) : Nat := c / 4 ^ (3 - k) % 4
def wkRow (c : Nat) (s : Int32) (f : Nat → Int32) (n : Nat) : Nat → Int32 := fun k => if k < n then nI (stp c k) * s else f k
def badW (mc : Nat) (F : Nat → Nat → Int32) (c : Nat) (n : Nat) : Bool := anyN (fun k => decide (stp c k ≠ 0) && !hasK mc F (nI k)) n
theorem wkRow_s (c : Nat) (s : Int32) (f : Nat → Int32) (n : Nat) : upd (wkRow c s f n) n (nI (stp c n) * s) = wkRow c s f (n + 1) := by
  funext k
  simp only [upd, wkRow]
  by_cases h : k = n
  · subst h; simp
  · have : (k < n + 1) ↔ (k < n) := by omega
    simp [h, this]
