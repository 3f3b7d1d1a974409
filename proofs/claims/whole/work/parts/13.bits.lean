theorem wb_tb (n : Nat) : (lN n).toBitVec = BitVec.ofNat 64 n := rfl
theorem wb_inj {a b : Int64} (h : a.toBitVec = b.toBitVec) : a = b := Int64.toBitVec_inj.mp h
theorem wb_tn {n : Nat} (h : n < 2 ^ 64) : (lN n).toBitVec.toNat = n := by rw [wb_tb, BitVec.toNat_ofNat, Nat.mod_eq_of_lt h]
theorem wb_of (x : Int64) : ∃ n, n < 2 ^ 64 ∧ x = lN n := ⟨x.toBitVec.toNat, x.toBitVec.isLt, wb_inj (by rw [wb_tb]; simp)⟩
theorem wb_of32 (x : Int32) : ∃ n, n < 2 ^ 32 ∧ x = nI n := ⟨x.toBitVec.toNat, x.toBitVec.isLt, Int32.toBitVec_inj.mp (by show _ = BitVec.ofNat 32 _; simp)⟩
theorem wb_c : ∀ k, k < 64 → ((nI k).toInt64 &&& 63) = lN k := by decide +kernel
theorem wb_cu : ∀ k, k < 64 → ((nI k).toInt64.toUInt64 &&& Int64.toUInt64 63) = UInt64.ofNat k := by decide +kernel
theorem wb_sm : ∀ k, k < 64 → (BitVec.ofNat 64 k).smod 64 = BitVec.ofNat 64 k := by decide +kernel
theorem wb_pw {a b : Nat} (h : a ≤ b) : 2 ^ b = 2 ^ a * 2 ^ (b - a) := by rw [← Nat.pow_add]; congr 1; omega
theorem wb_lt2 {a b : Nat} (h : a < b) : 2 ^ a < 2 ^ b := Nat.pow_lt_pow_right (by decide) h
theorem wb_mod (n : Nat) : lN n = lN (n % 2 ^ 64) := wb_inj (by rw [wb_tb, wb_tb]; apply BitVec.eq_of_toNat_eq; rw [BitVec.toNat_ofNat, BitVec.toNat_ofNat, Nat.mod_mod])
theorem wb_shr {n k : Nat} (hn : n < 2 ^ 64) (hk : k < 64) : ((lN n).toUInt64 >>> ((nI k).toInt64.toUInt64 &&& Int64.toUInt64 63)).toInt64 = lN (n / 2 ^ k) := by
  rw [wb_cu k hk]
  apply wb_inj
  apply BitVec.eq_of_toNat_eq
  show ((lN n).toUInt64 >>> UInt64.ofNat k).toNat = (BitVec.ofNat 64 _).toNat
  have h1 : (UInt64.ofNat k).toNat = k := by
    show (BitVec.ofNat 64 k).toNat = k
    rw [BitVec.toNat_ofNat, Nat.mod_eq_of_lt (by omega)]
  have h2 : (lN n).toUInt64.toNat = n := wb_tn hn
  rw [UInt64.toNat_shiftRight, h1, h2, Nat.mod_eq_of_lt hk, Nat.shiftRight_eq_div_pow, BitVec.toNat_ofNat, Nat.mod_eq_of_lt (Nat.lt_of_le_of_lt (Nat.div_le_self _ _) hn)]
theorem wb_shl (n : Nat) {k : Nat} (hk : k < 64) : lN n <<< ((nI k).toInt64 &&& 63) = lN (n * 2 ^ k) := by
  rw [wb_c k hk]
  apply wb_inj
  rw [Int64.toBitVec_shiftLeft, wb_tb, wb_tb, wb_tb, wb_sm k hk]
  apply BitVec.eq_of_toNat_eq
  rw [BitVec.shiftLeft_eq', BitVec.toNat_shiftLeft, BitVec.toNat_ofNat, BitVec.toNat_ofNat, BitVec.toNat_ofNat, Nat.mod_eq_of_lt (show k < 2 ^ 64 by omega), Nat.shiftLeft_eq, Nat.mul_mod, Nat.mod_mod, ← Nat.mul_mod]
theorem wb_and {a b : Nat} (ha : a < 2 ^ 64) (hb : b < 2 ^ 64) : lN a &&& lN b = lN (a &&& b) := by
  apply wb_inj
  rw [Int64.toBitVec_and, wb_tb, wb_tb, wb_tb]
  apply BitVec.eq_of_toNat_eq
  rw [BitVec.toNat_and, BitVec.toNat_ofNat, BitVec.toNat_ofNat, BitVec.toNat_ofNat, Nat.mod_eq_of_lt ha, Nat.mod_eq_of_lt hb, Nat.mod_eq_of_lt (Nat.and_lt_two_pow _ hb)]
theorem wb_or {a b : Nat} (ha : a < 2 ^ 64) (hb : b < 2 ^ 64) : lN a ||| lN b = lN (a ||| b) := by
  apply wb_inj
  rw [Int64.toBitVec_or, wb_tb, wb_tb, wb_tb]
  apply BitVec.eq_of_toNat_eq
  rw [BitVec.toNat_or, BitVec.toNat_ofNat, BitVec.toNat_ofNat, BitVec.toNat_ofNat, Nat.mod_eq_of_lt ha, Nat.mod_eq_of_lt hb, Nat.mod_eq_of_lt (Nat.or_lt_two_pow ha hb)]
theorem wb_mask {n k : Nat} (hn : n < 2 ^ 64) (hk : k < 64) : lN n &&& lN (2 ^ k - 1) = lN (n % 2 ^ k) := by
  rw [wb_and hn (by have := wb_lt2 hk; omega), Nat.and_two_pow_sub_one_eq_mod]
theorem wb_a1 {n : Nat} (hn : n < 2 ^ 64) : lN n &&& 1 = lN (n % 2) := wb_mask (k := 1) hn (by decide)
theorem wb_bit {n k : Nat} (hn : n < 2 ^ 64) (hk : k < 64) : ((lN n).toUInt64 >>> ((nI k).toInt64.toUInt64 &&& Int64.toUInt64 63)).toInt64 &&& 1 = lN (n / 2 ^ k % 2) := by
  rw [wb_shr hn hk, wb_a1 (Nat.lt_of_le_of_lt (Nat.div_le_self _ _) hn)]
theorem wb_xor {q k : Nat} (hk : k < 63) (h : 2 ^ k ≤ q) (h2 : q < 2 ^ (k + 1)) : lN q ^^^ lN (2 ^ k) = lN (q - 2 ^ k) := by
  obtain ⟨r, rfl⟩ : ∃ r, q = 2 ^ k + r := ⟨q - 2 ^ k, by omega⟩
  have hr : r < 2 ^ k := by rw [Nat.pow_succ] at h2; omega
  have hx : (2 ^ k + r) ^^^ 2 ^ k = r := by
    apply Nat.eq_of_testBit_eq
    intro i
    rw [Nat.testBit_xor, Nat.testBit_two_pow]
    rcases Nat.lt_trichotomy i k with h | h | h
    · rw [Nat.testBit_two_pow_add_gt h]
      simp [show ¬ k = i by omega]
    · subst h
      rw [Nat.testBit_two_pow_add_eq]
      simp
    · have a1 : 2 ^ (k + 1) ≤ 2 ^ i := Nat.pow_le_pow_right (by decide) h
      rw [Nat.testBit_lt_two_pow (show 2 ^ k + r < 2 ^ i by omega), Nat.testBit_lt_two_pow (show r < 2 ^ i by omega)]
      simp [show ¬ k = i by omega]
  have b1 := wb_lt2 (show k + 1 < 64 by omega)
  have b2 := wb_lt2 (show k < 64 by omega)
  apply wb_inj
  rw [Int64.toBitVec_xor, wb_tb, wb_tb, wb_tb]
  apply BitVec.eq_of_toNat_eq
  rw [BitVec.toNat_xor, BitVec.toNat_ofNat, BitVec.toNat_ofNat, BitVec.toNat_ofNat, Nat.mod_eq_of_lt (by omega : 2 ^ k + r < 2 ^ 64), Nat.mod_eq_of_lt b2, hx, Nat.add_sub_cancel_left, Nat.mod_eq_of_lt (by omega)]
theorem wN_or {x y : Int64} : (x ||| y).toBitVec.toNat = x.toBitVec.toNat ||| y.toBitVec.toNat := by rw [Int64.toBitVec_or, BitVec.toNat_or]
theorem btL_set (x : Int64) {m j : Nat} (h : m < 63) : btL (x ||| ((1 : Int64) <<< ((nI m).toInt64 &&& 63))) j = (btL x j || decide (j = m)) := by
  have e1 : ((1 : Int64) <<< ((nI m).toInt64 &&& 63)).toBitVec.toNat = 2 ^ m := by
    have h2 : ((1 : Int64) <<< ((nI m).toInt64 &&& 63)) = lN (1 * 2 ^ m) := wb_shl 1 (by omega)
    have : 2 ^ m < 2 ^ 64 := Nat.pow_lt_pow_right (by decide) (by omega)
    rw [h2, Nat.one_mul, wb_tn this]
  rw [btL, wN_or, e1, Nat.testBit_or, Nat.testBit_two_pow, btL]
  congr 1
  simp [eq_comm]
theorem btL_get (x : Int64) {m : Nat} (h : m < 64) : (x.toUInt64 >>> ((nI m).toInt64.toUInt64 &&& Int64.toUInt64 63)).toInt64 &&& 1 = lN (btL x m).toNat := by
  obtain ⟨n, hn, rfl⟩ := wb_of x
  rw [wb_bit hn h, bt_nat, btL, wb_tn hn]
theorem lcmp_b (b : Bool) : lg_cmp (lN b.toNat) 0 = bI b := by cases b <;> decide
/-- the frame of a method: only the rows of S may have changed -/
def Fr (S : Nat → Prop) (G G' : gS) : Prop := (∀ r, ¬ S r → G'.1 r = G.1 r) ∧ (∀ r, ¬ S r → G'.2.1 r = G.2.1 r) ∧ G'.2.2 = G.2.2
theorem Fr.refl {S : Nat → Prop} {G : gS} : Fr S G G := ⟨fun _ _ => rfl, fun _ _ => rfl, rfl⟩
theorem Fr.trans {S : Nat → Prop} {G G' G'' : gS} (h : Fr S G G') (k : Fr S G' G'') : Fr S G G'' := ⟨fun r hr => (k.1 r hr).trans (h.1 r hr), fun r hr => (k.2.1 r hr).trans (h.2.1 r hr), k.2.2.trans h.2.2⟩
theorem Fr.mono {S S' : Nat → Prop} {G G' : gS} (h : Fr S G G') (hs : ∀ r, S r → S' r) : Fr S' G G' := ⟨fun r hr => h.1 r (fun x => hr (hs r x)), fun r hr => h.2.1 r (fun x => hr (hs r x)), h.2.2⟩
theorem Fr.sI {S : Nat → Prop} {G G' : gS} {r k : Nat} {v : Int32} (h : Fr S G G') (hr : S r) : Fr S G (sI G' r k v) := ⟨fun a ha => (sI_o (r' := a) (fun e => ha (by rw [e]; exact hr))).trans (h.1 a ha), fun a ha => h.2.1 a ha, h.2.2⟩
theorem Fr.sL {S : Nat → Prop} {G G' : gS} {r k : Nat} {v : Int64} (h : Fr S G G') (hr : S r) : Fr S G (sL G' r k v) := ⟨fun a ha => h.1 a ha, fun a ha => (sL_o (r' := a) (fun e => ha (by rw [e]; exact hr))).trans (h.2.1 a ha), h.2.2⟩
theorem Fr.sW {S : Nat → Prop} {G G' : gS} {r : Nat} {f : Nat → Int32} (h : Fr S G G') (hr : S r) : Fr S G (sW G' r f) := ⟨fun a ha => (sW_o (a := a) _ _ _ (fun e => ha (by rw [e]; exact hr))).trans (h.1 a ha), fun a ha => h.2.1 a ha, h.2.2⟩
/-- one byte of a word, the highest first -/
def wb (x : Int32) (j : Nat) : Nat := x.toBitVec.toNat / 2 ^ (24 - 8 * j) % 256
def shA (j : Nat) : Int32 := Int32.ofInt (24 - 8 * j)
theorem shA_p : ∀ j, j < 4 → ¬ shA j < 0 := by decide +kernel
theorem shA_n : ∀ j, j < 4 → shA j + (-8) = shA (j + 1) := by decide +kernel
theorem shA_u : ∀ j, j < 4 → (((shA j).toUInt32 &&& Int32.toUInt32 31).toBitVec % 32).toNat = 24 - 8 * j := by decide +kernel
theorem wb_get (x : Int32) {j : Nat} (h : j < 4) : ((x.toUInt32 >>> ((shA j).toUInt32 &&& Int32.toUInt32 31)).toInt32 &&& nI 255) = nI (wb x j) := by
  rw [pk_and _ (m := nI 255) 8 (by decide), pk_ushr x (shA j) _ (shA_u j h)]
  rfl
/-- j bytes of x appended at n -/
def ap (x : Int32) (n : Nat) (G : gS) (j : Nat) : gS := sW (sW G 2 (fun k => if n ≤ k ∧ k < n + j then nI (wb x (k - n)) else G.1 2 k)) 1 (upd (G.1 1) 1 (nI (n + j)))
theorem ap_0 {x : Int32} {n : Nat} {G : gS} (h : G.1 1 1 = nI n) : ap x n G 0 = G := by
  have e1 : (fun k => if n ≤ k ∧ k < n + 0 then nI (wb x (k - n)) else G.1 2 k) = G.1 2 := by
    funext k; rw [if_neg (by omega)]
  have e2 : upd (G.1 1) 1 (nI (n + 0)) = G.1 1 := by
    funext k
    by_cases hk : k = 1
    · subst hk; rw [upd_s, h]; rfl
    · rw [upd_o hk]
  rw [ap, e1, sW_id, e2, sW_id]
theorem ap_len {x : Int32} {n j : Nat} {G : gS} : (ap x n G j).1 1 1 = nI (n + j) := by rw [ap, sW_s, upd_s]
theorem ap_s {x : Int32} {n j : Nat} {G : gS} : sI (sI (ap x n G j) 2 (n + j) (nI (wb x j))) 1 1 (nI (n + j + 1)) = ap x n G (j + 1) := by
  refine Prod.ext (funext fun a => funext fun k => ?_) rfl
  simp only [sI, ap, sW, upd]
  by_cases h1 : a = 1
  · subst h1
    by_cases h2 : k = 1
    · subst h2; simp [upd]; rfl
    · simp [h2, upd]
  · by_cases h2 : a = 2
    · subst h2
      by_cases h3 : k = n + j
      · subst h3; simp [upd]
      · have : (n ≤ k ∧ k < n + (j + 1)) ↔ (n ≤ k ∧ k < n + j) := by omega
        simp [h3, this, upd]
    · simp [h1, h2]
/-- a row filled up to n -/
def fillR (f : Nat → Int32) (v : Int32) (n : Nat) : Nat → Int32 := fun k => if k < n then v else f k
theorem fillR_0 (f : Nat → Int32) (v : Int32) : fillR f v 0 = f := by funext k; simp [fillR]
theorem fillR_s (f : Nat → Int32) (v : Int32) (n : Nat) : upd (fillR f v n) n v = fillR f v (n + 1) := by
  funext k
  simp only [upd, fillR]
  by_cases h : k = n
  · subst h; simp
  · have : (k < n + 1) ↔ (k < n) := by omega
    simp [h, this]
