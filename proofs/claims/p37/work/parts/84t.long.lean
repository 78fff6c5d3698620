/-! LONGS AND INTS AS NUMBERS: nL n, nI n, with what the law does to their bits. -/
def nL (n : Nat) : Int64 := Int64.ofNat n
theorem nL_bv (n : Nat) : (nL n).toBitVec = BitVec.ofNat 64 n := rfl
theorem L_ext {x y : Int64} (h : x.toBitVec = y.toBitVec) : x = y := Int64.toBitVec_inj.mp h
theorem nL_add (a b : Nat) : nL a + nL b = nL (a + b) := L_ext (by
  show BitVec.ofNat 64 a + BitVec.ofNat 64 b = BitVec.ofNat 64 (a + b)
  exact (BitVec.ofNat_add ..).symm)
theorem nL_k (k : Nat) (h : k < 64) : Int32.toInt64 (nI k) &&& 63 = nL k := by
  have key : ∀ k : Fin 64, Int32.toInt64 (nI k.val) &&& 63 = nL k.val := by decide +kernel
  exact key ⟨k, h⟩
theorem nL_shl (a k : Nat) (h : k < 64) : nL a <<< nL k = nL (a * 2 ^ k) := L_ext (by
  have key : ∀ k : Fin 64, ((nL k.val).toBitVec.smod 64) = BitVec.ofNat 64 k.val := by decide +kernel
  show BitVec.ofNat 64 a <<< ((nL k).toBitVec.smod 64) = BitVec.ofNat 64 (a * 2 ^ k)
  rw [key ⟨k, h⟩]
  apply BitVec.eq_of_toNat_eq
  rw [BitVec.shiftLeft_eq', BitVec.toNat_shiftLeft, BitVec.toNat_ofNat, BitVec.toNat_ofNat, BitVec.toNat_ofNat, Nat.shiftLeft_eq, Nat.mod_eq_of_lt (show k < 2 ^ 64 by omega), Nat.mod_mul_mod])
theorem nL_shr (a k : Nat) (ha : a < 2 ^ 63) (h : k < 64) : nL a >>> nL k = nL (a / 2 ^ k) := L_ext (by
  have key : ∀ k : Fin 64, ((nL k.val).toBitVec.smod 64) = BitVec.ofNat 64 k.val := by decide +kernel
  show BitVec.sshiftRight' (BitVec.ofNat 64 a) ((nL k).toBitVec.smod 64) = BitVec.ofNat 64 (a / 2 ^ k)
  rw [key ⟨k, h⟩]
  have hm : (BitVec.ofNat 64 a).msb = false := by
    rw [BitVec.msb_eq_decide, BitVec.toNat_ofNat, Nat.mod_eq_of_lt (by omega)]
    simp; omega
  rw [BitVec.sshiftRight', BitVec.sshiftRight_eq_of_msb_false hm]
  apply BitVec.eq_of_toNat_eq
  rw [BitVec.toNat_ushiftRight, BitVec.toNat_ofNat, BitVec.toNat_ofNat, BitVec.toNat_ofNat, Nat.shiftRight_eq_div_pow, Nat.mod_eq_of_lt (show k < 2 ^ 64 by omega), Nat.mod_eq_of_lt (show a < 2 ^ 64 by omega), Nat.mod_eq_of_lt]
  exact Nat.lt_of_le_of_lt (Nat.div_le_self _ _) (by omega))
theorem nL_and (a m : Nat) (ha : a < 2 ^ 64) (h : m ≤ 64) : nL a &&& nL (2 ^ m - 1) = nL (a % 2 ^ m) := L_ext (by
  show BitVec.ofNat 64 a &&& BitVec.ofNat 64 (2 ^ m - 1) = BitVec.ofNat 64 (a % 2 ^ m)
  apply BitVec.eq_of_toNat_eq
  have hm : 2 ^ m ≤ 2 ^ 64 := Nat.pow_le_pow_right (by decide) h
  have h0 : 0 < 2 ^ m := Nat.two_pow_pos m
  have h1 : a % 2 ^ m < 2 ^ 64 := Nat.lt_of_lt_of_le (Nat.mod_lt _ h0) hm
  rw [BitVec.toNat_and, BitVec.toNat_ofNat, BitVec.toNat_ofNat, BitVec.toNat_ofNat, Nat.mod_eq_of_lt ha, Nat.mod_eq_of_lt (show 2 ^ m - 1 < 2 ^ 64 by omega), Nat.mod_eq_of_lt h1, Nat.and_two_pow_sub_one_eq_mod])
theorem nL_or (a b k : Nat) (ha : a < 2 ^ 64) (hb : b < 2 ^ 64) (h : a % 2 ^ k = 0) (hbk : b < 2 ^ k) : nL a ||| nL b = nL (a + b) := L_ext (by
  show BitVec.ofNat 64 a ||| BitVec.ofNat 64 b = BitVec.ofNat 64 (a + b)
  apply BitVec.eq_of_toNat_eq
  have e : a + b = a ||| b := by
    have e1 := Nat.div_add_mod a (2 ^ k)
    rw [h, Nat.add_zero] at e1
    rw [← e1]
    exact Nat.two_pow_add_eq_or_of_lt hbk _
  have hlt : a ||| b < 2 ^ 64 := Nat.or_lt_two_pow ha hb
  rw [BitVec.toNat_or, BitVec.toNat_ofNat, BitVec.toNat_ofNat, BitVec.toNat_ofNat, Nat.mod_eq_of_lt ha, Nat.mod_eq_of_lt hb, e, Nat.mod_eq_of_lt hlt])
theorem nL_inj {a b : Nat} (ha : a < 2 ^ 64) (hb : b < 2 ^ 64) : nL a = nL b ↔ a = b := by
  constructor
  · intro h
    have h1 := congrArg (fun x : Int64 => x.toBitVec.toNat) h
    simp only [nL_bv, BitVec.toNat_ofNat] at h1
    rw [Nat.mod_eq_of_lt ha, Nat.mod_eq_of_lt hb] at h1
    exact h1
  · intro h; rw [h]
theorem nL_I (a : Nat) : (nL a).toInt32 = nI a := by
  apply Int32.toBitVec_inj.mp
  show (BitVec.ofNat 64 a).signExtend 32 = BitVec.ofNat 32 a
  rw [BitVec.signExtend_eq_setWidth_of_le _ (by decide), BitVec.setWidth_ofNat_of_le (by decide)]
theorem nI_L (a : Nat) (h : a < 2 ^ 31) : (nI a).toInt64 = nL a := by
  apply L_ext
  show (BitVec.ofNat 32 a).signExtend 64 = BitVec.ofNat 64 a
  have hm : (BitVec.ofNat 32 a).msb = false := by
    rw [BitVec.msb_eq_decide, BitVec.toNat_ofNat, Nat.mod_eq_of_lt (by omega)]
    simp; omega
  rw [BitVec.signExtend_eq_setWidth_of_msb_false hm]
  apply BitVec.eq_of_toNat_eq
  rw [BitVec.toNat_setWidth, BitVec.toNat_ofNat, BitVec.toNat_ofNat, Nat.mod_eq_of_lt (show a < 2 ^ 32 by omega)]
/-- the bits from k on, w of them, are put out -/
theorem nL_clr (a k w : Nat) (ha : a < 2 ^ 63) (hk : k + w ≤ 64) (hk2 : k < 64) : nL a &&& ((nL (2 ^ w - 1) <<< nL k) ^^^ (-1)) = nL (2 ^ (k + w) * (a / 2 ^ (k + w)) + a % 2 ^ k) := by
  rw [nL_shl _ _ (by omega)]
  apply L_ext
  show BitVec.ofNat 64 a &&& (BitVec.ofNat 64 ((2 ^ w - 1) * 2 ^ k) ^^^ (-1 : Int64).toBitVec) = BitVec.ofNat 64 (2 ^ (k + w) * (a / 2 ^ (k + w)) + a % 2 ^ k)
  rw [show (-1 : Int64).toBitVec = BitVec.allOnes 64 from by decide, BitVec.xor_allOnes]
  apply BitVec.eq_of_getLsbD_eq
  intro i hi
  have hr : a % 2 ^ k < 2 ^ (k + w) := Nat.lt_of_lt_of_le (Nat.mod_lt _ (Nat.two_pow_pos k)) (Nat.pow_le_pow_right (by decide) (by omega))
  rw [BitVec.getLsbD_and, BitVec.getLsbD_not, BitVec.getLsbD_ofNat, BitVec.getLsbD_ofNat, BitVec.getLsbD_ofNat, Nat.testBit_two_pow_mul_add _ hr, Nat.testBit_mul_two_pow, Nat.testBit_two_pow_sub_one, Nat.testBit_mod_two_pow, Nat.testBit_div_two_pow]
  by_cases h1 : i < k
  · simp [hi, h1, show i < k + w by omega, show ¬ k ≤ i by omega]
  · by_cases h2 : i < k + w
    · simp [hi, h1, h2, show k ≤ i by omega, show i - k < w by omega]
    · simp [hi, h1, h2, show k ≤ i by omega, show ¬ i - k < w by omega, show i - (k + w) + (k + w) = i by omega]
theorem nL_ins (h l v k w : Nat) (hl : l < 2 ^ k) (hv : v < 2 ^ w) (hB : 2 ^ (k + w) * h + v * 2 ^ k + l < 2 ^ 64) : nL (2 ^ (k + w) * h + l) ||| nL (v * 2 ^ k) = nL (2 ^ (k + w) * h + v * 2 ^ k + l) := L_ext (by
  show BitVec.ofNat 64 _ ||| BitVec.ofNat 64 _ = BitVec.ofNat 64 _
  apply BitVec.eq_of_toNat_eq
  have hk : 2 ^ k ≤ 2 ^ (k + w) := Nat.pow_le_pow_right (by decide) (by omega)
  have e1 : 2 ^ (k + w) * h + l = 2 ^ (k + w) * h ||| l := Nat.two_pow_add_eq_or_of_lt (by omega) _
  have e2 : 2 ^ k * v + l = 2 ^ k * v ||| l := Nat.two_pow_add_eq_or_of_lt hl _
  have hvl : 2 ^ k * v + l < 2 ^ (k + w) := by
    have h1 : 2 ^ (k + w) = 2 ^ k * 2 ^ w := Nat.pow_add 2 k w
    have h2 : 2 ^ k * (v + 1) ≤ 2 ^ k * 2 ^ w := Nat.mul_le_mul_left _ hv
    rw [Nat.mul_add, Nat.mul_one] at h2
    omega
  have e3 : 2 ^ (k + w) * h + (2 ^ k * v + l) = 2 ^ (k + w) * h ||| (2 ^ k * v + l) := Nat.two_pow_add_eq_or_of_lt hvl _
  have c1 : v * 2 ^ k = 2 ^ k * v := Nat.mul_comm _ _
  have e : (2 ^ (k + w) * h + l) ||| (v * 2 ^ k) = 2 ^ (k + w) * h + v * 2 ^ k + l := by
    rw [c1, e1, Nat.or_assoc, Nat.or_comm l, ← e2, ← e3]
    omega
  rw [BitVec.toNat_or, BitVec.toNat_ofNat, BitVec.toNat_ofNat, BitVec.toNat_ofNat, Nat.mod_eq_of_lt (show 2 ^ (k + w) * h + l < 2 ^ 64 by omega), Nat.mod_eq_of_lt (show v * 2 ^ k < 2 ^ 64 by omega), Nat.mod_eq_of_lt hB, e])
/-- four numbers of 16 bits in a long -/
def w4 (x y z u : Nat) : Nat := x + 65536 * y + 4294967296 * z + 281474976710656 * u
theorem w4_get {x y z u : Nat} (r : Nat) (hr : r < 4) (hx : x < 16384) (hy : y < 16384) (hz : z < 16384) (hu : u < 16384) : (nL (w4 x y z u) >>> nL (16 * r)) &&& 65535 = nL (if r = 0 then x else if r = 1 then y else if r = 2 then z else u) := by
  unfold w4
  rw [nL_shr _ _ (by omega) (by omega), show (65535 : Int64) = nL (2 ^ 16 - 1) from rfl, nL_and _ _ (by have := Nat.div_le_self (x + 65536 * y + 4294967296 * z + 281474976710656 * u) (2 ^ (16 * r)); omega) (by decide)]
  congr 1
  rcases (show r = 0 ∨ r = 1 ∨ r = 2 ∨ r = 3 by omega) with rfl | rfl | rfl | rfl
  · simp; omega
  · simp; omega
  · simp; omega
  · simp; omega
theorem w4_set {x y z u v : Nat} (r : Nat) (hr : r < 4) (hx : x < 16384) (hy : y < 16384) (hz : z < 16384) (hu : u < 16384) (hv : v < 16384) : (nL (w4 x y z u) &&& ((65535 <<< nL (16 * r)) ^^^ (-1))) ||| (nL v <<< nL (16 * r)) = nL (w4 (if r = 0 then v else x) (if r = 1 then v else y) (if r = 2 then v else z) (if r = 3 then v else u)) := by
  have hW : w4 x y z u < 2 ^ 63 := by unfold w4; omega
  rw [show (65535 : Int64) = nL (2 ^ 16 - 1) from rfl, nL_clr _ _ 16 hW (by omega) (by omega), nL_shl _ _ (by omega)]
  have hv2 : v < 2 ^ 16 := by omega
  rw [nL_ins _ _ _ _ _ (Nat.mod_lt _ (Nat.two_pow_pos _)) hv2 ?_]
  · congr 1
    unfold w4
    rcases (show r = 0 ∨ r = 1 ∨ r = 2 ∨ r = 3 by omega) with rfl | rfl | rfl | rfl <;> simp <;> omega
  · unfold w4
    rcases (show r = 0 ∨ r = 1 ∨ r = 2 ∨ r = 3 by omega) with rfl | rfl | rfl | rfl <;> simp <;> omega
theorem I_ext {x y : Int32} (h : x.toBitVec = y.toBitVec) : x = y := Int32.toBitVec_inj.mp h
theorem I_shr (k m : Nat) (hk : k < 2 ^ 31) (hm : m < 32) : nI k >>> (nI m &&& 31) = nI (k / 2 ^ m) := I_ext (by
  have key : ∀ k : Fin 32, ((nI k.val &&& 31).toBitVec.smod 32) = BitVec.ofNat 32 k.val := by decide +kernel
  show BitVec.sshiftRight' (BitVec.ofNat 32 k) ((nI m &&& 31).toBitVec.smod 32) = BitVec.ofNat 32 (k / 2 ^ m)
  rw [key ⟨m, hm⟩]
  have h0 : (BitVec.ofNat 32 k).msb = false := by
    rw [BitVec.msb_eq_decide, BitVec.toNat_ofNat, Nat.mod_eq_of_lt (by omega)]
    simp; omega
  rw [BitVec.sshiftRight', BitVec.sshiftRight_eq_of_msb_false h0]
  apply BitVec.eq_of_toNat_eq
  rw [BitVec.toNat_ushiftRight, BitVec.toNat_ofNat, BitVec.toNat_ofNat, BitVec.toNat_ofNat, Nat.shiftRight_eq_div_pow, Nat.mod_eq_of_lt (show m < 2 ^ 32 by omega), Nat.mod_eq_of_lt (show k < 2 ^ 32 by omega), Nat.mod_eq_of_lt]
  exact Nat.lt_of_le_of_lt (Nat.div_le_self _ _) (by omega))
theorem I_shl (k m : Nat) (hm : m < 32) : nI k <<< (nI m &&& 31) = nI (k * 2 ^ m) := I_ext (by
  have key : ∀ k : Fin 32, ((nI k.val &&& 31).toBitVec.smod 32) = BitVec.ofNat 32 k.val := by decide +kernel
  show BitVec.ofNat 32 k <<< ((nI m &&& 31).toBitVec.smod 32) = BitVec.ofNat 32 (k * 2 ^ m)
  rw [key ⟨m, hm⟩]
  apply BitVec.eq_of_toNat_eq
  rw [BitVec.shiftLeft_eq', BitVec.toNat_shiftLeft, BitVec.toNat_ofNat, BitVec.toNat_ofNat, BitVec.toNat_ofNat, Nat.shiftLeft_eq, Nat.mod_eq_of_lt (show m < 2 ^ 32 by omega), Nat.mod_mul_mod])
theorem I_and (k m : Nat) (hk : k < 2 ^ 32) (hm : m ≤ 32) : nI k &&& nI (2 ^ m - 1) = nI (k % 2 ^ m) := I_ext (by
  show BitVec.ofNat 32 k &&& BitVec.ofNat 32 (2 ^ m - 1) = BitVec.ofNat 32 (k % 2 ^ m)
  apply BitVec.eq_of_toNat_eq
  have h1 : 2 ^ m ≤ 2 ^ 32 := Nat.pow_le_pow_right (by decide) hm
  have h0 : 0 < 2 ^ m := Nat.two_pow_pos m
  have h2 : k % 2 ^ m < 2 ^ 32 := Nat.lt_of_lt_of_le (Nat.mod_lt _ h0) h1
  rw [BitVec.toNat_and, BitVec.toNat_ofNat, BitVec.toNat_ofNat, BitVec.toNat_ofNat, Nat.mod_eq_of_lt hk, Nat.mod_eq_of_lt (show 2 ^ m - 1 < 2 ^ 32 by omega), Nat.mod_eq_of_lt h2, Nat.and_two_pow_sub_one_eq_mod])
theorem I_or (a b k : Nat) (ha : a < 2 ^ 32) (hb : b < 2 ^ 32) (h : a % 2 ^ k = 0) (hbk : b < 2 ^ k) : nI a ||| nI b = nI (a + b) := I_ext (by
  show BitVec.ofNat 32 a ||| BitVec.ofNat 32 b = BitVec.ofNat 32 (a + b)
  apply BitVec.eq_of_toNat_eq
  have e : a + b = a ||| b := by
    have e1 := Nat.div_add_mod a (2 ^ k)
    rw [h, Nat.add_zero] at e1
    rw [← e1]
    exact Nat.two_pow_add_eq_or_of_lt hbk _
  have hlt : a ||| b < 2 ^ 32 := Nat.or_lt_two_pow ha hb
  rw [BitVec.toNat_or, BitVec.toNat_ofNat, BitVec.toNat_ofNat, BitVec.toNat_ofNat, Nat.mod_eq_of_lt ha, Nat.mod_eq_of_lt hb, e, Nat.mod_eq_of_lt hlt])
