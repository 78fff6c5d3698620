/-! Orders' bits, quotes' words, what is left. -/
variable {Hh : Nat → Nat}
theorem and_p2 (C k : Nat) : C &&& 2 ^ k = 2 ^ k * (C / 2 ^ k % 2) := by
  apply Nat.eq_of_testBit_eq
  intro i
  rw [Nat.testBit_and, Nat.testBit_two_pow, Nat.testBit_two_pow_mul]
  by_cases h : k = i
  · subst h
    simp [Nat.testBit_eq_decide_div_mod_eq]
  · by_cases h2 : i < k
    · simp [h, show ¬ k ≤ i by omega]
    · have h3 : (C / 2 ^ k % 2).testBit (i - k) = false := Nat.testBit_lt_two_pow (Nat.lt_of_lt_of_le (Nat.mod_lt _ (by decide)) (show 2 ≤ 2 ^ (i - k) from Nat.le_trans (by decide : 2 ≤ 2 ^ 1) (Nat.pow_le_pow_right (by decide) (by omega))))
      simp [h, h3]
theorem I_bit (C k : Nat) (hC : C < 2 ^ 31) (hk : k < 31) : nI C &&& nI (2 ^ k) = nI (2 ^ k * (C / 2 ^ k % 2)) := I_ext (by
  show BitVec.ofNat 32 C &&& BitVec.ofNat 32 (2 ^ k) = BitVec.ofNat 32 (2 ^ k * (C / 2 ^ k % 2))
  apply BitVec.eq_of_toNat_eq
  have h1 : 2 ^ k < 2 ^ 31 := Nat.pow_lt_pow_right (by decide) hk
  have h3 : C / 2 ^ k % 2 < 2 := Nat.mod_lt _ (by decide)
  have h2 : 2 ^ k * (C / 2 ^ k % 2) ≤ 2 ^ k * 1 := Nat.mul_le_mul_left _ (by omega)
  have e := and_p2 C k
  rw [BitVec.toNat_and, BitVec.toNat_ofNat, BitVec.toNat_ofNat, BitVec.toNat_ofNat, Nat.mod_eq_of_lt (show C < 2 ^ 32 by omega), Nat.mod_eq_of_lt (show 2 ^ k < 2 ^ 32 by omega), Nat.mod_eq_of_lt (show 2 ^ k * (C / 2 ^ k % 2) < 2 ^ 32 by omega), e])
theorem kc_lt {se kn ha le un rk : Nat} (h1 : se < 2) (h2 : kn < 2) (h3 : ha < 2) (h4 : le < 2) (h5 : un ≤ 5) (h6 : rk ≤ 10000) : kcode se kn ha le un rk < 2 ^ 31 := by unfold kcode; omega
theorem kd_bits {se kn ha le un rk : Nat} (h1 : se < 2) (h2 : kn < 2) (h3 : ha < 2) (h4 : le < 2) (h5 : un ≤ 5) (h6 : rk ≤ 10000) : nI (kcode se kn ha le un rk) &&& (1 : Int32) = nI se ∧ nI (kcode se kn ha le un rk) &&& (2 : Int32) = nI (2 * kn) ∧ nI (kcode se kn ha le un rk) &&& (4 : Int32) = nI (4 * ha) ∧ nI (kcode se kn ha le un rk) &&& (8 : Int32) = nI (8 * le) ∧ (nI (kcode se kn ha le un rk) >>> ((4 : Int32) &&& 31)) &&& (7 : Int32) = nI un ∧ nI (kcode se kn ha le un rk) >>> ((8 : Int32) &&& 31) = nI rk ∧ nI (kcode se kn ha le un rk) &&& (255 : Int32) = nI (kcode se kn ha le un 0) := by
  have hC := kc_lt h1 h2 h3 h4 h5 h6
  refine ⟨?_, ?_, ?_, ?_, ?_, ?_, ?_⟩
  · rw [show (1 : Int32) = nI (2 ^ 0) from rfl, I_bit _ 0 hC (by decide)]; congr 1; unfold kcode; omega
  · rw [show (2 : Int32) = nI (2 ^ 1) from rfl, I_bit _ 1 hC (by decide)]; congr 1; unfold kcode; omega
  · rw [show (4 : Int32) = nI (2 ^ 2) from rfl, I_bit _ 2 hC (by decide)]; congr 1; unfold kcode; omega
  · rw [show (8 : Int32) = nI (2 ^ 3) from rfl, I_bit _ 3 hC (by decide)]; congr 1; unfold kcode; omega
  · rw [show (4 : Int32) = nI 4 from rfl, I_shr _ 4 hC (by decide), show (7 : Int32) = nI (2 ^ 3 - 1) from rfl, I_and _ 3 (by have := Nat.div_le_self (kcode se kn ha le un rk) (2 ^ 4); omega) (by decide)]; congr 1; unfold kcode; omega
  · rw [show (8 : Int32) = nI 8 from rfl, I_shr _ 8 hC (by decide)]; congr 1; unfold kcode; omega
  · rw [show (255 : Int32) = nI (2 ^ 8 - 1) from rfl, I_and _ 8 (by omega) (by decide)]; congr 1; unfold kcode; omega
theorem tq_bits {pr sz : Nat} (h1 : pr ≤ 100) (h2 : sz ≤ 200) : nI (sz + 256 * pr) &&& (255 : Int32) = nI sz ∧ nI (sz + 256 * pr) >>> ((8 : Int32) &&& 31) = nI pr := by
  refine ⟨?_, ?_⟩
  · rw [show (255 : Int32) = nI (2 ^ 8 - 1) from rfl, I_and _ 8 (by omega) (by decide)]; congr 1; omega
  · rw [show (8 : Int32) = nI 8 from rfl, I_shr _ 8 (by omega) (by decide)]; congr 1; omega
theorem lk_rest {w z o : Nat} {b a : AS} (h : LR Hh b a) (hz : z < 2) (ho : o < 10) : f_L_rest w b (nI (10 * z + o)) = some (lft a (40 * z + o)) := by
  obtain ⟨-, g2, g3, g4, -⟩ := h.2.2.2.2.2.1 z o hz ho
  unfold f_L_rest
  rw [ixn (by omega) (by decide), nI_clamp (by omega), g2, g3, g4]
  rfl
