/-! What the words of messages and executions hold. -/
theorem mc_lt {kd w o1 o2 o3 o4 t : Nat} (h1 : kd < 16) (h2 : w < 2) (h3 : o1 ≤ 100) (h4 : o2 ≤ 100) (h5 : o3 ≤ 100) (h6 : o4 ≤ 100) (h7 : t ≤ 100000) : mcode kd w o1 o2 o3 o4 t < 2 ^ 63 := by unfold mcode; omega
theorem mc_5 {kd w o1 o2 o3 o4 t : Nat} (h1 : kd < 16) (h2 : w < 2) (h3 : o1 ≤ 100) (h4 : o2 ≤ 100) (h5 : o3 ≤ 100) (h6 : o4 ≤ 100) : mcode kd w o1 o2 o3 o4 t / 2 ^ 5 % 256 = o1 := by unfold mcode; omega
theorem mc_13 {kd w o1 o2 o3 o4 t : Nat} (h1 : kd < 16) (h2 : w < 2) (h3 : o1 ≤ 100) (h4 : o2 ≤ 100) (h5 : o3 ≤ 100) (h6 : o4 ≤ 100) : mcode kd w o1 o2 o3 o4 t / 2 ^ 13 % 256 = o2 := by unfold mcode; omega
theorem mc_21 {kd w o1 o2 o3 o4 t : Nat} (h1 : kd < 16) (h2 : w < 2) (h3 : o1 ≤ 100) (h4 : o2 ≤ 100) (h5 : o3 ≤ 100) (h6 : o4 ≤ 100) : mcode kd w o1 o2 o3 o4 t / 2 ^ 21 % 256 = o3 := by unfold mcode; omega
theorem mc_29 {kd w o1 o2 o3 o4 t : Nat} (h1 : kd < 16) (h2 : w < 2) (h3 : o1 ≤ 100) (h4 : o2 ≤ 100) (h5 : o3 ≤ 100) (h6 : o4 ≤ 100) : mcode kd w o1 o2 o3 o4 t / 2 ^ 29 % 256 = o4 := by unfold mcode; omega
/-- bits of a word, w of them, from k on -/
theorem L_bits (C k w : Nat) (hC : C < 2 ^ 63) (hk : k < 64) (hw : w ≤ 64) : (nL C >>> (Int32.toInt64 (nI k) &&& 63)) &&& nL (2 ^ w - 1) = nL (C / 2 ^ k % 2 ^ w) := by
  rw [nL_k _ hk, nL_shr _ _ hC hk, nL_and _ _ (by have := Nat.div_le_self C (2 ^ k); omega) hw]
theorem f_part (w : Nat) (b : AS) {C k : Nat} (hC : C < 2 ^ 63) (hk : k < 64) : f_L_part w b (nL C) (nI k) = some (nI (C / 2 ^ k % 256)) := by
  unfold f_L_part
  rw [show (255 : Int64) = nL (2 ^ 8 - 1) from rfl, L_bits C k 8 hC hk (by decide), nL_I]
theorem f_price (w : Nat) (b : AS) {C k : Nat} (hC : C < 2 ^ 63) (hk : k < 64) : f_L_price w b (nL C) (nI k) = some (nI (C / 2 ^ k % 128)) := by
  unfold f_L_price
  rw [show (127 : Int64) = nL (2 ^ 7 - 1) from rfl, L_bits C k 7 hC hk (by decide), nL_I]
theorem f_size (w : Nat) (b : AS) {C : Nat} (hC : C < 2 ^ 63) : f_L_size w b (nL C) = some (nI (C / 2 ^ 14 % 128)) := by
  unfold f_L_size
  rw [show (127 : Int64) = nL (2 ^ 7 - 1) from rfl, show (14 : Int32) = nI 14 from rfl, L_bits C 14 7 hC (by decide) (by decide), nL_I]
theorem mc_kind {kd w o1 o2 o3 o4 t : Nat} (h1 : kd < 16) (h2 : w < 2) (h3 : o1 ≤ 100) (h4 : o2 ≤ 100) (h5 : o3 ≤ 100) (h6 : o4 ≤ 100) (h7 : t ≤ 100000) : Int64.toInt32 (nL (mcode kd w o1 o2 o3 o4 t) &&& (15 : Int64)) = nI kd := by
  have hC := mc_lt h1 h2 h3 h4 h5 h6 h7
  rw [show (15 : Int64) = nL (2 ^ 4 - 1) from rfl, nL_and _ _ (by omega) (by decide), nL_I]
  congr 1
  unfold mcode
  omega
theorem mc_when {kd w o1 o2 o3 o4 t : Nat} (h1 : kd < 16) (h2 : w < 2) (h3 : o1 ≤ 100) (h4 : o2 ≤ 100) (h5 : o3 ≤ 100) (h6 : o4 ≤ 100) (h7 : t ≤ 100000) : Int64.toInt32 (nL (mcode kd w o1 o2 o3 o4 t) >>> (Int32.toInt64 (37 : Int32) &&& 63)) = nI t := by
  have hC := mc_lt h1 h2 h3 h4 h5 h6 h7
  rw [show (37 : Int32) = nI 37 from rfl, nL_k _ (by decide), nL_shr _ _ hC (by decide), nL_I]
  congr 1
  unfold mcode
  omega
theorem mc_again {kd w o1 o2 o3 o4 t : Nat} (h1 : kd < 16) (h2 : w < 2) (h3 : o1 ≤ 100) (h4 : o2 ≤ 100) (h5 : o3 ≤ 100) (h6 : o4 ≤ 100) (h7 : t ≤ 100000) : (nL (mcode kd w o1 o2 o3 o4 t) >>> (Int32.toInt64 (4 : Int32) &&& 63)) &&& (1 : Int64) = nL w := by
  have hC := mc_lt h1 h2 h3 h4 h5 h6 h7
  rw [show (4 : Int32) = nI 4 from rfl, show (1 : Int64) = nL (2 ^ 1 - 1) from rfl, L_bits _ 4 1 hC (by decide) (by decide)]
  congr 1
  unfold mcode
  omega
theorem mc_16 {kd w o1 o2 o3 o4 t : Nat} (h1 : kd < 16) (h2 : w < 2) (h3 : o1 ≤ 100) (h4 : o2 ≤ 100) (h5 : o3 ≤ 100) (h6 : o4 ≤ 100) (h7 : t ≤ 100000) : nL (mcode kd w o1 o2 o3 o4 t) ||| (16 : Int64) = nL (mcode kd 1 o1 o2 o3 o4 t) := by
  have e : nL (mcode kd 0 o1 o2 o3 o4 t) ||| nL (1 * 2 ^ 4) = nL (mcode kd 1 o1 o2 o3 o4 t) := by
    have := nL_ins (o1 + 256 * o2 + 65536 * o3 + 16777216 * o4 + 4294967296 * t) kd 1 4 1 (by omega) (by decide) (by omega)
    rw [show mcode kd 0 o1 o2 o3 o4 t = 2 ^ (4 + 1) * (o1 + 256 * o2 + 65536 * o3 + 16777216 * o4 + 4294967296 * t) + kd from by unfold mcode; omega, this]
    congr 1
    unfold mcode
    omega
  have e16 : (16 : Int64) = nL (1 * 2 ^ 4) := rfl
  rcases (show w = 0 ∨ w = 1 by omega) with rfl | rfl
  · rw [e16, e]
  · rw [e16, ← e, Int64.or_assoc, Int64.or_self]
/-- of executions -/
theorem ec_lt {o v dy sz mp hp tp kn hb tb : Nat} (h1 : o < 10) (h2 : v < 3) (h3 : dy < 256) (h4 : sz < 128) (h5 : mp < 128) (h6 : hp < 128) (h7 : tp < 128) (h8 : kn < 2) (h9 : hb < 2) (h10 : tb < 2) : ecode o v dy sz mp hp tp kn hb tb < 2 ^ 63 := by unfold ecode; omega
theorem ec_bits {o v dy sz mp hp tp kn hb tb : Nat} (h1 : o < 10) (h2 : v < 3) (h3 : dy < 256) (h4 : sz < 128) (h5 : mp < 128) (h6 : hp < 128) (h7 : tp < 128) (h8 : kn < 2) (h9 : hb < 2) (h10 : tb < 2) : ecode o v dy sz mp hp tp kn hb tb % 16 = o ∧ ecode o v dy sz mp hp tp kn hb tb / 2 ^ 4 % 4 = v ∧ ecode o v dy sz mp hp tp kn hb tb / 2 ^ 6 % 256 = dy ∧ ecode o v dy sz mp hp tp kn hb tb / 2 ^ 14 % 128 = sz ∧ ecode o v dy sz mp hp tp kn hb tb / 2 ^ 21 % 128 = mp ∧ ecode o v dy sz mp hp tp kn hb tb / 2 ^ 28 % 128 = hp ∧ ecode o v dy sz mp hp tp kn hb tb / 2 ^ 35 % 128 = tp ∧ ecode o v dy sz mp hp tp kn hb tb / 2 ^ 42 % 2 = kn ∧ ecode o v dy sz mp hp tp kn hb tb / 2 ^ 43 % 2 = hb ∧ ecode o v dy sz mp hp tp kn hb tb / 2 ^ 44 % 2 = tb := by
  unfold ecode
  refine ⟨?_, ?_, ?_, ?_, ?_, ?_, ?_, ?_, ?_, ?_⟩ <;> omega
