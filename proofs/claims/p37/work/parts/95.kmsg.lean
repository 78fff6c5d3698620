/-! Messages that are kept, and their fields: the class. -/
theorem mF_h (kd nu : Int32) (nb : Nat) (fb : Nat → Int32) : msgF kd nu nb fb 0 = nI 35 ∧ msgF kd nu nb fb 1 = kd ∧ msgF kd nu nb fb 2 = nI 34 ∧ msgF kd nu nb fb 3 = nu := by
  have h : ∀ j, j < 4 → msgF kd nu nb fb j = msgH kd nu j := fun j hj => by
    unfold msgF msgR
    rw [up1_n _ _ (by omega), up1_n _ _ (by omega), pk_cpy_out (Or.inl hj), pk_cpy_in (Nat.zero_le _) (by omega)]
    congr 1
    omega
  refine ⟨?_, ?_, ?_, ?_⟩ <;> rw [h _ (by decide)] <;> simp (disch := omega) only [msgH, up1_n, up1_s] <;> rfl
theorem mF_b (kd nu : Int32) (nb : Nat) (fb : Nat → Int32) (i : Nat) (hi : i < nb) : msgF kd nu nb fb (4 + i) = fb i := by
  unfold msgF msgR
  rw [up1_n _ _ (by omega), up1_n _ _ (by omega), pk_cpy_in (by omega) (by omega)]
  congr 1
  omega
theorem mF_10 (kd nu : Int32) (nb : Nat) (fb : Nat → Int32) : msgF kd nu nb fb (nb + 4) = nI 10 := by
  unfold msgF
  rw [up1_n _ _ (by omega), up1_s]
  rfl
theorem k_get {μ : MP} {ν : NC} {i n x p : Nat} (h0 : R0 ν) (hi : i < 6) (hsz : μ.1 4 i 2 = nI n) (hn : n ≤ 8191) (hl : n ≤ ν.1 5 i) (hl2 : ν.1 5 i ≤ 12300) (hx : x < n) (hp : μ.2 5 i x = p + 1) (hpc : p < ν.2 (eK 5 i)) : ls_get μ ν i (nI x) = some p := by
  obtain ⟨-, -, -, -, z4, z5, -⟩ := h0
  have h1 : ls_ok μ ν i = true := by
    unfold ls_ok
    rw [hsz, nI_clamp (by omega)]
    simp only [Bool.and_eq_true, decide_eq_true_eq, Bool.not_eq_true', decide_eq_false_iff_not]
    exact ⟨⟨⟨⟨by omega, by omega⟩, nIb _ (by omega)⟩, hl⟩, by omega⟩
  unfold ls_get
  rw [h1, hsz, nI_clamp (by omega), hp]
  have h2 : decide (nI x < 0) = false := decide_eq_false (nIb _ (by omega))
  have h3 : decide (nI x < nI n) = true := decide_eq_true ((nI_ltI (by omega) (by omega)).mpr hx)
  rw [h2, h3, nzs, Nat.add_sub_cancel, ltt hpc]
  rfl
/-- the message with a number, or none -/
theorem k_msg {w : Nat} {μ : MP} {ν : NC} {a : AS} {s n : Nat} (hR : RR μ ν a) (hs : s < 2) (h1 : 1 ≤ n) (hn : n ≤ tn (a 4 s)) : ∃ m : Nat, f_X5_message w μ ν s (nI n) = some (m + 1) ∧ μ.2 5 s (n - 1) = m + 1 ∧ m < ν.2 6 ∧ msgRel (μ.1 6 m) (μ.1 8 m) (ν.1 8 m) (a 11) (a 12) (a 13) (a 14) (a 15) (a 16) (a 17) (a 37) (a 39) (a 40) (8192 * s + n) n := by
  obtain ⟨h0, hF, -, h2, h3, -⟩ := id hR
  obtain ⟨z0, z1, z2, z3, z4, z5, -⟩ := id h0
  obtain ⟨y1, k, y2, y3, y4, y5, y6, y7⟩ := h3.1 s hs
  rw [y2, tnI (by omega)] at hn
  obtain ⟨m, x1, x2, x3⟩ := y7 (n - 1) (by omega)
  rw [show n - 1 + 1 = n by omega] at x3
  have heK : eK 5 s = 6 := by rcases (show s = 0 ∨ s = 1 by omega) with rfl | rfl <;> decide
  refine ⟨m, ?_, x1, x2, x3⟩
  have hg := k_get (μ := μ) (ν := ν) (i := s) (n := k) (x := n - 1) (p := m) h0 (by omega) (y1.trans y2) (by omega) y4 y5 (by omega) x1 (by rw [heK]; exact x2)
  have c1 : ¬ nI n < nI 1 := fun h => by have := (nI_ltI (by omega) (by decide)).mp h; omega
  have c2 : ¬ nI k < nI n := fun h => by have := (nI_ltI (by omega) (by omega)).mp h; omega
  unfold f_X5_message
  rw [q1, if_neg c1, ltt (by omega), ltt (by omega), y1, y2]
  simp only [cond_true]
  rw [if_neg c2, pk_sub (by omega), hg]
  simp only [Option.bind_some, heK, eqs, cond_true, ltt x2]
theorem k_msg0 {w : Nat} {μ : MP} {ν : NC} {a : AS} {s : Nat} {x : Int32} (hR : RR μ ν a) (hs : s < 2) (h : x < 1 ∨ a 4 s < x) : f_X5_message w μ ν s x = some 0 := by
  obtain ⟨h0, hF, -, h2, h3, -⟩ := id hR
  obtain ⟨z0, z1, z2, z3, z4, z5, -⟩ := id h0
  obtain ⟨y1, -⟩ := h3.1 s hs
  unfold f_X5_message b_X5_message_32
  by_cases c : x < 1
  · rw [if_pos c]
  · rw [if_neg c, ltt (by omega), ltt (by omega), y1]
    simp only [cond_true]
    rw [if_pos (h.resolve_left c)]
/-- the value of the first field with a tag -/
theorem k_val {w m L j : Nat} {μ : MP} {ν : NC} {tag : Int32} (h1 : m < ν.2 6) (h2 : ν.2 6 = ν.2 8) (hL : ν.1 8 m = L) (hL2 : L ≤ 1000) (hj : 2 * j + 1 < L) (ht : μ.1 8 m (2 * j) = tag) (hne : ∀ i, i < j → μ.1 8 m (2 * i) ≠ tag) (hw : 600 < w) : f_X3_valueOf w μ ν m tag = some (μ.1 8 m (2 * j + 1)) := by
  have key : ∀ (d i k : Nat), i + d = j → d < k → l_X3_valueOf_2 w μ ν m k tag (nI (2 * i)) = some (μ.1 8 m (2 * j + 1)) := by
    intro d
    induction d with
    | zero =>
      intro i k hi hk
      obtain ⟨k, rfl⟩ : ∃ k', k = k' + 1 := ⟨k - 1, by omega⟩
      obtain rfl : i = j := by omega
      have c : ¬ L ≤ 2 * i + 1 := by omega
      simp (disch := omega) only [l_X3_valueOf_2, b_X3_valueOf_2, ltt h1, ltt (h2 ▸ h1), hL, nI_eq, nI_leI, nI_ltI, c, if_true, if_false, yl, cond_true, cond_false, Option.bind_some, ixn, nI_clamp, nI_add, pk_mul, pk_sub, pk_rem, pk_div, up2_s, up2_n, up1_s, up1_n, mdn, nar0, nar1, q0, q1, q2, q3, q4, q5, q6, q7, q8, q10, q15, q20, q25, q40, q50, q80, q100, q200, q256, q8192, q16384, q65536, ht]
    | succ d ih =>
      intro i k hi hk
      obtain ⟨k, rfl⟩ : ∃ k', k = k' + 1 := ⟨k - 1, by omega⟩
      have c : ¬ L ≤ 2 * i + 1 := by omega
      have c2 := hne i (by omega)
      have hr := ih (i + 1) k (by omega) (by omega)
      rw [show 2 * (i + 1) = 2 * i + 2 by omega] at hr
      simp (disch := omega) only [l_X3_valueOf_2, b_X3_valueOf_2, ltt h1, ltt (h2 ▸ h1), hL, nI_eq, nI_leI, nI_ltI, c, c2, if_true, if_false, yl, cond_true, cond_false, Option.bind_some, ixn, nI_clamp, nI_add, pk_mul, pk_sub, pk_rem, pk_div, up2_s, up2_n, up1_s, up1_n, mdn, nar0, nar1, q0, q1, q2, q3, q4, q5, q6, q7, q8, q10, q15, q20, q25, q40, q50, q80, q100, q200, q256, q8192, q16384, q65536, hr]
  exact key j 0 w (by omega) (by omega)
theorem nIne {a b : Nat} (ha : a < 2 ^ 31) (hb : b < 2 ^ 31) (h : a ≠ b) : nI a ≠ nI b := fun e => h ((nI_eq ha hb).mp e)
/-- a field of the body, found by its tag -/
theorem k_fld {w m nb i tag : Nat} {μ : MP} {ν : NC} {kd nu : Int32} {fb : Nat → Int32} (h1 : m < ν.2 6) (h2 : ν.2 6 = ν.2 8) (hL : ν.1 8 m = nb + 6) (hnb : nb ≤ 806) (hrow : ∀ j, j < nb + 6 → μ.1 8 m j = msgF kd nu nb fb j) (hi : 2 * i + 1 < nb) (ht : fb (2 * i) = nI tag) (htg : tag ≠ 35 ∧ tag ≠ 34 ∧ tag < 1000) (hne : ∀ i', i' < i → fb (2 * i') ≠ nI tag) (hw : 600 < w) : f_X3_valueOf w μ ν m (nI tag) = some (fb (2 * i + 1)) := by
  have hb : ∀ j, j < nb → μ.1 8 m (4 + j) = fb j := fun j hj => (hrow _ (by omega)).trans (mF_b _ _ _ _ _ hj)
  obtain ⟨g0, g1, g2, g3⟩ := mF_h kd nu nb fb
  have hv := k_val (w := w) (μ := μ) (ν := ν) (j := i + 2) (tag := nI tag) h1 h2 hL (by omega) (by omega) (by rw [show 2 * (i + 2) = 4 + 2 * i by omega, hb _ (by omega)]; exact ht) (fun i' hi' => by
    rcases (show i' = 0 ∨ i' = 1 ∨ 2 ≤ i' by omega) with rfl | rfl | h
    · rw [hrow _ (by omega), g0]; exact nIne (by omega) (by omega) (by omega)
    · rw [hrow _ (by omega), g2]; exact nIne (by omega) (by omega) (by omega)
    · rw [show 2 * i' = 4 + 2 * (i' - 2) by omega, hb _ (by omega)]; exact hne _ (by omega)) hw
  rw [hv, show 2 * (i + 2) + 1 = 4 + (2 * i + 1) by omega, hb _ (by omega)]
