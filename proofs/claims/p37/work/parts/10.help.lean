/-- a truth value as an int -/
def bI (c : Prop) [Decidable c] : Int32 := if c then 1 else 0
theorem bI_t {c : Prop} [Decidable c] (h : c) : 1 = bI c := (if_pos h).symm
theorem bI_f {c : Prop} [Decidable c] (h : ¬ c) : 0 = bI c := (if_neg h).symm
theorem halfN {n f : Nat} (h : n = 2 * f) (h2 : f < 1048576) : nI n / 2 = nI f := by
  subst h
  rw [show (2 : Int32) = nI 2 from rfl, pk_div (by omega) (by decide) (by decide)]
  congr 1; omega
theorem i_lt_nI {x : Int32} {f : Nat} (h0 : ¬ x < 0) (h : x < nI f) (hf : f < 2 ^ 31) : ∃ j : Nat, j < f ∧ x = nI j := by
  obtain ⟨j, hj, rfl⟩ := nI_of h0
  exact ⟨j, (nI_ltI hj hf).mp h, rfl⟩
set_option maxHeartbeats 4000000 in
set_option maxRecDepth 100000 in
theorem two_nI (j : Nat) : (2 : Int32) * nI j = nI (2 * j) := pk_mul 2 j
theorem two_nI1 (j : Nat) : (2 : Int32) * nI j + 1 = nI (2 * j + 1) := by rw [two_nI, nI_1]
