/-- the row of a list's longer array -/
def grP (σ : RS) (i : Nat) : Nat → Nat := fun z => if z < rN σ 5 i then rP σ 5 i z else 0
theorem cpy_gr (σ : RS) (i : Nat) : ∀ j, va_cpy (oa σ 5 i) (fun _ => none) 0 0 (rN σ 5 i) j = if grP σ i j = 0 then none else some (rA σ (eK 5 i) (grP σ i j - 1)) := fun j => by
  unfold va_cpy grP oa
  by_cases hj : j < rN σ 5 i
  · rw [if_pos ⟨Nat.zero_le _, by omega⟩, if_pos hj, Nat.sub_zero, Nat.zero_add]
  · rw [if_neg (by omega), if_neg hj, if_pos rfl]
set_option maxHeartbeats 4000000 in
set_option maxRecDepth 100000 in
theorem k_Jx4a65c_grow_92f84 (l : Launch) (B : Nat × (Nat → Nat)) (σ : RS) (i k : Nat) (l4 : live σ 4 i) (l5 : live σ 5 i) (hne : rN σ 5 i ≠ 0) (hk : k = if 1 < rN σ 5 i / 2 ^ 1 then rN σ 5 i / 2 ^ 1 else 1) (hN : rN σ 5 i ≤ 2097152) (hel : ∀ j : Nat, j < rN σ 5 i → rP σ 5 i j ≠ 0 → live σ (eK 5 i) (rP σ 5 i j - 1)) : ∀ D E sz, Met l yJx4a65c_grow_92f84 gwJx4a65c_grow_92f84 ({ frames := 3, cells := 1, slots := (rN σ 5 i + k), locals := 90 } : Room) (cPe D E sz B σ [] [] [.ref (rA σ 4 i), .int (nI (rN σ 5 i + 1))]) (cQ D E sz σ [] (pQ (fun r u => ∃ q, r = .ref q ∧ u = (sL σ i (grP σ i) (rN σ 5 i + k) q, [])))) (1) ((rN σ 5 i + k)) (Aof σ [] sz) := by
  have hk1 : 1 ≤ k ∧ k ≤ 2097152 := by
    rw [hk]
    split <;> omega
  intro D E sz
  refine g_ofe (cc := cJx4a65c_grow_92f84) (maxL := 4) (ret := (some (.array (.object "java/lang/Object")))) (own := "java/util/ArrayList") (by decide) rfl rfl (Nat.le_of_ble_eq_true rfl) ?_
  intro p e s m args below meth c C hr hin hz ha hwr hEv
  refine g_aload_n C dJx4a65c_grow_92f84_0 rfl 0 rfl ?_
  refine g_get (k := 4) (i := i) (ref := "java/util/ArrayList") C (by exact rfl) (by exact l4) rfl rfl inGJx4a65c 1 (by decide) gw_60 (fun _ h => h) rfl dJx4a65c_grow_92f84_1 ?_
  refine g_topr (fun qq1 eqq1 => ?_)
  have fqq1 : rA σ 5 i = qq1 := (if_neg hne).symm.trans eqq1
  refine g_alen (k := 5) (i := i) C (by exact fqq1) (by exact l5) (by decide) rfl dJx4a65c_grow_92f84_4 ?_
  refine g_istore_n (lv' := [(2, .int (nI (rN σ 5 i))), (0, .ref (rA σ 4 i)), (1, .int (nI (rN σ 5 i + 1)))]) C dJx4a65c_grow_92f84_5 rfl (by decide) rfl ?_
  refine g_iload_n C dJx4a65c_grow_92f84_6 rfl 0 rfl ?_
  refine g_if_gt (tgt := 20) C dJx4a65c_grow_92f84_7 (by decide) (fun c7 => ?_) (fun c7 => ?_)
  · skip
    refine g_iload_n C dJx4a65c_grow_92f84_20 rfl 0 rfl ?_
    refine g_iload_n C dJx4a65c_grow_92f84_21 rfl 2 rfl ?_
    refine g_iload_n C dJx4a65c_grow_92f84_22 rfl 0 rfl ?_
    refine g_isub C dJx4a65c_grow_92f84_23 ?_
    rw [show nI (rN σ 5 i + 1) - nI (rN σ 5 i) = nI 1 by rw [Nat.add_comm, ← nI_add, Int32.add_sub_cancel]]
    refine g_iload_n C dJx4a65c_grow_92f84_24 rfl 0 rfl ?_
    refine g_iconst (v := 1) C dJx4a65c_grow_92f84_25 (by decide) ?_
    refine g_ishr C dJx4a65c_grow_92f84_26 ?_
    rw [pk_shrN (by omega) _ 1 (by decide)]
    refine g_cSi (n := 3) (exc := []) (exr := []) C [_, _, _] _ rfl rfl [] [] rfl rfl rfl rfl (fun _ h => absurd h (by simp)) (fun _ h => absurd h (by simp)) (fun _ h => absurd h (by simp)) (fun sz => k_J8_newLength_cabcc l σ (rN σ 5 i) 1 (rN σ 5 i / 2 ^ 1) k (by omega) (by omega) hk (by omega) (by omega) D E sz) rfl gw_369 gw_21 gw_367 gw_368 ⟨by decide +kernel, by decide +kernel, by decide +kernel⟩ ⟨rfl, rfl⟩ ⟨Nat.le_of_ble_eq_true rfl, Nat.le_of_ble_eq_true rfl⟩ (Nat.le_of_ble_eq_true rfl) dJx4a65c_grow_92f84_27 ⟨Nat.zero_le _, Nat.zero_le _⟩ (fun r u hp hx => ?_)
    obtain ⟨rfl, rfl⟩ := hp
    refine g_istore_n (lv' := [(3, .int (nI (rN σ 5 i + k))), (2, .int (nI (rN σ 5 i))), (0, .ref (rA σ 4 i)), (1, .int (nI (rN σ 5 i + 1)))]) C dJx4a65c_grow_92f84_30 rfl (by decide) rfl ?_
    refine g_aload_n C dJx4a65c_grow_92f84_31 rfl 2 rfl ?_
    refine g_aload_n C dJx4a65c_grow_92f84_32 rfl 2 rfl ?_
    refine g_get (k := 4) (i := i) (ref := "java/util/ArrayList") C (by exact rfl) (by exact l4) rfl rfl inGJx4a65c 1 (by decide) gw_60 (fun _ h => h) rfl dJx4a65c_grow_92f84_33 ?_
    refine g_topr (fun qq2 eqq2 => ?_)
    have fqq2 : rA σ 5 i = qq2 := (if_neg hne).symm.trans eqq2
    refine g_iload_n C dJx4a65c_grow_92f84_36 rfl 0 rfl ?_
    refine g_cSqe (n := 2) (exc := []) (exr := []) C hEv ⟨rfl, rfl⟩ [_, _] _ rfl rfl [] [] rfl rfl rfl rfl (fun _ h => absurd h (by simp)) (fun _ h => absurd h (by simp)) (fun _ h => absurd h (by simp)) (fun sz => fqq2 ▸ k_J7_copyOf_1904c l B σ i (rN σ 5 i + k) l5 (by omega) (by omega) hel D E sz) rfl gw_379 gw_17 gw_377 gw_378 ⟨by decide +kernel, by decide +kernel, by decide +kernel⟩ ⟨rfl, rfl⟩ ⟨Nat.le_of_ble_eq_true rfl, Nat.le_of_ble_eq_true rfl⟩ (Nat.le_of_ble_eq_true rfl) dJx4a65c_grow_92f84_37 ⟨Nat.le_refl _, (by show 0 + 0 + (rN σ 5 i + k) ≤ (rN σ 5 i + k); omega)⟩ (fun r u hp hx => ?_)
    obtain ⟨q, rfl, rfl⟩ := hp
    try dsimp only [List.append_nil]
    refine g_dup_x1 C dJx4a65c_grow_92f84_40 rfl rfl ?_
    refine g_putQ (t := i) (N := (rN σ 5 i + k)) (p0 := grP σ i) (gq := (va_cpy (oa σ 5 i) (fun _ => none) 0 0 (rN σ 5 i))) (ex' := []) C (by exact rfl) (by exact l4) l5.1 (by omega) 0 rfl (cpy_gr σ i) (hx 0 _ rfl).1 [] rfl rfl (by decide) gw_60 dJx4a65c_grow_92f84_41 ?_
    refine g_widen (k := 1) (n := (rN σ 5 i + k)) (by omega) (by omega) ?_
    exact g_aret C hr (Or.inr ⟨_, rfl⟩) (Or.inr ⟨_, rfl⟩) hz ⟨rfl, rfl, fun _ => rfl, fun _ => rfl⟩ ⟨q, rfl, rfl⟩ (fun j x h => by simp at h) dJx4a65c_grow_92f84_44
  · exact absurd c7 (fun q => q (by rw [← nI_0]; exact nI_lt (Nat.pos_of_ne_zero hne) (by omega)))
set_option maxHeartbeats 4000000 in
set_option maxRecDepth 100000 in
theorem k_Jx4a65c_grow_d5877 (l : Launch) (B : Nat × (Nat → Nat)) (σ : RS) (i k : Nat) (l4 : live σ 4 i) (l5 : live σ 5 i) (hne : rN σ 5 i ≠ 0) (hk : k = if 1 < rN σ 5 i / 2 ^ 1 then rN σ 5 i / 2 ^ 1 else 1) (hN : rN σ 5 i ≤ 2097152) (hel : ∀ j : Nat, j < rN σ 5 i → rP σ 5 i j ≠ 0 → live σ (eK 5 i) (rP σ 5 i j - 1)) (hs2 : rM σ 4 i 2 = nI (rN σ 5 i)) : ∀ D E sz, Met l yJx4a65c_grow_d5877 gwJx4a65c_grow_d5877 ({ frames := 4, cells := 1, slots := (rN σ 5 i + k), locals := 130 } : Room) (cPe D E sz B σ [] [] [.ref (rA σ 4 i)]) (cQ D E sz σ [] (pQ (fun r u => ∃ q, r = .ref q ∧ u = (sL σ i (grP σ i) (rN σ 5 i + k) q, [])))) (1) ((rN σ 5 i + k)) (Aof σ [] sz) := by
  intro D E sz
  refine g_ofe (cc := cJx4a65c_grow_d5877) (maxL := 1) (ret := (some (.array (.object "java/lang/Object")))) (own := "java/util/ArrayList") (by decide) rfl rfl (Nat.le_of_ble_eq_true rfl) ?_
  intro p e s m args below meth c C hr hin hz ha hwr hEv
  refine g_aload_n C dJx4a65c_grow_d5877_0 rfl 0 rfl ?_
  refine g_aload_n C dJx4a65c_grow_d5877_1 rfl 0 rfl ?_
  refine g_get (k := 4) (i := i) (ref := "java/util/ArrayList") C (by exact rfl) (by exact l4) rfl rfl inGJx4a65c 2 (by decide) gw_61 (fun _ h => h) rfl dJx4a65c_grow_d5877_2 ?_
  refine g_iconst (v := 1) C dJx4a65c_grow_d5877_5 (by decide) ?_
  refine g_iadd C dJx4a65c_grow_d5877_6 ?_
  rw [hs2, nI_1]
  refine g_cVqe (n := 1) (exc := []) (exr := []) C hEv ⟨rfl, rfl⟩ [_] _ rfl rfl [] [] rfl rfl rfl rfl (fun _ h => absurd h (by simp)) (fun _ h => absurd h (by simp)) (fun _ h => absurd h (by simp)) (fun sz => k_Jx4a65c_grow_92f84 l B σ i k l4 l5 hne hk hN hel D E sz) rfl gw_366 gw_5 gw_363 gw_365 gs_5 ⟨by decide +kernel, by decide +kernel, by decide +kernel⟩ ⟨rfl, rfl⟩ ⟨Nat.le_of_ble_eq_true rfl, Nat.le_of_ble_eq_true rfl⟩ (rcvT (by exact l4) rfl rfl rfl) (Nat.le_of_ble_eq_true rfl) dJx4a65c_grow_d5877_7 ⟨Nat.le_refl _, (by show 0 + (rN σ 5 i + k) ≤ (rN σ 5 i + k); omega)⟩ (fun r u hp hx => ?_)
  obtain ⟨q, rfl, rfl⟩ := hp
  try dsimp only [List.append_nil]
  refine g_widen (k := 1) (n := (rN σ 5 i + k)) (by omega) (by omega) ?_
  exact g_aret C hr (Or.inr ⟨_, rfl⟩) (Or.inr ⟨_, rfl⟩) hz ⟨rfl, rfl, fun _ => rfl, fun _ => rfl⟩ (⟨q, rfl, rfl⟩) (fun j x h => by simp at h) dJx4a65c_grow_d5877_10
set_option maxHeartbeats 4000000 in
set_option maxRecDepth 100000 in
theorem k_Jx4a65c_grow_92f84_0 (l : Launch) (B : Nat × (Nat → Nat)) (σ : RS) (i : Nat) (l4 : live σ 4 i) (h5 : i < rC σ 5) (h0 : rN σ 5 i = 0) (l31 : live σ 31 0) (h31 : rN σ 31 0 = 0) : ∀ D E sz, Met l yJx4a65c_grow_92f84 gwJx4a65c_grow_92f84 ({ frames := 1, cells := 1, slots := 10, locals := 40 } : Room) (cPe D E sz B σ [] [] [.ref (rA σ 4 i), .int (nI 1)]) (cQ D E sz σ [] (pQ (fun r u => ∃ q, r = .ref q ∧ u = (sL σ i (fun _ => 0) 10 q, [])))) (1) (10) (Aof σ [] sz) := by
  intro D E sz
  refine g_ofe (cc := cJx4a65c_grow_92f84) (maxL := 4) (ret := (some (.array (.object "java/lang/Object")))) (own := "java/util/ArrayList") (by decide) rfl rfl (Nat.le_of_ble_eq_true rfl) ?_
  intro p e s m args below meth c C hr hin hz ha hwr hEv
  refine g_aload_n C dJx4a65c_grow_92f84_0 rfl 0 rfl ?_
  refine g_get (k := 4) (i := i) (ref := "java/util/ArrayList") C (by exact rfl) (by exact l4) rfl rfl inGJx4a65c 1 (by decide) gw_60 (fun _ h => h) rfl dJx4a65c_grow_92f84_1 ?_
  refine g_topr (fun qq1 eqq1 => ?_)
  have fqq1 : rA σ 31 0 = qq1 := (if_pos h0).symm.trans eqq1
  refine g_alen (k := 31) (i := 0) C (by exact fqq1) (by exact l31) (by decide) rfl dJx4a65c_grow_92f84_4 ?_
  rw [h31]
  refine g_istore_n (lv' := [(2, .int (nI 0)), (0, .ref (rA σ 4 i)), (1, .int (nI 1))]) C dJx4a65c_grow_92f84_5 rfl (by decide) rfl ?_
  refine g_iload_n C dJx4a65c_grow_92f84_6 rfl 0 rfl ?_
  refine g_if_gt (tgt := 20) C dJx4a65c_grow_92f84_7 (by decide) (fun c7 => ?_) (fun c7 => ?_)
  · exact absurd c7 (show ¬ (0 : Int32) < nI 0 by rw [nI_0]; decide)
  · skip
    refine g_aload_n C dJx4a65c_grow_92f84_10 rfl 1 rfl ?_
    refine g_get (k := 4) (i := i) (ref := "java/util/ArrayList") C (by exact rfl) (by exact l4) rfl rfl inGJx4a65c 1 (by decide) gw_60 (fun _ h => h) rfl dJx4a65c_grow_92f84_11 ?_
    refine g_topr (fun qq2 eqq2 => ?_)
    have fqq2 : rA σ 31 0 = qq2 := (if_pos h0).symm.trans eqq2
    refine g_getsE C hEv gw_58 dJx4a65c_grow_92f84_14 ?_
    refine g_acmp_eq (tgt := 45) C dJx4a65c_grow_92f84_17 (by decide) (fun _ => ?_) (fun h => absurd fqq2.symm h)
    refine g_aload_n C dJx4a65c_grow_92f84_45 rfl 1 rfl ?_
    refine g_bipush (v := 10) C dJx4a65c_grow_92f84_46 (by decide) ?_
    refine g_iload_n C dJx4a65c_grow_92f84_48 rfl 2 rfl ?_
    refine g_mmax C gw_405 gw_371 gw_19 gw_372 (Nat.le_of_ble_eq_true rfl) (Nat.le_of_ble_eq_true rfl) (Nat.le_of_ble_eq_true rfl) (Nat.le_of_ble_eq_true rfl) dJx4a65c_grow_92f84_49 ?_
    rw [if_neg (show ¬ (10 : Int32) < nI 1 by decide +kernel)]
    refine g_newq (N' := 10) C 2 (Or.inl rfl) gw_406 hEv.2.2.2.1.1 (by decide +kernel) (by decide +kernel) (by decide) (Nat.le_of_ble_eq_true rfl) (Nat.le_of_ble_eq_true rfl) dJx4a65c_grow_92f84_52 (fun q hq hqs => ?_)
    refine g_dup_x1 C dJx4a65c_grow_92f84_55 rfl rfl ?_
    refine g_putQ (t := i) (N := 10) (p0 := fun _ => 0) (gq := fun _ => none) (ex' := []) C (by exact rfl) (by exact l4) h5 (by decide) 0 rfl (fun _ => (if_pos rfl).symm) hq [] rfl rfl (by decide) gw_60 dJx4a65c_grow_92f84_56 ?_
    exact g_aret C hr (Or.inr ⟨_, rfl⟩) (Or.inr ⟨_, rfl⟩) hz ⟨rfl, rfl, fun _ => rfl, fun _ => rfl⟩ ⟨q, rfl, rfl⟩ (fun j x h => by simp at h) dJx4a65c_grow_92f84_59
set_option maxHeartbeats 4000000 in
set_option maxRecDepth 100000 in
theorem k_Jx4a65c_grow_d5877_0 (l : Launch) (B : Nat × (Nat → Nat)) (σ : RS) (i : Nat) (l4 : live σ 4 i) (h5 : i < rC σ 5) (h0 : rN σ 5 i = 0) (l31 : live σ 31 0) (h31 : rN σ 31 0 = 0) (hs2 : rM σ 4 i 2 = nI 0) : ∀ D E sz, Met l yJx4a65c_grow_d5877 gwJx4a65c_grow_d5877 ({ frames := 2, cells := 1, slots := 10, locals := 80 } : Room) (cPe D E sz B σ [] [] [.ref (rA σ 4 i)]) (cQ D E sz σ [] (pQ (fun r u => ∃ q, r = .ref q ∧ u = (sL σ i (fun _ => 0) 10 q, [])))) (1) (10) (Aof σ [] sz) := by
  intro D E sz
  refine g_ofe (cc := cJx4a65c_grow_d5877) (maxL := 1) (ret := (some (.array (.object "java/lang/Object")))) (own := "java/util/ArrayList") (by decide) rfl rfl (Nat.le_of_ble_eq_true rfl) ?_
  intro p e s m args below meth c C hr hin hz ha hwr hEv
  refine g_aload_n C dJx4a65c_grow_d5877_0 rfl 0 rfl ?_
  refine g_aload_n C dJx4a65c_grow_d5877_1 rfl 0 rfl ?_
  refine g_get (k := 4) (i := i) (ref := "java/util/ArrayList") C (by exact rfl) (by exact l4) rfl rfl inGJx4a65c 2 (by decide) gw_61 (fun _ h => h) rfl dJx4a65c_grow_d5877_2 ?_
  refine g_iconst (v := 1) C dJx4a65c_grow_d5877_5 (by decide) ?_
  refine g_iadd C dJx4a65c_grow_d5877_6 ?_
  rw [hs2, nI_1]
  refine g_cVqe (n := 1) (exc := []) (exr := []) C hEv ⟨rfl, rfl⟩ [_] _ rfl rfl [] [] rfl rfl rfl rfl (fun _ h => absurd h (by simp)) (fun _ h => absurd h (by simp)) (fun _ h => absurd h (by simp)) (fun sz => k_Jx4a65c_grow_92f84_0 l B σ i l4 h5 h0 l31 h31 D E sz) rfl gw_366 gw_5 gw_363 gw_365 gs_5 ⟨by decide +kernel, by decide +kernel, by decide +kernel⟩ ⟨rfl, rfl⟩ ⟨Nat.le_of_ble_eq_true rfl, Nat.le_of_ble_eq_true rfl⟩ (rcvT (by exact l4) rfl rfl rfl) (Nat.le_of_ble_eq_true rfl) dJx4a65c_grow_d5877_7 ⟨by decide, by decide⟩ (fun r u hp hx => ?_)
  obtain ⟨q, rfl, rfl⟩ := hp
  try dsimp only [List.append_nil]
  refine g_widen (k := 1) (n := 10) (by omega) (by omega) ?_
  exact g_aret C hr (Or.inr ⟨_, rfl⟩) (Or.inr ⟨_, rfl⟩) hz ⟨rfl, rfl, fun _ => rfl, fun _ => rfl⟩ (⟨q, rfl, rfl⟩) (fun j x h => by simp at h) dJx4a65c_grow_d5877_10
