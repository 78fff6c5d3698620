/-- place j is taken out of a row that ends at n1 -/
def rmP (p : Nat → Nat) (j n1 : Nat) : Nat → Nat := fun z => if z = n1 then 0 else if j ≤ z ∧ z < n1 then p (z + 1) else p z
theorem rm_0 (p : Nat → Nat) (n1 : Nat) : up1 p n1 0 = rmP p n1 n1 := by
  funext z
  unfold up1 rmP
  by_cases h : z = n1
  · rw [if_pos h, if_pos h]
  · rw [if_neg h, if_neg h, if_neg (by omega)]
theorem rm_1 (p : Nat → Nat) {j n1 : Nat} (hj : j < n1) : up1 (va_cpy p p (j + 1) j (n1 - j)) n1 0 = rmP p j n1 := by
  funext z
  unfold up1 rmP va_cpy
  by_cases h : z = n1
  · rw [if_pos h, if_pos h]
  · rw [if_neg h, if_neg h]
    by_cases h2 : j ≤ z ∧ z < n1
    · rw [if_pos h2, if_pos (by omega), show j + 1 + (z - j) = z + 1 by omega]
    · rw [if_neg h2, if_neg (by omega)]
/-- list i without its element j; n1 stay -/
def rmS (σ : RS) (i j n1 : Nat) : RS := sQ (sM (sM σ 4 i 0 (rM σ 4 i 0 + 1)) 4 i 2 (nI n1)) 5 i (rmP (rP σ 5 i) j n1)
set_option maxHeartbeats 4000000 in
set_option maxRecDepth 100000 in
theorem k_Jx4a65c_fastRemove_b59b0 (l : Launch) (B : Nat × (Nat → Nat)) (σ : RS) (i j n1 : Nat) (l4 : live σ 4 i) (l5 : live σ 5 i) (hs2 : rM σ 4 i 2 = nI (n1 + 1)) (hj : j ≤ n1) (hn : n1 < rN σ 5 i) (hN : rN σ 5 i ≤ 2097152) (hel : ∀ j : Nat, j < rN σ 5 i → rP σ 5 i j ≠ 0 → live σ (eK 5 i) (rP σ 5 i j - 1)) : ∀ D E sz, Met l yJx4a65c_fastRemove_b59b0 gwJx4a65c_fastRemove_b59b0 ({ frames := 1, cells := 0, slots := 0, locals := 40 } : Room) (cPe D E sz B σ [] [] [.ref (rA σ 4 i), .ref (rA σ 5 i), .int (nI j)]) (cQ D E sz σ [] (pV (fun u => u = (rmS σ i j n1, [])))) (0) (0) (Aof σ [] sz) := by
  intro D E sz
  refine g_ofe (cc := cJx4a65c_fastRemove_b59b0) (maxL := 4) (ret := none) (own := "java/util/ArrayList") (by decide) rfl rfl (Nat.le_of_ble_eq_true rfl) ?_
  intro p e s m args below meth c C hr hin hz ha hwr hEv
  refine g_aload_n C dJx4a65c_fastRemove_b59b0_0 rfl 0 rfl ?_
  refine g_dup C dJx4a65c_fastRemove_b59b0_1 rfl ?_
  refine g_get (k := 4) (i := i) (ref := "java/util/ArrayList") C (by exact rfl) (by exact l4) rfl rfl inGJx4a65c 0 (by decide) gw_63 (u_same (C.2.2.2.1 _ gw_64)) rfl dJx4a65c_fastRemove_b59b0_2 ?_
  refine g_iconst (v := 1) C dJx4a65c_fastRemove_b59b0_5 (by decide) ?_
  refine g_iadd C dJx4a65c_fastRemove_b59b0_6 ?_
  refine g_put (k := 4) (i := i) (ref := "java/util/ArrayList") C (by exact rfl) (by exact l4) rfl rfl inGJx4a65c tyJx4a65c tyJx4a65c_ok nmJx4a65c 0 (by decide) gw_63 (u_same (C.2.2.2.1 _ gw_64)) rfl (tyJx4a65c_ok 0 (by decide)) rfl rfl (by simp [fvs]) (by simp [fvs, up1]) dJx4a65c_fastRemove_b59b0_7 ?_
  refine g_aload_n C dJx4a65c_fastRemove_b59b0_10 rfl 0 rfl ?_
  refine g_get (k := 4) (i := i) (ref := "java/util/ArrayList") C (by exact rfl) (by exact l4) rfl rfl inGJx4a65c 2 (by decide) gw_61 (fun _ h => h) rfl dJx4a65c_fastRemove_b59b0_11 ?_
  rw [show rM (sM σ 4 i 0 (rM σ 4 i 0 + 1)) 4 i 2 = nI (n1 + 1) by simp [rMsM, hs2]]
  refine g_iconst (v := 1) C dJx4a65c_fastRemove_b59b0_14 (by decide) ?_
  refine g_isub C dJx4a65c_fastRemove_b59b0_15 ?_
  rw [nI_pred]
  refine g_dup C dJx4a65c_fastRemove_b59b0_16 rfl ?_
  refine g_istore_n (lv' := [(3, .int (nI n1)), (0, .ref (rA σ 4 i)), (1, .ref (rA σ 5 i)), (2, .int (nI j))]) C dJx4a65c_fastRemove_b59b0_17 rfl (by decide) rfl ?_
  refine g_iload_n C dJx4a65c_fastRemove_b59b0_18 rfl 3 rfl ?_
  refine g_icmp_le (tgt := 34) C dJx4a65c_fastRemove_b59b0_19 (by decide) (fun c19 => ?_) (fun c19 => ?_)
  · skip
    refine g_aload_n C dJx4a65c_fastRemove_b59b0_34 rfl 2 rfl ?_
    refine g_aload_n C dJx4a65c_fastRemove_b59b0_35 rfl 1 rfl ?_
    refine g_iload_n C dJx4a65c_fastRemove_b59b0_36 rfl 0 rfl ?_
    refine g_dup_x1 C dJx4a65c_fastRemove_b59b0_37 rfl rfl ?_
    refine g_put (k := 4) (i := i) (ref := "java/util/ArrayList") C (by exact rfl) (by exact l4) rfl rfl inGJx4a65c tyJx4a65c tyJx4a65c_ok nmJx4a65c 2 (by decide) gw_61 (fun _ h => h) rfl (tyJx4a65c_ok 2 (by decide)) rfl rfl (by simp [fvs]) (by simp [fvs, up1]) dJx4a65c_fastRemove_b59b0_38 ?_
    refine g_null C dJx4a65c_fastRemove_b59b0_41 ?_
    refine g_aastN (k := 5) (i := i) C 2 (Or.inl rfl) (by exact rfl) (by exact l5) (by decide) rfl (by exact vp_in_nI (show n1 < rN σ 5 i by omega) (show rN σ 5 i < 2 ^ 31 by omega)) dJx4a65c_fastRemove_b59b0_42 ?_
    rw [nI_clamp (by omega)]
    have hjn : j = n1 := by rw [nI_leI (by omega) (by omega)] at c19; omega
    subst hjn
    exact g_vret C hr hz ⟨rfl, rfl, fun _ => rfl, fun _ => rfl⟩ (by show (sQ (sM (sM σ 4 i 0 (rM σ 4 i 0 + 1)) 4 i 2 (nI j)) 5 i (up1 (rP σ 5 i) j 0), ([] : va_W)) = _; rw [rm_0]; rfl) (fun j x h => by simp at h) dJx4a65c_fastRemove_b59b0_43
  · skip
    refine g_aload_n C dJx4a65c_fastRemove_b59b0_22 rfl 2 rfl ?_
    refine g_iload_n C dJx4a65c_fastRemove_b59b0_23 rfl 3 rfl ?_
    refine g_iconst (v := 1) C dJx4a65c_fastRemove_b59b0_24 (by decide) ?_
    refine g_iadd C dJx4a65c_fastRemove_b59b0_25 ?_
    rw [nI_1]
    refine g_aload_n C dJx4a65c_fastRemove_b59b0_26 rfl 2 rfl ?_
    refine g_iload_n C dJx4a65c_fastRemove_b59b0_27 rfl 3 rfl ?_
    refine g_iload_n C dJx4a65c_fastRemove_b59b0_28 rfl 0 rfl ?_
    refine g_iload_n C dJx4a65c_fastRemove_b59b0_29 rfl 3 rfl ?_
    refine g_isub C dJx4a65c_fastRemove_b59b0_30 ?_
    have hjn : j < n1 := Nat.lt_of_not_le (fun q => c19 (nI_le q (by omega)))
    rw [show nI n1 - nI j = nI (n1 - j) by rw [show nI n1 = nI (n1 - j) + nI j by rw [nI_add, Nat.sub_add_cancel (by omega)], Int32.add_sub_cancel]]
    refine g_copyqS (i := i) C hEv gw_616 gw_331 gw_330 gw_20 (by exact rfl) (by exact l5) (nI_pos (by omega)) (nI_pos (by omega)) (nI_pos (by omega)) (by rw [nI_clamp (by omega), nI_clamp (by omega)]; show _ ≤ rN σ 5 i; omega) (by rw [nI_clamp (by omega), nI_clamp (by omega)]; show _ ≤ rN σ 5 i; omega) (by rw [nI_clamp (by omega), nI_clamp (by omega)]; intro x hx; exact hel (j + 1 + x) (by omega)) (Nat.le_of_ble_eq_true rfl) (Nat.le_of_ble_eq_true rfl) dJx4a65c_fastRemove_b59b0_31 ?_
    rw [nI_clamp (by omega), nI_clamp (by omega), nI_clamp (by omega)]
    refine g_aload_n C dJx4a65c_fastRemove_b59b0_34 rfl 2 rfl ?_
    refine g_aload_n C dJx4a65c_fastRemove_b59b0_35 rfl 1 rfl ?_
    refine g_iload_n C dJx4a65c_fastRemove_b59b0_36 rfl 0 rfl ?_
    refine g_dup_x1 C dJx4a65c_fastRemove_b59b0_37 rfl rfl ?_
    refine g_put (k := 4) (i := i) (ref := "java/util/ArrayList") C (by exact rfl) (by exact l4) rfl rfl inGJx4a65c tyJx4a65c tyJx4a65c_ok nmJx4a65c 2 (by decide) gw_61 (fun _ h => h) rfl (tyJx4a65c_ok 2 (by decide)) rfl rfl (by simp [fvs]) (by simp [fvs, up1]) dJx4a65c_fastRemove_b59b0_38 ?_
    refine g_null C dJx4a65c_fastRemove_b59b0_41 ?_
    refine g_aastN (k := 5) (i := i) C 2 (Or.inl rfl) (by exact rfl) (by exact l5) (by decide) rfl (by exact vp_in_nI (show n1 < rN σ 5 i by omega) (show rN σ 5 i < 2 ^ 31 by omega)) dJx4a65c_fastRemove_b59b0_42 ?_
    rw [nI_clamp (by omega)]
    exact g_vret C hr hz ⟨rfl, rfl, fun _ => rfl, fun _ => rfl⟩ (by show (sP (sQ (sM (sM σ 4 i 0 (rM σ 4 i 0 + 1)) 4 i 2 (nI n1)) 5 i (va_cpy (rP σ 5 i) (rP σ 5 i) (j + 1) j (n1 - j))) 5 i n1 0, ([] : va_W)) = _; rw [sP_sQ, rm_1 _ hjn]; rfl) (fun j x h => by simp at h) dJx4a65c_fastRemove_b59b0_43
set_option maxHeartbeats 4000000 in
set_option maxRecDepth 100000 in
theorem k_Jx4a65c_remove_915e3 (l : Launch) (B : Nat × (Nat → Nat)) (σ : RS) (i j n1 : Nat) (l4 : live σ 4 i) (l5 : live σ 5 i) (hs2 : rM σ 4 i 2 = nI (n1 + 1)) (hj : j ≤ n1) (hn : n1 < rN σ 5 i) (hN : rN σ 5 i ≤ 2097152) (hel : ∀ j : Nat, j < rN σ 5 i → rP σ 5 i j ≠ 0 → live σ (eK 5 i) (rP σ 5 i j - 1)) (v : Nat) (hv : rP σ 5 i j = v + 1) : ∀ D E sz, Met l yJx4a65c_remove_915e3 gwJx4a65c_remove_915e3 ({ frames := 2, cells := 0, slots := 0, locals := 80 } : Room) (cPe D E sz B σ [] [] [.ref (rA σ 4 i), .int (nI j)]) (cQ D E sz σ [] (pQ (fun r u => r = .ref (rA σ (eK 5 i) v) ∧ u = (rmS σ i j n1, [])))) (0) (0) (Aof σ [] sz) := by
  intro D E sz
  refine g_ofe (cc := cJx4a65c_remove_915e3) (maxL := 4) (ret := (some (.object "java/lang/Object"))) (own := "java/util/ArrayList") (by decide) rfl rfl (Nat.le_of_ble_eq_true rfl) ?_
  intro p e s m args below meth c C hr hin hz ha hwr hEv
  refine g_iload_n C dJx4a65c_remove_915e3_0 rfl 1 rfl ?_
  refine g_aload_n C dJx4a65c_remove_915e3_1 rfl 0 rfl ?_
  refine g_get (k := 4) (i := i) (ref := "java/util/ArrayList") C (by exact rfl) (by exact l4) rfl rfl inGJx4a65c 2 (by decide) gw_61 (fun _ h => h) rfl dJx4a65c_remove_915e3_2 ?_
  rw [hs2]
  refine g_cSi (n := 2) (exc := []) (exr := []) C [_, _] _ rfl rfl [] [] rfl rfl rfl rfl (fun _ h => absurd h (by simp)) (fun _ h => absurd h (by simp)) (fun _ h => absurd h (by simp)) (fun sz => k_J15_checkIndex_7cf53 l σ j (n1 + 1) (by omega) (by omega) D E sz) rfl gw_546 gw_13 gw_544 gw_545 ⟨by decide +kernel, by decide +kernel, by decide +kernel⟩ ⟨rfl, rfl⟩ ⟨Nat.le_of_ble_eq_true rfl, Nat.le_of_ble_eq_true rfl⟩ (Nat.le_of_ble_eq_true rfl) dJx4a65c_remove_915e3_5 ⟨by decide, by decide⟩ (fun r u hp hx => ?_)
  obtain ⟨rfl, rfl⟩ := hp
  refine g_pop C dJx4a65c_remove_915e3_8 rfl ?_
  refine g_aload_n C dJx4a65c_remove_915e3_9 rfl 0 rfl ?_
  refine g_get (k := 4) (i := i) (ref := "java/util/ArrayList") C (by exact rfl) (by exact l4) rfl rfl inGJx4a65c 1 (by decide) gw_60 (fun _ h => h) rfl dJx4a65c_remove_915e3_10 ?_
  refine g_topr (fun qq1 eqq1 => ?_)
  have fqq1 : rA σ 5 i = qq1 := (if_neg (l5.2 rfl)).symm.trans eqq1
  refine g_astore_n (lv' := [(2, .ref qq1), (0, .ref (rA σ 4 i)), (1, .int (nI j))]) C dJx4a65c_remove_915e3_13 rfl (by decide) rfl ?_
  refine g_aload_n C dJx4a65c_remove_915e3_14 rfl 0 rfl ?_
  refine g_iload_n C dJx4a65c_remove_915e3_15 rfl 2 rfl ?_
  refine g_aald (k := 5) (i := i) (v := v) C 2 (Or.inl rfl) (by exact fqq1) (by exact l5) rfl (by exact vp_in_nI (show j < rN σ 5 i by omega) (show rN σ 5 i < 2 ^ 31 by omega)) (by rw [nI_clamp (by omega)]; exact hv) dJx4a65c_remove_915e3_16 ?_
  refine g_astore_n (lv' := [(3, .ref (rA σ (eK 5 i) v)), (2, .ref qq1), (0, .ref (rA σ 4 i)), (1, .int (nI j))]) C dJx4a65c_remove_915e3_17 rfl (by decide) rfl ?_
  refine g_aload_n C dJx4a65c_remove_915e3_18 rfl 2 rfl ?_
  refine g_aload_n C dJx4a65c_remove_915e3_19 rfl 1 rfl ?_
  refine g_iload_n C dJx4a65c_remove_915e3_20 rfl 3 rfl ?_
  refine g_cVve (n := 2) (exc := []) (exr := []) C hEv ⟨rfl, rfl⟩ [_, _] _ rfl rfl [] [] rfl rfl rfl rfl (fun _ h => absurd h (by simp)) (fun _ h => absurd h (by simp)) (fun _ h => absurd h (by simp)) (fun sz => fqq1 ▸ k_Jx4a65c_fastRemove_b59b0 l B σ i j n1 l4 l5 hs2 hj hn hN hel D E sz) rfl gw_615 gw_5 gw_612 gw_614 gs_20 ⟨by decide +kernel, by decide +kernel, by decide +kernel⟩ ⟨rfl, rfl⟩ ⟨Nat.le_of_ble_eq_true rfl, Nat.le_of_ble_eq_true rfl⟩ (rcvT (by exact l4) rfl rfl rfl) (Nat.le_of_ble_eq_true rfl) dJx4a65c_remove_915e3_21 ⟨by decide, by decide⟩ (fun u hp hx => ?_)
  obtain rfl := hp
  try dsimp only [List.append_nil]
  refine g_aload_n C dJx4a65c_remove_915e3_24 rfl 0 rfl ?_
  exact g_aret C hr (Or.inl ⟨_, rfl⟩) (Or.inr ⟨_, rfl⟩) hz ⟨rfl, rfl, fun _ => rfl, fun _ => rfl⟩ (⟨rfl, rfl⟩) (fun j x h => by simp at h) dJx4a65c_remove_915e3_25
set_option maxHeartbeats 4000000 in
set_option maxRecDepth 100000 in
theorem k_Jx4a65c_rangeCheckForAdd_d00df (l : Launch) (σ : RS) (i j n : Nat) (l4 : live σ 4 i) (hs2 : rM σ 4 i 2 = nI n) (hj : j ≤ n) (hn : n ≤ 2097152) : ∀ D E sz, Met l yJx4a65c_rangeCheckForAdd_d00df gwJx4a65c_rangeCheckForAdd_d00df ({ frames := 0, cells := 0, slots := 0, locals := 0 } : Room) (cP D E sz σ [] [.ref (rA σ 4 i), .int (nI j)]) (cQ D E sz σ [] (pV (fun u => u = (σ, [])))) (0) (0) (Aof σ [] sz) := by
  intro D E sz
  refine g_of (cc := cJx4a65c_rangeCheckForAdd_d00df) (maxL := 2) (ret := none) (own := "java/util/ArrayList") (by decide) rfl rfl (Nat.le_of_ble_eq_true rfl) ?_
  intro p e s m args below meth c C hr hin hz ha hwr
  refine g_iload_n C dJx4a65c_rangeCheckForAdd_d00df_0 rfl 1 rfl ?_
  refine g_aload_n C dJx4a65c_rangeCheckForAdd_d00df_1 rfl 0 rfl ?_
  refine g_get (k := 4) (i := i) (ref := "java/util/ArrayList") C (by exact rfl) (by exact l4) rfl rfl inGJx4a65c 2 (by decide) gw_61 (fun _ h => h) rfl dJx4a65c_rangeCheckForAdd_d00df_2 ?_
  rw [hs2]
  refine g_icmp_gt (tgt := 12) C dJx4a65c_rangeCheckForAdd_d00df_5 (by decide) (fun c5 => ?_) (fun c5 => ?_)
  · exact absurd c5 (Int32.not_lt.mpr (nI_le hj (by omega)))
  · skip
    refine g_iload_n C dJx4a65c_rangeCheckForAdd_d00df_8 rfl 1 rfl ?_
    refine g_if_ge (tgt := 25) C dJx4a65c_rangeCheckForAdd_d00df_9 (by decide) (fun c9 => ?_) (fun c9 => ?_)
    · skip
      exact g_vret C hr hz (stq_rfl _) (rfl) (fun j x h => by simp at h) dJx4a65c_rangeCheckForAdd_d00df_25
    · exact absurd c9 (fun q => q (nI_pos' (by omega)))
