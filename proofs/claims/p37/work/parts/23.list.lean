set_option maxHeartbeats 4000000 in
set_option maxRecDepth 100000 in
theorem k_J3_checkIndex_8e157 (l : Launch) (σ : RS) (j n : Nat) (hj : j < n) (hn : n < 2 ^ 31) : ∀ D E sz, Met l yJ3_checkIndex_8e157 gwJ3_checkIndex_8e157 ({ frames := 0, cells := 0, slots := 0, locals := 0 } : Room) (cP D E sz σ [] [.int (nI j), .int (nI n), .null]) (cQ D E sz σ [] (pI (fun r u => r = nI j ∧ u = (σ, [])))) (0) (0) (Aof σ [] sz) := by
  intro D E sz
  refine g_of (cc := cJ3_checkIndex_8e157) (maxL := 3) (ret := (some .int)) (own := "jdk/internal/util/Preconditions") (by decide) rfl rfl (Nat.le_of_ble_eq_true rfl) ?_
  intro p e s m args below meth c C hr hin hz ha hwr
  refine g_iload_n C dJ3_checkIndex_8e157_0 rfl 0 rfl ?_
  refine g_if_lt (tgt := 9) C dJ3_checkIndex_8e157_1 (by decide) (fun c1 => ?_) (fun c1 => ?_)
  · exact absurd c1 (nI_pos (by omega))
  · skip
    refine g_iload_n C dJ3_checkIndex_8e157_4 rfl 0 rfl ?_
    refine g_iload_n C dJ3_checkIndex_8e157_5 rfl 1 rfl ?_
    refine g_icmp_lt (tgt := 16) C dJ3_checkIndex_8e157_6 (by decide) (fun c6 => ?_) (fun c6 => ?_)
    · skip
      refine g_iload_n C dJ3_checkIndex_8e157_16 rfl 0 rfl ?_
      exact g_iret C hr rfl hz (stq_rfl _) (⟨rfl, rfl⟩) (fun j x h => by simp at h) dJ3_checkIndex_8e157_17
    · exact absurd c6 (fun q => q (nI_lt hj hn))
set_option maxHeartbeats 4000000 in
set_option maxRecDepth 100000 in
theorem k_J15_checkIndex_7cf53 (l : Launch) (σ : RS) (j n : Nat) (hj : j < n) (hn : n < 2 ^ 31) : ∀ D E sz, Met l yJ15_checkIndex_7cf53 gwJ15_checkIndex_7cf53 ({ frames := 1, cells := 0, slots := 0, locals := 30 } : Room) (cP D E sz σ [] [.int (nI j), .int (nI n)]) (cQ D E sz σ [] (pI (fun r u => r = nI j ∧ u = (σ, [])))) (0) (0) (Aof σ [] sz) := by
  intro D E sz
  refine g_of (cc := cJ15_checkIndex_7cf53) (maxL := 2) (ret := (some .int)) (own := "java/util/Objects") (by decide) rfl rfl (Nat.le_of_ble_eq_true rfl) ?_
  intro p e s m args below meth c C hr hin hz ha hwr
  refine g_iload_n C dJ15_checkIndex_7cf53_0 rfl 0 rfl ?_
  refine g_iload_n C dJ15_checkIndex_7cf53_1 rfl 1 rfl ?_
  refine g_null C dJ15_checkIndex_7cf53_2 ?_
  refine g_cSi (n := 3) (exc := []) (exr := []) C [_, _, _] _ rfl rfl [] [] rfl rfl rfl rfl (fun _ h => absurd h (by simp)) (fun _ h => absurd h (by simp)) (fun _ h => absurd h (by simp)) (fun sz => k_J3_checkIndex_8e157 l σ j n hj hn D E sz) rfl gw_549 gw_14 gw_547 gw_548 ⟨by decide +kernel, by decide +kernel, by decide +kernel⟩ ⟨rfl, rfl⟩ ⟨Nat.le_of_ble_eq_true rfl, Nat.le_of_ble_eq_true rfl⟩ (Nat.le_of_ble_eq_true rfl) dJ15_checkIndex_7cf53_3 ⟨by decide, by decide⟩ (fun r u hp hx => ?_)
  obtain ⟨rfl, rfl⟩ := hp
  exact g_iret C hr rfl hz (stq_rfl _) (⟨rfl, rfl⟩) (fun j x h => by simp at h) dJ15_checkIndex_7cf53_6
set_option maxHeartbeats 4000000 in
set_option maxRecDepth 100000 in
theorem k_Jx4a65c_size_8abf5 (l : Launch) (σ : RS) (i : Nat) (l4 : live σ 4 i) : ∀ D E sz, Met l yJx4a65c_size_8abf5 gwJx4a65c_size_8abf5 ({ frames := 0, cells := 0, slots := 0, locals := 0 } : Room) (cP D E sz σ [] [.ref (rA σ 4 i)]) (cQ D E sz σ [] (pI (fun r u => r = rM σ 4 i 2 ∧ u = (σ, [])))) (0) (0) (Aof σ [] sz) := by
  intro D E sz
  refine g_of (cc := cJx4a65c_size_8abf5) (maxL := 1) (ret := (some .int)) (own := "java/util/ArrayList") (by decide) rfl rfl (Nat.le_of_ble_eq_true rfl) ?_
  intro p e s m args below meth c C hr hin hz ha hwr
  refine g_aload_n C dJx4a65c_size_8abf5_0 rfl 0 rfl ?_
  refine g_get (k := 4) (i := i) (ref := "java/util/ArrayList") C (by exact rfl) (by exact l4) rfl rfl inGJx4a65c 2 (by decide) gw_61 (fun _ h => h) rfl dJx4a65c_size_8abf5_1 ?_
  exact g_iret C hr rfl hz (stq_rfl _) (⟨rfl, rfl⟩) (fun j x h => by simp at h) dJx4a65c_size_8abf5_4
set_option maxHeartbeats 4000000 in
set_option maxRecDepth 100000 in
theorem k_Jx4a65c_elementData_915e3 (l : Launch) (σ : RS) (i : Nat) (l4 : live σ 4 i) (j v : Nat) (hne : rN σ 5 i ≠ 0) (l5 : live σ 5 i) (hj : j < rN σ 5 i) (hN : rN σ 5 i < 2 ^ 30) (hv : rP σ 5 i j = v + 1) : ∀ D E sz, Met l yJx4a65c_elementData_915e3 gwJx4a65c_elementData_915e3 ({ frames := 0, cells := 0, slots := 0, locals := 0 } : Room) (cP D E sz σ [] [.ref (rA σ 4 i), .int (nI j)]) (cQ D E sz σ [] (pQ (fun r u => r = .ref (rA σ (eK 5 i) v) ∧ u = (σ, [])))) (0) (0) (Aof σ [] sz) := by
  intro D E sz
  refine g_of (cc := cJx4a65c_elementData_915e3) (maxL := 2) (ret := (some (.object "java/lang/Object"))) (own := "java/util/ArrayList") (by decide) rfl rfl (Nat.le_of_ble_eq_true rfl) ?_
  intro p e s m args below meth c C hr hin hz ha hwr
  refine g_aload_n C dJx4a65c_elementData_915e3_0 rfl 0 rfl ?_
  refine g_get (k := 4) (i := i) (ref := "java/util/ArrayList") C (by exact rfl) (by exact l4) rfl rfl inGJx4a65c 1 (by decide) gw_60 (fun _ h => h) rfl dJx4a65c_elementData_915e3_1 ?_
  refine g_topr (fun qq1 eqq1 => ?_)
  have fqq1 : rA σ 5 i = qq1 := (if_neg hne).symm.trans eqq1
  refine g_iload_n C dJx4a65c_elementData_915e3_4 rfl 1 rfl ?_
  refine g_aald (k := 5) (i := i) (v := v) C 2 (Or.inl rfl) (by exact fqq1) (by exact l5) rfl (by exact vp_in_nI hj (by omega)) (by rw [nI_clamp (by omega)]; exact hv) dJx4a65c_elementData_915e3_5 ?_
  exact g_aret C hr (Or.inl ⟨_, rfl⟩) (Or.inr ⟨_, rfl⟩) hz (stq_rfl _) (⟨rfl, rfl⟩) (fun j x h => by simp at h) dJx4a65c_elementData_915e3_6
set_option maxHeartbeats 4000000 in
set_option maxRecDepth 100000 in
theorem k_Jx4a65c_get_915e3 (l : Launch) (σ : RS) (i : Nat) (l4 : live σ 4 i) (j v : Nat) (hne : rN σ 5 i ≠ 0) (l5 : live σ 5 i) (hj : j < rN σ 5 i) (hN : rN σ 5 i < 2 ^ 30) (hv : rP σ 5 i j = v + 1) (n : Nat) (hs2 : rM σ 4 i 2 = nI n) (hjn : j < n) (hn : n < 2 ^ 30) : ∀ D E sz, Met l yJx4a65c_get_915e3 gwJx4a65c_get_915e3 ({ frames := 2, cells := 0, slots := 0, locals := 60 } : Room) (cP D E sz σ [] [.ref (rA σ 4 i), .int (nI j)]) (cQ D E sz σ [] (pQ (fun r u => r = .ref (rA σ (eK 5 i) v) ∧ u = (σ, [])))) (0) (0) (Aof σ [] sz) := by
  intro D E sz
  refine g_of (cc := cJx4a65c_get_915e3) (maxL := 2) (ret := (some (.object "java/lang/Object"))) (own := "java/util/ArrayList") (by decide) rfl rfl (Nat.le_of_ble_eq_true rfl) ?_
  intro p e s m args below meth c C hr hin hz ha hwr
  refine g_iload_n C dJx4a65c_get_915e3_0 rfl 1 rfl ?_
  refine g_aload_n C dJx4a65c_get_915e3_1 rfl 0 rfl ?_
  refine g_get (k := 4) (i := i) (ref := "java/util/ArrayList") C (by exact rfl) (by exact l4) rfl rfl inGJx4a65c 2 (by decide) gw_61 (fun _ h => h) rfl dJx4a65c_get_915e3_2 ?_
  rw [hs2]
  refine g_cSi (n := 2) (exc := []) (exr := []) C [_, _] _ rfl rfl [] [] rfl rfl rfl rfl (fun _ h => absurd h (by simp)) (fun _ h => absurd h (by simp)) (fun _ h => absurd h (by simp)) (fun sz => k_J15_checkIndex_7cf53 l σ j n hjn (by omega) D E sz) rfl gw_546 gw_13 gw_544 gw_545 ⟨by decide +kernel, by decide +kernel, by decide +kernel⟩ ⟨rfl, rfl⟩ ⟨Nat.le_of_ble_eq_true rfl, Nat.le_of_ble_eq_true rfl⟩ (Nat.le_of_ble_eq_true rfl) dJx4a65c_get_915e3_5 ⟨by decide, by decide⟩ (fun r u hp hx => ?_)
  obtain ⟨rfl, rfl⟩ := hp
  refine g_pop C dJx4a65c_get_915e3_8 rfl ?_
  refine g_aload_n C dJx4a65c_get_915e3_9 rfl 0 rfl ?_
  refine g_iload_n C dJx4a65c_get_915e3_10 rfl 1 rfl ?_
  refine g_cVq (n := 1) (exc := []) (exr := []) C [_] _ rfl rfl [] [] rfl rfl rfl rfl (fun _ h => absurd h (by simp)) (fun _ h => absurd h (by simp)) (fun _ h => absurd h (by simp)) (fun sz => k_Jx4a65c_elementData_915e3 l σ i l4 j v hne l5 hj hN hv D E sz) rfl gw_553 gw_5 gw_550 gw_551 gw_552 ⟨by decide +kernel, by decide +kernel, by decide +kernel⟩ ⟨rfl, rfl⟩ ⟨Nat.le_of_ble_eq_true rfl, Nat.le_of_ble_eq_true rfl⟩ (rcvT (by exact l4) rfl rfl rfl) (Nat.le_of_ble_eq_true rfl) dJx4a65c_get_915e3_11 ⟨by decide, by decide⟩ (fun r u hp hx => ?_)
  obtain ⟨rfl, rfl⟩ := hp
  exact g_aret C hr (Or.inl ⟨_, rfl⟩) (Or.inr ⟨_, rfl⟩) hz (stq_rfl _) (⟨rfl, rfl⟩) (fun j x h => by simp at h) dJx4a65c_get_915e3_14
