set_option maxHeartbeats 4000000 in
set_option maxRecDepth 100000 in
theorem k_J7_copyOf_6403c (l : Launch) (B : Nat × (Nat → Nat)) (σ : RS) (i N : Nat) (l5 : live σ 5 i) (hlt : rN σ 5 i < N) (hN : N ≤ 8388608) (hel : ∀ j : Nat, j < rN σ 5 i → rP σ 5 i j ≠ 0 → live σ (eK 5 i) (rP σ 5 i j - 1)) : ∀ D E sz, Met l yJ7_copyOf_6403c gwJ7_copyOf_6403c ({ frames := 1, cells := 1, slots := N, locals := 18 } : Room) (cPe D E sz B σ [] [] [.ref (rA σ 5 i), .int (nI N), .ref B.1]) (cQ D E sz σ [] (pQ (fun r u => ∃ q, r = .ref q ∧ u = (σ, [(q, .inl (E 2, N, .inr (.inr (.inr (.inr (va_cpy (oa σ 5 i) (fun _ => none) 0 0 (rN σ 5 i)))))))])))) (1) (N) (Aof σ [] sz) := by
  intro D E sz
  refine g_ofe (cc := cJ7_copyOf_6403c) (maxL := 4) (ret := (some (.array (.object "java/lang/Object")))) (own := "java/util/Arrays") (by decide) rfl rfl (Nat.le_of_ble_eq_true rfl) ?_
  intro p e s m args below meth c C hr hin hz ha hwr hEv
  refine g_aload_n C dJ7_copyOf_6403c_0 rfl 2 rfl ?_
  refine g_ldcM C hEv gw_402 dJ7_copyOf_6403c_1 ?_
  refine g_acmp_ne (tgt := 13) C dJ7_copyOf_6403c_3 (by decide) (fun h => absurd rfl h) (fun _ => ?_)
  refine g_iload_n C dJ7_copyOf_6403c_6 rfl 1 rfl ?_
  refine g_newq (N' := N) C 2 (Or.inl rfl) gw_404 hEv.2.2.2.1.1 (nI_pos (by omega)) (nI_clamp (by omega)) (by omega) (Nat.le_of_ble_eq_true rfl) (by show 0 + N ≤ N; omega) dJ7_copyOf_6403c_7 (fun q hq hqs => ?_)
  refine g_goto (tgt := 24) C dJ7_copyOf_6403c_10 (by decide) ?_
  refine g_astore_n (lv' := [(3, .ref q), (0, .ref (rA σ 5 i)), (1, .int (nI N)), (2, .ref B.1)]) C dJ7_copyOf_6403c_24 rfl (by decide) rfl ?_
  refine g_aload_n C dJ7_copyOf_6403c_25 rfl 1 rfl ?_
  refine g_iconst (v := 0) C dJ7_copyOf_6403c_26 (by decide) ?_
  refine g_aload_n C dJ7_copyOf_6403c_27 rfl 0 rfl ?_
  refine g_iconst (v := 0) C dJ7_copyOf_6403c_28 (by decide) ?_
  refine g_aload_n C dJ7_copyOf_6403c_29 rfl 1 rfl ?_
  refine g_alen (k := 5) (i := i) C (by exact rfl) (by exact l5) (by decide) rfl dJ7_copyOf_6403c_30 ?_
  refine g_iload_n C dJ7_copyOf_6403c_31 rfl 2 rfl ?_
  refine g_mmin C gw_326 gw_327 gw_19 gw_328 (Nat.le_of_ble_eq_true rfl) (Nat.le_of_ble_eq_true rfl) (Nat.le_of_ble_eq_true rfl) (by show 0 + N ≤ N; omega) dJ7_copyOf_6403c_32 ?_
  rw [if_neg (nI_nlt (by omega) (by omega))]
  refine g_copyqL (i := i) (ex' := [(q, .inl (E 2, N, .inr (.inr (.inr (.inr (va_cpy (oa σ 5 i) (fun _ => none) 0 0 (rN σ 5 i)))))))]) C hEv gw_329 gw_331 gw_330 gw_20 rfl l5 0 rfl hq (by decide) (by decide) (nI_pos (by omega)) (by rw [sb_cl0, nI_clamp (by omega)]; omega) (by rw [sb_cl0, nI_clamp (by omega)]; omega) (by rw [sb_cl0, nI_clamp (by omega)]; intro j hj; rw [Nat.zero_add]; exact hel j hj) (Nat.le_of_ble_eq_true rfl) (Nat.le_of_ble_eq_true rfl) (by rw [sb_cl0, nI_clamp (by omega)]; rfl) dJ7_copyOf_6403c_35 ?_
  refine g_widen (k := 1) (n := N) (by omega) (by omega) ?_
  refine g_aload_n C dJ7_copyOf_6403c_38 rfl 0 rfl ?_
  refine g_widen (k := 1) (n := N) (by omega) (by omega) ?_
  exact g_aret C hr (Or.inr ⟨_, rfl⟩) (Or.inr ⟨_, rfl⟩) hz (stq_rfl _) (⟨q, rfl, rfl⟩) (fun j x h => by match j, h with | 0, h => cases h; exact Or.inr hqs) dJ7_copyOf_6403c_39
set_option maxHeartbeats 4000000 in
set_option maxRecDepth 100000 in
theorem k_J7_copyOf_1904c (l : Launch) (B : Nat × (Nat → Nat)) (σ : RS) (i N : Nat) (l5 : live σ 5 i) (hlt : rN σ 5 i < N) (hN : N ≤ 8388608) (hel : ∀ j : Nat, j < rN σ 5 i → rP σ 5 i j ≠ 0 → live σ (eK 5 i) (rP σ 5 i j - 1)) : ∀ D E sz, Met l yJ7_copyOf_1904c gwJ7_copyOf_1904c ({ frames := 2, cells := 1, slots := N, locals := 60 } : Room) (cPe D E sz B σ [] [] [.ref (rA σ 5 i), .int (nI N)]) (cQ D E sz σ [] (pQ (fun r u => ∃ q, r = .ref q ∧ u = (σ, [(q, .inl (E 2, N, .inr (.inr (.inr (.inr (va_cpy (oa σ 5 i) (fun _ => none) 0 0 (rN σ 5 i)))))))])))) (1) (N) (Aof σ [] sz) := by
  intro D E sz
  refine g_ofe (cc := cJ7_copyOf_1904c) (maxL := 2) (ret := (some (.array (.object "java/lang/Object")))) (own := "java/util/Arrays") (by decide) rfl rfl (Nat.le_of_ble_eq_true rfl) ?_
  intro p e s m args below meth c C hr hin hz ha hwr hEv
  refine g_aload_n C dJ7_copyOf_1904c_0 rfl 0 rfl ?_
  refine g_iload_n C dJ7_copyOf_1904c_1 rfl 1 rfl ?_
  refine g_aload_n C dJ7_copyOf_1904c_2 rfl 0 rfl ?_
  refine g_getCl (i := i) C hEv rfl l5 rfl gw_380 gw_1433 gw_381 gw_398 (Nat.le_of_ble_eq_true rfl) (Nat.le_of_ble_eq_true rfl) dJ7_copyOf_1904c_3 ?_
  refine g_cSqe (n := 3) (exc := []) (exr := []) C hEv ⟨rfl, rfl⟩ [_, _, _] _ rfl rfl [] [] rfl rfl rfl rfl (fun _ h => absurd h (by simp)) (fun _ h => absurd h (by simp)) (fun _ h => absurd h (by simp)) (fun sz => k_J7_copyOf_6403c l B σ i N l5 hlt hN hel D E sz) rfl gw_401 gw_17 gw_399 gw_400 ⟨by decide +kernel, by decide +kernel, by decide +kernel⟩ ⟨rfl, rfl⟩ ⟨Nat.le_of_ble_eq_true rfl, Nat.le_of_ble_eq_true rfl⟩ (Nat.le_of_ble_eq_true rfl) dJ7_copyOf_1904c_6 ⟨Nat.le_refl _, (by show 0 + N ≤ N; omega)⟩ (fun r u hp hx => ?_)
  obtain ⟨q, rfl, rfl⟩ := hp
  have hqs := (hx 0 _ rfl).2
  refine g_widen (k := 1) (n := N) (by omega) (by omega) ?_
  refine g_widen (k := 1) (n := N) (by omega) (by omega) ?_
  exact g_aret C hr (Or.inr ⟨_, rfl⟩) (Or.inr ⟨_, rfl⟩) hz (stq_rfl _) (⟨q, rfl, rfl⟩) (fun j x h => by match j, h with | 0, h => cases h; exact hqs) dJ7_copyOf_1904c_9
