theorem sP_sL (σ : RS) (i j w : Nat) (p : Nat → Nat) (N q : Nat) : sP (sL σ i p N q) 5 i j w = sL σ i (up1 p j w) N q := by
  show (σ.1, up2 (rN σ) 5 i N, up2 (up2 (rP σ) 5 i p) 5 i (up1 ((up2 (rP σ) 5 i p) 5 i) j w), rC σ, up2 (rA σ) 5 i q) = (σ.1, up2 (rN σ) 5 i N, up2 (rP σ) 5 i (up1 p j w), rC σ, up2 (rA σ) 5 i q)
  rw [up2_2, up2_s]
theorem sP_sL0 (σ : RS) (i j w : Nat) : sP σ 5 i j w = sL σ i (up1 (rP σ 5 i) j w) (rN σ 5 i) (rA σ 5 i) := by
  show (σ.1, rN σ, up2 (rP σ) 5 i (up1 (rP σ 5 i) j w), rC σ, rA σ) = (σ.1, up2 (rN σ) 5 i (rN σ 5 i), up2 (rP σ) 5 i (up1 (rP σ 5 i) j w), rC σ, up2 (rA σ) 5 i (rA σ 5 i))
  rw [up2_self, up2_self]
/-- list i has got one more element, at n -/
def adS (σ : RS) (i n N : Nat) (p : Nat → Nat) (q : Nat) : RS := sM (sL (sM σ 4 i 0 (rM σ 4 i 0 + 1)) i p N q) 4 i 2 (nI (n + 1))
def adP (σ : RS) (i n v N : Nat) (p : Nat → Nat) : Prop := (∀ z, z < n → p z = rP σ 5 i z) ∧ p n = v + 1 ∧ n < N ∧ (N ≤ 2 * n + 10 ∨ N = rN σ 5 i)
set_option maxHeartbeats 4000000 in
set_option maxRecDepth 100000 in
theorem k_Jx4a65c_add_9ea2d (l : Launch) (B : Nat × (Nat → Nat)) (σ : RS) (i v n : Nat) (l4 : live σ 4 i) (hle : live σ (eK 5 i) v) (h5 : i < rC σ 5) (hs2 : rM σ 4 i 2 = nI n) (hnN : n ≤ rN σ 5 i) (hN : rN σ 5 i ≤ 2097152) (l31 : live σ 31 0) (h31 : rN σ 31 0 = 0) (hel : ∀ j : Nat, j < rN σ 5 i → rP σ 5 i j ≠ 0 → live σ (eK 5 i) (rP σ 5 i j - 1)) : ∀ D E sz, Met l yJx4a65c_add_9ea2d gwJx4a65c_add_9ea2d ({ frames := 6, cells := 1, slots := 2 * n + 10, locals := 200 } : Room) (cPe D E sz B σ [] [] [.ref (rA σ 4 i), .ref (rA σ (eK 5 i) v)]) (cQ D E sz σ [] (pI (fun r u => r = 1 ∧ ∃ p N q, u = (adS σ i n N p q, []) ∧ adP σ i n v N p))) (1) (2 * n + 10) (Aof σ [] sz) := by
  intro D E sz
  refine g_ofe (cc := cJx4a65c_add_9ea2d) (maxL := 2) (ret := (some .boolean)) (own := "java/util/ArrayList") (by decide) rfl rfl (Nat.le_of_ble_eq_true rfl) ?_
  intro p e s m args below meth c C hr hin hz ha hwr hEv
  refine g_aload_n C dJx4a65c_add_9ea2d_0 rfl 0 rfl ?_
  refine g_dup C dJx4a65c_add_9ea2d_1 rfl ?_
  refine g_get (k := 4) (i := i) (ref := "java/util/ArrayList") C (by exact rfl) (by exact l4) rfl rfl inGJx4a65c 0 (by decide) gw_63 (u_same (C.2.2.2.1 _ gw_64)) rfl dJx4a65c_add_9ea2d_2 ?_
  refine g_iconst (v := 1) C dJx4a65c_add_9ea2d_5 (by decide) ?_
  refine g_iadd C dJx4a65c_add_9ea2d_6 ?_
  refine g_put (k := 4) (i := i) (ref := "java/util/ArrayList") C (by exact rfl) (by exact l4) rfl rfl inGJx4a65c tyJx4a65c tyJx4a65c_ok nmJx4a65c 0 (by decide) gw_63 (u_same (C.2.2.2.1 _ gw_64)) rfl (tyJx4a65c_ok 0 (by decide)) rfl rfl (by simp [fvs]) (by simp [fvs, up1]) dJx4a65c_add_9ea2d_7 ?_
  refine g_aload_n C dJx4a65c_add_9ea2d_10 rfl 0 rfl ?_
  refine g_aload_n C dJx4a65c_add_9ea2d_11 rfl 1 rfl ?_
  refine g_aload_n C dJx4a65c_add_9ea2d_12 rfl 0 rfl ?_
  refine g_get (k := 4) (i := i) (ref := "java/util/ArrayList") C (by exact rfl) (by exact l4) rfl rfl inGJx4a65c 1 (by decide) gw_60 (fun _ h => h) rfl dJx4a65c_add_9ea2d_13 ?_
  refine g_topr (fun qq1 eqq1 => ?_)
  refine g_aload_n C dJx4a65c_add_9ea2d_16 rfl 0 rfl ?_
  refine g_get (k := 4) (i := i) (ref := "java/util/ArrayList") C (by exact rfl) (by exact l4) rfl rfl inGJx4a65c 2 (by decide) gw_61 (fun _ h => h) rfl dJx4a65c_add_9ea2d_17 ?_
  rw [show rM (sM σ 4 i 0 (rM σ 4 i 0 + 1)) 4 i 2 = nI n by simp [rMsM, hs2]]
  by_cases hlt : n < rN σ 5 i
  · have hne : rN σ 5 i ≠ 0 := by omega
    have fq : rA (sM σ 4 i 0 (rM σ 4 i 0 + 1)) 5 i = qq1 := (if_neg hne).symm.trans eqq1
    refine g_cVve (n := 3) (exc := []) (exr := []) C hEv ⟨rfl, rfl⟩ [_, _, _] _ rfl rfl [] [] rfl rfl rfl rfl (fun _ h => absurd h (by simp)) (fun _ h => absurd h (by simp)) (fun _ h => absurd h (by simp)) (fun sz => fq ▸ k_Jx4a65c_add_72be8 l B (sM σ 4 i 0 (rM σ 4 i 0 + 1)) i v l4 hle n ⟨h5, fun _ => hne⟩ hlt hN D E sz) rfl gw_358 gw_5 gw_355 gw_357 gs_3 ⟨by decide +kernel, by decide +kernel, by decide +kernel⟩ ⟨rfl, rfl⟩ ⟨Nat.le_of_ble_eq_true rfl, Nat.le_of_ble_eq_true rfl⟩ (rcvT (by exact l4) rfl rfl rfl) (Nat.le_of_ble_eq_true rfl) dJx4a65c_add_9ea2d_20 ⟨Nat.zero_le _, Nat.zero_le _⟩ (fun u hp hx => ?_)
    obtain rfl := hp
    try dsimp only [List.append_nil]
    refine g_widen (k := 1) (n := 2 * n + 10) (by omega) (by omega) ?_
    refine g_iconst (v := 1) C dJx4a65c_add_9ea2d_23 (by decide) ?_
    exact g_iret C hr rfl hz ⟨rfl, rfl, fun _ => rfl, fun _ => rfl⟩ ⟨rfl, up1 (rP σ 5 i) n (v + 1), rN σ 5 i, rA σ 5 i, (by rw [sP_sL0]; rfl), ⟨fun z hz => up1_n _ _ (by omega), up1_s _ _ _, hlt, Or.inr rfl⟩⟩ (fun j x h => by simp at h) dJx4a65c_add_9ea2d_24
  by_cases h0 : rN σ 5 i = 0
  · have hn0 : n = 0 := by omega
    subst hn0
    have fq : rA (sM σ 4 i 0 (rM σ 4 i 0 + 1)) 31 0 = qq1 := (if_pos h0).symm.trans eqq1
    refine g_cVve (n := 3) (exc := []) (exr := []) C hEv ⟨rfl, rfl⟩ [_, _, _] _ rfl rfl [] [] rfl rfl rfl rfl (fun _ h => absurd h (by simp)) (fun _ h => absurd h (by simp)) (fun _ h => absurd h (by simp)) (fun sz => fq ▸ k_Jx4a65c_add_72be8_0 l B (sM σ 4 i 0 (rM σ 4 i 0 + 1)) i v l4 hle h5 h0 l31 h31 (by simp [rMsM, hs2]) D E sz) rfl gw_358 gw_5 gw_355 gw_357 gs_3 ⟨by decide +kernel, by decide +kernel, by decide +kernel⟩ ⟨rfl, rfl⟩ ⟨Nat.le_of_ble_eq_true rfl, Nat.le_of_ble_eq_true rfl⟩ (rcvT (by exact l4) rfl rfl rfl) (Nat.le_of_ble_eq_true rfl) dJx4a65c_add_9ea2d_20 ⟨Nat.le_refl _, (by show 0 + 10 ≤ 2 * 0 + 10; omega)⟩ (fun u hp hx => ?_)
    obtain ⟨q, rfl⟩ := hp
    try dsimp only [List.append_nil]
    refine g_widen (k := 1) (n := 2 * 0 + 10) (by omega) (by omega) ?_
    refine g_iconst (v := 1) C dJx4a65c_add_9ea2d_23 (by decide) ?_
    exact g_iret C hr rfl hz ⟨rfl, rfl, fun _ => rfl, fun _ => rfl⟩ ⟨rfl, up1 (fun _ => 0) 0 (v + 1), 10, q, (by rw [sP_sL]; rfl), ⟨fun z hz => absurd hz (by omega), up1_s _ _ _, by omega, Or.inl (by omega)⟩⟩ (fun j x h => by simp at h) dJx4a65c_add_9ea2d_24
  · have hn0 : n = rN σ 5 i := by omega
    subst hn0
    obtain ⟨k, hk⟩ : ∃ k, k = (if 1 < rN σ 5 i / 2 ^ 1 then rN σ 5 i / 2 ^ 1 else 1) := ⟨_, rfl⟩
    have hk2 : 1 ≤ k ∧ k ≤ rN σ 5 i + 10 := by
      rw [hk]
      split <;> omega
    have fq : rA (sM σ 4 i 0 (rM σ 4 i 0 + 1)) 5 i = qq1 := (if_neg h0).symm.trans eqq1
    refine g_cVve (n := 3) (exc := []) (exr := []) C hEv ⟨rfl, rfl⟩ [_, _, _] _ rfl rfl [] [] rfl rfl rfl rfl (fun _ h => absurd h (by simp)) (fun _ h => absurd h (by simp)) (fun _ h => absurd h (by simp)) (fun sz => fq ▸ k_Jx4a65c_add_72be8_g l B (sM σ 4 i 0 (rM σ 4 i 0 + 1)) i v l4 hle k ⟨h5, fun _ => h0⟩ h0 hk hN hel (by simp [rMsM, rNsM, hs2]) D E sz) rfl gw_358 gw_5 gw_355 gw_357 gs_3 ⟨by decide +kernel, by decide +kernel, by decide +kernel⟩ ⟨rfl, rfl⟩ ⟨Nat.le_of_ble_eq_true rfl, Nat.le_of_ble_eq_true rfl⟩ (rcvT (by exact l4) rfl rfl rfl) (Nat.le_of_ble_eq_true rfl) dJx4a65c_add_9ea2d_20 ⟨Nat.le_refl _, (by show 0 + (rN σ 5 i + k) ≤ 2 * rN σ 5 i + 10; omega)⟩ (fun u hp hx => ?_)
    obtain ⟨q, rfl⟩ := hp
    try dsimp only [List.append_nil]
    refine g_widen (k := 1) (n := 2 * (rN σ 5 i) + 10) (by omega) (by show 0 + (rN σ 5 i + k) ≤ 2 * rN σ 5 i + 10; omega) ?_
    refine g_iconst (v := 1) C dJx4a65c_add_9ea2d_23 (by decide) ?_
    exact g_iret C hr rfl hz ⟨rfl, rfl, fun _ => rfl, fun _ => rfl⟩ ⟨rfl, up1 (grP (sM σ 4 i 0 (rM σ 4 i 0 + 1)) i) (rN σ 5 i) (v + 1), rN σ 5 i + k, q, (by rw [sP_sL]; rfl), ⟨fun z hz => (up1_n _ _ (by omega)).trans (if_pos hz), up1_s _ _ _, by omega, Or.inl (by omega)⟩⟩ (fun j x h => by simp at h) dJx4a65c_add_9ea2d_24
