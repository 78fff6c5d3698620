set_option maxHeartbeats 4000000 in
set_option maxRecDepth 100000 in
theorem ka_a (l : Launch) (B : Nat × (Nat → Nat)) (σ : RS) (i v : Nat) (n : Nat) (l4 : live σ 4 i) (hle : live σ (eK 5 i) v) (h5 : i < rC σ 5) (hs2 : rM σ 4 i 2 = nI n) (hN : rN σ 5 i ≤ 2097152) (l31 : live σ 31 0) (h31 : rN σ 31 0 = 0) (hel : ∀ j : Nat, j < rN σ 5 i → rP σ 5 i j ≠ 0 → live σ (eK 5 i) (rP σ 5 i j - 1)) (hlt : n < rN σ 5 i) : ∀ D E sz, Met l yJx4a65c_add_9ea2d gwJx4a65c_add_9ea2d ({ frames := 6, cells := 0, slots := 0, locals := 200 } : Room) (cPe D E sz B σ [] [] [.ref (rA σ 4 i), .ref (rA σ (eK 5 i) v)]) (cQ D E sz σ [] (pI (fun r u => r = 1 ∧ u = (adS σ i n (rN σ 5 i) (up1 (rP σ 5 i) n (v + 1)) (rA σ 5 i), [])))) (0) (0) (Aof σ [] sz) := by
  intro D E sz
  refine g_ofe (cc := cJx4a65c_add_9ea2d) (maxL := 2) (ret := (some .boolean)) (own := "java/util/ArrayList") (by decide) rfl rfl (Nat.le_of_ble_eq_true rfl) ?_
  intro p e s m args below meth c C hr hin hz ha hwr hEv
  refine g_aload_n C dJx4a65c_add_9ea2d_0 rfl 0 rfl ?_
  refine g_dup C dJx4a65c_add_9ea2d_1 rfl ?_
  refine g_get (k := 4) (i := i) (ref := "java/util/ArrayList") C (by exact rfl) (by exact l4) rfl rfl inGJx4a65c 0 (by decide) gw_63 (u_same (C.2.2.2.1 _ gw_64)) rfl dJx4a65c_add_9ea2d_2 ?_
  refine g_iconst (v := 1) C dJx4a65c_add_9ea2d_5 (by decide) ?_
  refine g_iadd C dJx4a65c_add_9ea2d_6 ?_
  refine g_put (k := 4) (i := i) (ref := "java/util/ArrayList") C (by exact rfl) (by exact l4) rfl rfl inGJx4a65c tyJx4a65c tyJx4a65c_ok nmJx4a65c 0 (by decide) gw_63 (u_same (C.2.2.2.1 _ gw_64)) rfl (tyJx4a65c_ok 0 (by decide)) rfl rfl (by simp [fvs]) (by simp [fvs, up1]) dJx4a65c_add_9ea2d_7 ?_
  refine g_aload_n C dJx4a65c_add_9ea2d_10 rfl 0 rfl ?_
  refine g_aload_n C dJx4a65c_add_9ea2d_11 rfl 1 rfl ?_
  refine g_aload_n C dJx4a65c_add_9ea2d_12 rfl 0 rfl ?_
  refine g_get (k := 4) (i := i) (ref := "java/util/ArrayList") C (by exact rfl) (by exact l4) rfl rfl inGJx4a65c 1 (by decide) gw_60 (fun _ h => h) rfl dJx4a65c_add_9ea2d_13 ?_
  refine g_topr (fun qq1 eqq1 => ?_)
  refine g_aload_n C dJx4a65c_add_9ea2d_16 rfl 0 rfl ?_
  refine g_get (k := 4) (i := i) (ref := "java/util/ArrayList") C (by exact rfl) (by exact l4) rfl rfl inGJx4a65c 2 (by decide) gw_61 (fun _ h => h) rfl dJx4a65c_add_9ea2d_17 ?_
  rw [show rM (sM σ 4 i 0 (rM σ 4 i 0 + 1)) 4 i 2 = nI n by simp [rMsM, hs2]]
  have hne : rN σ 5 i ≠ 0 := by omega
  have fq : rA (sM σ 4 i 0 (rM σ 4 i 0 + 1)) 5 i = qq1 := (if_neg hne).symm.trans eqq1
  refine g_cVve (n := 3) (exc := []) (exr := []) C hEv ⟨rfl, rfl⟩ [_, _, _] _ rfl rfl [] [] rfl rfl rfl rfl (fun _ h => absurd h (by simp)) (fun _ h => absurd h (by simp)) (fun _ h => absurd h (by simp)) (fun sz => fq ▸ k_Jx4a65c_add_72be8 l B (sM σ 4 i 0 (rM σ 4 i 0 + 1)) i v l4 hle n ⟨h5, fun _ => hne⟩ hlt hN D E sz) rfl gw_358 gw_5 gw_355 gw_357 gs_3 ⟨by decide +kernel, by decide +kernel, by decide +kernel⟩ ⟨rfl, rfl⟩ ⟨Nat.le_of_ble_eq_true rfl, Nat.le_of_ble_eq_true rfl⟩ (rcvT (by exact l4) rfl rfl rfl) (Nat.le_of_ble_eq_true rfl) dJx4a65c_add_9ea2d_20 ⟨by show 0 + 0 ≤ 0; omega, by show 0 + 0 ≤ 0; omega⟩ (fun u hp hx => ?_)
  obtain rfl := hp
  try dsimp only [List.append_nil]
  refine g_widen (k := 0) (n := 0) (by show 0 + 0 ≤ 0; omega) (by show 0 + 0 ≤ 0; omega) ?_
  refine g_iconst (v := 1) C dJx4a65c_add_9ea2d_23 (by decide) ?_
  exact g_iret C hr rfl hz ⟨rfl, rfl, fun _ => rfl, fun _ => rfl⟩ ⟨rfl, by rw [sP_sL0]; rfl⟩ (fun j x h => by simp at h) dJx4a65c_add_9ea2d_24
set_option maxHeartbeats 4000000 in
set_option maxRecDepth 100000 in
theorem ka_b (l : Launch) (B : Nat × (Nat → Nat)) (σ : RS) (i v : Nat) (l4 : live σ 4 i) (hle : live σ (eK 5 i) v) (h5 : i < rC σ 5) (hs2 : rM σ 4 i 2 = nI 0) (hN : rN σ 5 i ≤ 2097152) (l31 : live σ 31 0) (h31 : rN σ 31 0 = 0) (hel : ∀ j : Nat, j < rN σ 5 i → rP σ 5 i j ≠ 0 → live σ (eK 5 i) (rP σ 5 i j - 1)) (h0 : rN σ 5 i = 0) : ∀ D E sz, Met l yJx4a65c_add_9ea2d gwJx4a65c_add_9ea2d ({ frames := 6, cells := 1, slots := 10, locals := 200 } : Room) (cPe D E sz B σ [] [] [.ref (rA σ 4 i), .ref (rA σ (eK 5 i) v)]) (cQ D E sz σ [] (pI (fun r u => r = 1 ∧ ∃ q, u = (adS σ i 0 10 (up1 (fun _ => 0) 0 (v + 1)) q, [])))) (1) (10) (Aof σ [] sz) := by
  intro D E sz
  refine g_ofe (cc := cJx4a65c_add_9ea2d) (maxL := 2) (ret := (some .boolean)) (own := "java/util/ArrayList") (by decide) rfl rfl (Nat.le_of_ble_eq_true rfl) ?_
  intro p e s m args below meth c C hr hin hz ha hwr hEv
  refine g_aload_n C dJx4a65c_add_9ea2d_0 rfl 0 rfl ?_
  refine g_dup C dJx4a65c_add_9ea2d_1 rfl ?_
  refine g_get (k := 4) (i := i) (ref := "java/util/ArrayList") C (by exact rfl) (by exact l4) rfl rfl inGJx4a65c 0 (by decide) gw_63 (u_same (C.2.2.2.1 _ gw_64)) rfl dJx4a65c_add_9ea2d_2 ?_
  refine g_iconst (v := 1) C dJx4a65c_add_9ea2d_5 (by decide) ?_
  refine g_iadd C dJx4a65c_add_9ea2d_6 ?_
  refine g_put (k := 4) (i := i) (ref := "java/util/ArrayList") C (by exact rfl) (by exact l4) rfl rfl inGJx4a65c tyJx4a65c tyJx4a65c_ok nmJx4a65c 0 (by decide) gw_63 (u_same (C.2.2.2.1 _ gw_64)) rfl (tyJx4a65c_ok 0 (by decide)) rfl rfl (by simp [fvs]) (by simp [fvs, up1]) dJx4a65c_add_9ea2d_7 ?_
  refine g_aload_n C dJx4a65c_add_9ea2d_10 rfl 0 rfl ?_
  refine g_aload_n C dJx4a65c_add_9ea2d_11 rfl 1 rfl ?_
  refine g_aload_n C dJx4a65c_add_9ea2d_12 rfl 0 rfl ?_
  refine g_get (k := 4) (i := i) (ref := "java/util/ArrayList") C (by exact rfl) (by exact l4) rfl rfl inGJx4a65c 1 (by decide) gw_60 (fun _ h => h) rfl dJx4a65c_add_9ea2d_13 ?_
  refine g_topr (fun qq1 eqq1 => ?_)
  refine g_aload_n C dJx4a65c_add_9ea2d_16 rfl 0 rfl ?_
  refine g_get (k := 4) (i := i) (ref := "java/util/ArrayList") C (by exact rfl) (by exact l4) rfl rfl inGJx4a65c 2 (by decide) gw_61 (fun _ h => h) rfl dJx4a65c_add_9ea2d_17 ?_
  rw [show rM (sM σ 4 i 0 (rM σ 4 i 0 + 1)) 4 i 2 = nI 0 by simp [rMsM, hs2]]
  have fq : rA (sM σ 4 i 0 (rM σ 4 i 0 + 1)) 31 0 = qq1 := (if_pos h0).symm.trans eqq1
  refine g_cVve (n := 3) (exc := []) (exr := []) C hEv ⟨rfl, rfl⟩ [_, _, _] _ rfl rfl [] [] rfl rfl rfl rfl (fun _ h => absurd h (by simp)) (fun _ h => absurd h (by simp)) (fun _ h => absurd h (by simp)) (fun sz => fq ▸ k_Jx4a65c_add_72be8_0 l B (sM σ 4 i 0 (rM σ 4 i 0 + 1)) i v l4 hle h5 h0 l31 h31 (by simp [rMsM, hs2]) D E sz) rfl gw_358 gw_5 gw_355 gw_357 gs_3 ⟨by decide +kernel, by decide +kernel, by decide +kernel⟩ ⟨rfl, rfl⟩ ⟨Nat.le_of_ble_eq_true rfl, Nat.le_of_ble_eq_true rfl⟩ (rcvT (by exact l4) rfl rfl rfl) (Nat.le_of_ble_eq_true rfl) dJx4a65c_add_9ea2d_20 ⟨by show 0 + 1 ≤ 1; omega, by show 0 + 10 ≤ 10; omega⟩ (fun u hp hx => ?_)
  obtain ⟨q, rfl⟩ := hp
  try dsimp only [List.append_nil]
  refine g_widen (k := 1) (n := 10) (by show 0 + 1 ≤ 1; omega) (by show 0 + 10 ≤ 10; omega) ?_
  refine g_iconst (v := 1) C dJx4a65c_add_9ea2d_23 (by decide) ?_
  exact g_iret C hr rfl hz ⟨rfl, rfl, fun _ => rfl, fun _ => rfl⟩ ⟨rfl, ⟨q, by rw [sP_sL]; rfl⟩⟩ (fun j x h => by simp at h) dJx4a65c_add_9ea2d_24
set_option maxHeartbeats 4000000 in
set_option maxRecDepth 100000 in
theorem ka_c (l : Launch) (B : Nat × (Nat → Nat)) (σ : RS) (i v : Nat) (l4 : live σ 4 i) (hle : live σ (eK 5 i) v) (h5 : i < rC σ 5) (hs2 : rM σ 4 i 2 = nI (rN σ 5 i)) (hN : rN σ 5 i ≤ 2097152) (l31 : live σ 31 0) (h31 : rN σ 31 0 = 0) (hel : ∀ j : Nat, j < rN σ 5 i → rP σ 5 i j ≠ 0 → live σ (eK 5 i) (rP σ 5 i j - 1)) (h0 : rN σ 5 i ≠ 0) (k : Nat) (hk : k = (if 1 < rN σ 5 i / 2 ^ 1 then rN σ 5 i / 2 ^ 1 else 1)) : ∀ D E sz, Met l yJx4a65c_add_9ea2d gwJx4a65c_add_9ea2d ({ frames := 6, cells := 1, slots := (rN σ 5 i + k), locals := 200 } : Room) (cPe D E sz B σ [] [] [.ref (rA σ 4 i), .ref (rA σ (eK 5 i) v)]) (cQ D E sz σ [] (pI (fun r u => r = 1 ∧ ∃ q, u = (adS σ i (rN σ 5 i) (rN σ 5 i + k) (up1 (grP σ i) (rN σ 5 i) (v + 1)) q, [])))) (1) ((rN σ 5 i + k)) (Aof σ [] sz) := by
  intro D E sz
  refine g_ofe (cc := cJx4a65c_add_9ea2d) (maxL := 2) (ret := (some .boolean)) (own := "java/util/ArrayList") (by decide) rfl rfl (Nat.le_of_ble_eq_true rfl) ?_
  intro p e s m args below meth c C hr hin hz ha hwr hEv
  refine g_aload_n C dJx4a65c_add_9ea2d_0 rfl 0 rfl ?_
  refine g_dup C dJx4a65c_add_9ea2d_1 rfl ?_
  refine g_get (k := 4) (i := i) (ref := "java/util/ArrayList") C (by exact rfl) (by exact l4) rfl rfl inGJx4a65c 0 (by decide) gw_63 (u_same (C.2.2.2.1 _ gw_64)) rfl dJx4a65c_add_9ea2d_2 ?_
  refine g_iconst (v := 1) C dJx4a65c_add_9ea2d_5 (by decide) ?_
  refine g_iadd C dJx4a65c_add_9ea2d_6 ?_
  refine g_put (k := 4) (i := i) (ref := "java/util/ArrayList") C (by exact rfl) (by exact l4) rfl rfl inGJx4a65c tyJx4a65c tyJx4a65c_ok nmJx4a65c 0 (by decide) gw_63 (u_same (C.2.2.2.1 _ gw_64)) rfl (tyJx4a65c_ok 0 (by decide)) rfl rfl (by simp [fvs]) (by simp [fvs, up1]) dJx4a65c_add_9ea2d_7 ?_
  refine g_aload_n C dJx4a65c_add_9ea2d_10 rfl 0 rfl ?_
  refine g_aload_n C dJx4a65c_add_9ea2d_11 rfl 1 rfl ?_
  refine g_aload_n C dJx4a65c_add_9ea2d_12 rfl 0 rfl ?_
  refine g_get (k := 4) (i := i) (ref := "java/util/ArrayList") C (by exact rfl) (by exact l4) rfl rfl inGJx4a65c 1 (by decide) gw_60 (fun _ h => h) rfl dJx4a65c_add_9ea2d_13 ?_
  refine g_topr (fun qq1 eqq1 => ?_)
  refine g_aload_n C dJx4a65c_add_9ea2d_16 rfl 0 rfl ?_
  refine g_get (k := 4) (i := i) (ref := "java/util/ArrayList") C (by exact rfl) (by exact l4) rfl rfl inGJx4a65c 2 (by decide) gw_61 (fun _ h => h) rfl dJx4a65c_add_9ea2d_17 ?_
  rw [show rM (sM σ 4 i 0 (rM σ 4 i 0 + 1)) 4 i 2 = nI (rN σ 5 i) by simp [rMsM, hs2]]
  have fq : rA (sM σ 4 i 0 (rM σ 4 i 0 + 1)) 5 i = qq1 := (if_neg h0).symm.trans eqq1
  refine g_cVve (n := 3) (exc := []) (exr := []) C hEv ⟨rfl, rfl⟩ [_, _, _] _ rfl rfl [] [] rfl rfl rfl rfl (fun _ h => absurd h (by simp)) (fun _ h => absurd h (by simp)) (fun _ h => absurd h (by simp)) (fun sz => fq ▸ k_Jx4a65c_add_72be8_g l B (sM σ 4 i 0 (rM σ 4 i 0 + 1)) i v l4 hle k ⟨h5, fun _ => h0⟩ h0 hk hN hel (by simp [rMsM, rNsM, hs2]) D E sz) rfl gw_358 gw_5 gw_355 gw_357 gs_3 ⟨by decide +kernel, by decide +kernel, by decide +kernel⟩ ⟨rfl, rfl⟩ ⟨Nat.le_of_ble_eq_true rfl, Nat.le_of_ble_eq_true rfl⟩ (rcvT (by exact l4) rfl rfl rfl) (Nat.le_of_ble_eq_true rfl) dJx4a65c_add_9ea2d_20 ⟨by show 0 + 1 ≤ 1; omega, by show 0 + (rN σ 5 i + k) ≤ (rN σ 5 i + k); omega⟩ (fun u hp hx => ?_)
  obtain ⟨q, rfl⟩ := hp
  try dsimp only [List.append_nil]
  refine g_widen (k := 1) (n := (rN σ 5 i + k)) (by show 0 + 1 ≤ 1; omega) (by show 0 + (rN σ 5 i + k) ≤ (rN σ 5 i + k); omega) ?_
  refine g_iconst (v := 1) C dJx4a65c_add_9ea2d_23 (by decide) ?_
  exact g_iret C hr rfl hz ⟨rfl, rfl, fun _ => rfl, fun _ => rfl⟩ ⟨rfl, ⟨q, by rw [sP_sL]; rfl⟩⟩ (fun j x h => by simp at h) dJx4a65c_add_9ea2d_24
/-- w is put in at place j of a row of n -/
def inP (p : Nat → Nat) (j n w : Nat) : Nat → Nat := fun z => if z = j then w else if j < z ∧ z ≤ n then p (z - 1) else p z
theorem in_1 (p : Nat → Nat) {j n : Nat} (w : Nat) (hj : j ≤ n) : up1 (va_cpy p p j (j + 1) (n - j)) j w = inP p j n w := by
  funext z
  unfold up1 inP va_cpy
  by_cases h : z = j
  · rw [if_pos h, if_pos h]
  · rw [if_neg h, if_neg h]
    by_cases h2 : j < z ∧ z ≤ n
    · rw [if_pos h2, if_pos (by omega), show j + (z - (j + 1)) = z - 1 by omega]
    · rw [if_neg h2, if_neg (by omega)]
theorem sQ_sL (σ : RS) (i : Nat) (p f : Nat → Nat) (N q : Nat) : sQ (sL σ i p N q) 5 i f = sL σ i f N q := by
  show (σ.1, up2 (rN σ) 5 i N, up2 (up2 (rP σ) 5 i p) 5 i f, rC σ, up2 (rA σ) 5 i q) = (σ.1, up2 (rN σ) 5 i N, up2 (rP σ) 5 i f, rC σ, up2 (rA σ) 5 i q)
  rw [up2_2]
theorem sQ_sL0 (σ : RS) (i : Nat) (f : Nat → Nat) : sQ σ 5 i f = sL σ i f (rN σ 5 i) (rA σ 5 i) := by
  show (σ.1, rN σ, up2 (rP σ) 5 i f, rC σ, rA σ) = (σ.1, up2 (rN σ) 5 i (rN σ 5 i), up2 (rP σ) 5 i f, rC σ, up2 (rA σ) 5 i (rA σ 5 i))
  rw [up2_self, up2_self]
theorem sL_P (σ : RS) (i : Nat) (p : Nat → Nat) (N q : Nat) : rP (sL σ i p N q) 5 i = p := up2_s (rP σ) 5 i p
set_option maxHeartbeats 4000000 in
set_option maxRecDepth 100000 in
theorem lo_ins {p : Program} {l : Launch} {e : Env} {R : Room} {s : State} {m : MethodId} {args : Array Value} {below : List Frame} {meth : Method} {c : Code} {D : va_G} {E : Nat → ClassId} {A : Nat → Prop} {Q : State → Prop} {c0 s0 a30 a31 : Nat} {B : Nat × (Nat → Nat)} (C : cx p s m args meth c D E A cJx4a65c_add_7a177 5 "java/util/ArrayList") (hEv : eV a30 a31 B A s s.heap) (i j n v q0 q4 y : Nat) (σ : RS) (hq4 : rA σ 5 i = q4) (l5 : live σ 5 i) (hq0 : rA σ 4 i = q0) (l4 : live σ 4 i) (hy : rA σ (eK 5 i) v = y) (hle : live σ (eK 5 i) v) (hj : j ≤ n) (hn : n < rN σ 5 i) (hN : rN σ 5 i < 2 ^ 30) (hel : ∀ j : Nat, j < n → rP σ 5 i j ≠ 0 → live σ (eK 5 i) (rP σ 5 i j - 1)) (hR1 : 1 ≤ R.frames) (hR2 : 18 ≤ R.locals)
    (kk : G p l e R s m args below meth c D E A 5 Q (sM (sQ σ 5 i (inP (rP σ 5 i) j n (v + 1))) 4 i 2 (nI (n + 1))) [] c0 s0 64 [(4, .ref q4), (3, .int (nI n)), (0, .ref q0), (1, .int (nI j)), (2, .ref y)] []) : G p l e R s m args below meth c D E A 5 Q σ [] c0 s0 38 [(4, .ref q4), (3, .int (nI n)), (0, .ref q0), (1, .int (nI j)), (2, .ref y)] [] := by
  refine g_aload C dJx4a65c_add_7a177_38 0 rfl ?_
  refine g_iload_n C dJx4a65c_add_7a177_40 rfl 3 rfl ?_
  refine g_aload C dJx4a65c_add_7a177_41 0 rfl ?_
  refine g_iload_n C dJx4a65c_add_7a177_43 rfl 3 rfl ?_
  refine g_iconst (v := 1) C dJx4a65c_add_7a177_44 (by decide) ?_
  refine g_iadd C dJx4a65c_add_7a177_45 ?_
  rw [nI_1]
  refine g_iload_n C dJx4a65c_add_7a177_46 rfl 1 rfl ?_
  refine g_iload_n C dJx4a65c_add_7a177_47 rfl 3 rfl ?_
  refine g_isub C dJx4a65c_add_7a177_48 ?_
  rw [show nI n - nI j = nI (n - j) by rw [show nI n = nI (n - j) + nI j by rw [nI_add, Nat.sub_add_cancel (by omega)], Int32.add_sub_cancel]]
  refine g_copyqS (i := i) C hEv gw_616 gw_331 gw_330 gw_20 hq4 l5 (nI_pos (by omega)) (nI_pos (by omega)) (nI_pos (by omega)) (by rw [nI_clamp (by omega), nI_clamp (by omega)]; omega) (by rw [nI_clamp (by omega), nI_clamp (by omega)]; omega) (by rw [nI_clamp (by omega), nI_clamp (by omega)]; intro x hx; exact hel (j + x) (by omega)) hR1 (by show 0 + 18 ≤ _; omega) dJx4a65c_add_7a177_49 ?_
  rw [nI_clamp (by omega), nI_clamp (by omega), nI_clamp (by omega)]
  refine g_aload C dJx4a65c_add_7a177_52 0 rfl ?_
  refine g_iload_n C dJx4a65c_add_7a177_54 rfl 3 rfl ?_
  refine g_aload_n C dJx4a65c_add_7a177_55 rfl 4 rfl ?_
  refine g_ast5 (i := i) (v := v) C hEv (by exact hq4) (by exact l5) (by exact vp_in_nI (show j < rN σ 5 i by omega) (show rN σ 5 i < 2 ^ 31 by omega)) (by exact hy) (by exact hle) dJx4a65c_add_7a177_56 ?_
  rw [nI_clamp (by omega), sP_sQ, in_1 _ _ hj]
  refine g_aload_n C dJx4a65c_add_7a177_57 rfl 2 rfl ?_
  refine g_iload_n C dJx4a65c_add_7a177_58 rfl 1 rfl ?_
  refine g_iconst (v := 1) C dJx4a65c_add_7a177_59 (by decide) ?_
  refine g_iadd C dJx4a65c_add_7a177_60 ?_
  rw [nI_1]
  refine g_put (k := 4) (i := i) (ref := "java/util/ArrayList") C (by exact hq0) (by exact l4) rfl rfl inGJx4a65c tyJx4a65c tyJx4a65c_ok nmJx4a65c 2 (by decide) gw_61 (fun _ h => h) rfl (tyJx4a65c_ok 2 (by decide)) rfl rfl (by simp [fvs]) (by simp [fvs, up1]) dJx4a65c_add_7a177_61 ?_
  exact kk
set_option maxHeartbeats 4000000 in
set_option maxRecDepth 100000 in
theorem ki_a (l : Launch) (B : Nat × (Nat → Nat)) (σ : RS) (i j v : Nat) (n : Nat) (l4 : live σ 4 i) (hle : live σ (eK 5 i) v) (h5 : i < rC σ 5) (hs2 : rM σ 4 i 2 = nI n) (hj : j ≤ n) (hN : rN σ 5 i ≤ 2097152) (l31 : live σ 31 0) (h31 : rN σ 31 0 = 0) (hel : ∀ j : Nat, j < rN σ 5 i → rP σ 5 i j ≠ 0 → live σ (eK 5 i) (rP σ 5 i j - 1)) (hlt : n < rN σ 5 i) : ∀ D E sz, Met l yJx4a65c_add_7a177 gwJx4a65c_add_7a177 ({ frames := 6, cells := 0, slots := 0, locals := 200 } : Room) (cPe D E sz B σ [] [] [.ref (rA σ 4 i), .int (nI j), .ref (rA σ (eK 5 i) v)]) (cQ D E sz σ [] (pV (fun u => u = (adS σ i n (rN σ 5 i) (inP (rP σ 5 i) j n (v + 1)) (rA σ 5 i), [])))) (0) (0) (Aof σ [] sz) := by
  intro D E sz
  refine g_ofe (cc := cJx4a65c_add_7a177) (maxL := 5) (ret := none) (own := "java/util/ArrayList") (by decide) rfl rfl (Nat.le_of_ble_eq_true rfl) ?_
  intro p e s m args below meth c C hr hin hz ha hwr hEv
  refine g_aload_n C dJx4a65c_add_7a177_0 rfl 0 rfl ?_
  refine g_iload_n C dJx4a65c_add_7a177_1 rfl 1 rfl ?_
  refine g_cVv (n := 1) (exc := []) (exr := []) C [_] _ rfl rfl [] [] rfl rfl rfl rfl (fun _ h => absurd h (by simp)) (fun _ h => absurd h (by simp)) (fun _ h => absurd h (by simp)) (fun sz => k_Jx4a65c_rangeCheckForAdd_d00df l σ i j n l4 hs2 hj (by omega) D E sz) rfl gw_628 gw_5 gw_625 gw_627 gs_21 ⟨by decide +kernel, by decide +kernel, by decide +kernel⟩ ⟨rfl, rfl⟩ ⟨Nat.le_of_ble_eq_true rfl, Nat.le_of_ble_eq_true rfl⟩ (rcvT (by exact l4) rfl rfl rfl) (Nat.le_of_ble_eq_true rfl) dJx4a65c_add_7a177_2 ⟨Nat.zero_le _, Nat.zero_le _⟩ (fun u hp hx => ?_)
  obtain rfl := hp
  try dsimp only [List.append_nil]
  refine g_aload_n C dJx4a65c_add_7a177_5 rfl 0 rfl ?_
  refine g_dup C dJx4a65c_add_7a177_6 rfl ?_
  refine g_get (k := 4) (i := i) (ref := "java/util/ArrayList") C (by exact rfl) (by exact l4) rfl rfl inGJx4a65c 0 (by decide) gw_63 (u_same (C.2.2.2.1 _ gw_64)) rfl dJx4a65c_add_7a177_7 ?_
  refine g_iconst (v := 1) C dJx4a65c_add_7a177_10 (by decide) ?_
  refine g_iadd C dJx4a65c_add_7a177_11 ?_
  refine g_put (k := 4) (i := i) (ref := "java/util/ArrayList") C (by exact rfl) (by exact l4) rfl rfl inGJx4a65c tyJx4a65c tyJx4a65c_ok nmJx4a65c 0 (by decide) gw_63 (u_same (C.2.2.2.1 _ gw_64)) rfl (tyJx4a65c_ok 0 (by decide)) rfl rfl (by simp [fvs]) (by simp [fvs, up1]) dJx4a65c_add_7a177_12 ?_
  refine g_aload_n C dJx4a65c_add_7a177_15 rfl 0 rfl ?_
  refine g_get (k := 4) (i := i) (ref := "java/util/ArrayList") C (by exact rfl) (by exact l4) rfl rfl inGJx4a65c 2 (by decide) gw_61 (fun _ h => h) rfl dJx4a65c_add_7a177_16 ?_
  rw [show rM (sM σ 4 i 0 (rM σ 4 i 0 + 1)) 4 i 2 = nI n by simp [rMsM, hs2]]
  refine g_dup C dJx4a65c_add_7a177_19 rfl ?_
  refine g_istore_n (lv' := [(3, .int (nI n)), (0, .ref (rA σ 4 i)), (1, .int (nI j)), (2, .ref (rA σ (eK 5 i) v))]) C dJx4a65c_add_7a177_20 rfl (by decide) rfl ?_
  refine g_aload_n C dJx4a65c_add_7a177_21 rfl 1 rfl ?_
  refine g_get (k := 4) (i := i) (ref := "java/util/ArrayList") C (by exact rfl) (by exact l4) rfl rfl inGJx4a65c 1 (by decide) gw_60 (fun _ h => h) rfl dJx4a65c_add_7a177_22 ?_
  refine g_topr (fun qq1 eqq1 => ?_)
  refine g_dup C dJx4a65c_add_7a177_25 rfl ?_
  refine g_astore (lv' := [(4, .ref qq1), (3, .int (nI n)), (0, .ref (rA σ 4 i)), (1, .int (nI j)), (2, .ref (rA σ (eK 5 i) v))]) C dJx4a65c_add_7a177_26 (by decide) rfl ?_
  have hne : rN σ 5 i ≠ 0 := by omega
  have l5 : live σ 5 i := ⟨h5, fun _ => hne⟩
  have fq : rA (sM σ 4 i 0 (rM σ 4 i 0 + 1)) 5 i = qq1 := (if_neg hne).symm.trans eqq1
  refine g_alen (k := 5) (i := i) C (by exact fq) (by exact l5) (by decide) rfl dJx4a65c_add_7a177_28 ?_
  refine g_icmp_ne (tgt := 38) C dJx4a65c_add_7a177_29 (by decide) (fun c29 => ?_) (fun c29 => ?_)
  · skip
    refine g_widen (k := 0) (n := 0) (by show 0 + 0 ≤ 0; omega) (by show 0 + 0 ≤ 0; omega) ?_
    refine lo_ins C hEv i j n v _ _ _ (sM σ 4 i 0 (rM σ 4 i 0 + 1)) fq l5 rfl l4 rfl hle hj hlt (show rN σ 5 i < 2 ^ 30 by omega) (fun x hx => hel x (by omega)) (Nat.le_of_ble_eq_true rfl) (Nat.le_of_ble_eq_true rfl) ?_
    exact g_vret C hr hz ⟨rfl, rfl, fun _ => rfl, fun _ => rfl⟩ (by rw [sQ_sL0]; rfl) (fun j x h => by simp at h) dJx4a65c_add_7a177_64
  · exact absurd c29 (fun e => absurd ((nI_eq (by omega) (show rN σ 5 i < 2 ^ 31 by omega)).mp e) (by omega))
set_option maxHeartbeats 4000000 in
set_option maxRecDepth 100000 in
theorem ki_b (l : Launch) (B : Nat × (Nat → Nat)) (σ : RS) (i j v : Nat) (l4 : live σ 4 i) (hle : live σ (eK 5 i) v) (h5 : i < rC σ 5) (hs2 : rM σ 4 i 2 = nI 0) (hj : j ≤ 0) (hN : rN σ 5 i ≤ 2097152) (l31 : live σ 31 0) (h31 : rN σ 31 0 = 0) (hel : ∀ j : Nat, j < rN σ 5 i → rP σ 5 i j ≠ 0 → live σ (eK 5 i) (rP σ 5 i j - 1)) (h0 : rN σ 5 i = 0) : ∀ D E sz, Met l yJx4a65c_add_7a177 gwJx4a65c_add_7a177 ({ frames := 6, cells := 1, slots := 10, locals := 200 } : Room) (cPe D E sz B σ [] [] [.ref (rA σ 4 i), .int (nI j), .ref (rA σ (eK 5 i) v)]) (cQ D E sz σ [] (pV (fun u => ∃ q, u = (adS σ i 0 10 (inP (fun _ => 0) j 0 (v + 1)) q, [])))) (1) (10) (Aof σ [] sz) := by
  intro D E sz
  refine g_ofe (cc := cJx4a65c_add_7a177) (maxL := 5) (ret := none) (own := "java/util/ArrayList") (by decide) rfl rfl (Nat.le_of_ble_eq_true rfl) ?_
  intro p e s m args below meth c C hr hin hz ha hwr hEv
  refine g_aload_n C dJx4a65c_add_7a177_0 rfl 0 rfl ?_
  refine g_iload_n C dJx4a65c_add_7a177_1 rfl 1 rfl ?_
  refine g_cVv (n := 1) (exc := []) (exr := []) C [_] _ rfl rfl [] [] rfl rfl rfl rfl (fun _ h => absurd h (by simp)) (fun _ h => absurd h (by simp)) (fun _ h => absurd h (by simp)) (fun sz => k_Jx4a65c_rangeCheckForAdd_d00df l σ i j 0 l4 hs2 hj (by omega) D E sz) rfl gw_628 gw_5 gw_625 gw_627 gs_21 ⟨by decide +kernel, by decide +kernel, by decide +kernel⟩ ⟨rfl, rfl⟩ ⟨Nat.le_of_ble_eq_true rfl, Nat.le_of_ble_eq_true rfl⟩ (rcvT (by exact l4) rfl rfl rfl) (Nat.le_of_ble_eq_true rfl) dJx4a65c_add_7a177_2 ⟨Nat.zero_le _, Nat.zero_le _⟩ (fun u hp hx => ?_)
  obtain rfl := hp
  try dsimp only [List.append_nil]
  refine g_aload_n C dJx4a65c_add_7a177_5 rfl 0 rfl ?_
  refine g_dup C dJx4a65c_add_7a177_6 rfl ?_
  refine g_get (k := 4) (i := i) (ref := "java/util/ArrayList") C (by exact rfl) (by exact l4) rfl rfl inGJx4a65c 0 (by decide) gw_63 (u_same (C.2.2.2.1 _ gw_64)) rfl dJx4a65c_add_7a177_7 ?_
  refine g_iconst (v := 1) C dJx4a65c_add_7a177_10 (by decide) ?_
  refine g_iadd C dJx4a65c_add_7a177_11 ?_
  refine g_put (k := 4) (i := i) (ref := "java/util/ArrayList") C (by exact rfl) (by exact l4) rfl rfl inGJx4a65c tyJx4a65c tyJx4a65c_ok nmJx4a65c 0 (by decide) gw_63 (u_same (C.2.2.2.1 _ gw_64)) rfl (tyJx4a65c_ok 0 (by decide)) rfl rfl (by simp [fvs]) (by simp [fvs, up1]) dJx4a65c_add_7a177_12 ?_
  refine g_aload_n C dJx4a65c_add_7a177_15 rfl 0 rfl ?_
  refine g_get (k := 4) (i := i) (ref := "java/util/ArrayList") C (by exact rfl) (by exact l4) rfl rfl inGJx4a65c 2 (by decide) gw_61 (fun _ h => h) rfl dJx4a65c_add_7a177_16 ?_
  rw [show rM (sM σ 4 i 0 (rM σ 4 i 0 + 1)) 4 i 2 = nI 0 by simp [rMsM, hs2]]
  refine g_dup C dJx4a65c_add_7a177_19 rfl ?_
  refine g_istore_n (lv' := [(3, .int (nI 0)), (0, .ref (rA σ 4 i)), (1, .int (nI j)), (2, .ref (rA σ (eK 5 i) v))]) C dJx4a65c_add_7a177_20 rfl (by decide) rfl ?_
  refine g_aload_n C dJx4a65c_add_7a177_21 rfl 1 rfl ?_
  refine g_get (k := 4) (i := i) (ref := "java/util/ArrayList") C (by exact rfl) (by exact l4) rfl rfl inGJx4a65c 1 (by decide) gw_60 (fun _ h => h) rfl dJx4a65c_add_7a177_22 ?_
  refine g_topr (fun qq1 eqq1 => ?_)
  refine g_dup C dJx4a65c_add_7a177_25 rfl ?_
  refine g_astore (lv' := [(4, .ref qq1), (3, .int (nI 0)), (0, .ref (rA σ 4 i)), (1, .int (nI j)), (2, .ref (rA σ (eK 5 i) v))]) C dJx4a65c_add_7a177_26 (by decide) rfl ?_
  have fq : rA (sM σ 4 i 0 (rM σ 4 i 0 + 1)) 31 0 = qq1 := (if_pos h0).symm.trans eqq1
  refine g_alen (k := 31) (i := 0) C (by exact fq) (by exact l31) (by decide) rfl dJx4a65c_add_7a177_28 ?_
  rw [show rN (sM σ 4 i 0 (rM σ 4 i 0 + 1)) 31 0 = 0 from h31]
  refine g_icmp_ne (tgt := 38) C dJx4a65c_add_7a177_29 (by decide) (fun c29 => ?_) (fun c29 => ?_)
  · exact absurd c29 (fun h => h rfl)
  · skip
    refine g_aload_n C dJx4a65c_add_7a177_32 rfl 2 rfl ?_
    refine g_cVqe (n := 0) (exc := []) (exr := []) C hEv ⟨rfl, rfl⟩ [] _ rfl rfl [] [] rfl rfl rfl rfl (fun _ h => absurd h (by simp)) (fun _ h => absurd h (by simp)) (fun _ h => absurd h (by simp)) (fun sz => k_Jx4a65c_grow_d5877_0 l B (sM σ 4 i 0 (rM σ 4 i 0 + 1)) i l4 h5 h0 l31 h31 (by simp [rMsM, hs2]) D E sz) rfl gw_362 gw_5 gw_359 gw_361 gs_4 ⟨by decide +kernel, by decide +kernel, by decide +kernel⟩ ⟨rfl, rfl⟩ ⟨Nat.le_of_ble_eq_true rfl, Nat.le_of_ble_eq_true rfl⟩ (rcvT (by exact l4) rfl rfl rfl) (Nat.le_of_ble_eq_true rfl) dJx4a65c_add_7a177_33 ⟨Nat.le_refl _, (by show 0 + 0 + 10 ≤ 10; omega)⟩ (fun r u hp hx => ?_)
    obtain ⟨q, rfl, rfl⟩ := hp
    try dsimp only [List.append_nil]
    refine g_widen (k := 1) (n := 10) (by omega) (by show 0 + 0 + 10 ≤ 10; omega) ?_
    refine g_astore (lv' := [(4, .ref q), (3, .int (nI 0)), (0, .ref (rA σ 4 i)), (1, .int (nI j)), (2, .ref (rA σ (eK 5 i) v))]) C dJx4a65c_add_7a177_36 (by decide) rfl ?_
    refine lo_ins C hEv i j 0 v _ _ _ (sL (sM σ 4 i 0 (rM σ 4 i 0 + 1)) i (fun _ => 0) 10 q) (up2_s (rA (sM σ 4 i 0 (rM σ 4 i 0 + 1))) 5 i q) (sL_l5 _ _ h5 (by omega)) rfl (sL_l _ _ _ _ (by decide) l4) (sL_A _ _ _ _ _ _) (sL_l _ _ _ _ (eK5 i) hle) hj (by rw [sL_N]; omega) (by rw [sL_N]; omega) (fun x hx => absurd hx (by omega)) (Nat.le_of_ble_eq_true rfl) (Nat.le_of_ble_eq_true rfl) ?_
    exact g_vret C hr hz ⟨rfl, rfl, fun _ => rfl, fun _ => rfl⟩ ⟨q, (by rw [sQ_sL, sL_P]; rfl)⟩ (fun j x h => by simp at h) dJx4a65c_add_7a177_64
set_option maxHeartbeats 4000000 in
set_option maxRecDepth 100000 in
theorem ki_c (l : Launch) (B : Nat × (Nat → Nat)) (σ : RS) (i j v : Nat) (l4 : live σ 4 i) (hle : live σ (eK 5 i) v) (h5 : i < rC σ 5) (hs2 : rM σ 4 i 2 = nI (rN σ 5 i)) (hj : j ≤ (rN σ 5 i)) (hN : rN σ 5 i ≤ 2097152) (l31 : live σ 31 0) (h31 : rN σ 31 0 = 0) (hel : ∀ j : Nat, j < rN σ 5 i → rP σ 5 i j ≠ 0 → live σ (eK 5 i) (rP σ 5 i j - 1)) (h0 : rN σ 5 i ≠ 0) (k : Nat) (hk : k = (if 1 < rN σ 5 i / 2 ^ 1 then rN σ 5 i / 2 ^ 1 else 1)) : ∀ D E sz, Met l yJx4a65c_add_7a177 gwJx4a65c_add_7a177 ({ frames := 6, cells := 1, slots := (rN σ 5 i + k), locals := 200 } : Room) (cPe D E sz B σ [] [] [.ref (rA σ 4 i), .int (nI j), .ref (rA σ (eK 5 i) v)]) (cQ D E sz σ [] (pV (fun u => ∃ q, u = (adS σ i (rN σ 5 i) (rN σ 5 i + k) (inP (grP σ i) j (rN σ 5 i) (v + 1)) q, [])))) (1) ((rN σ 5 i + k)) (Aof σ [] sz) := by
  intro D E sz
  refine g_ofe (cc := cJx4a65c_add_7a177) (maxL := 5) (ret := none) (own := "java/util/ArrayList") (by decide) rfl rfl (Nat.le_of_ble_eq_true rfl) ?_
  intro p e s m args below meth c C hr hin hz ha hwr hEv
  refine g_aload_n C dJx4a65c_add_7a177_0 rfl 0 rfl ?_
  refine g_iload_n C dJx4a65c_add_7a177_1 rfl 1 rfl ?_
  refine g_cVv (n := 1) (exc := []) (exr := []) C [_] _ rfl rfl [] [] rfl rfl rfl rfl (fun _ h => absurd h (by simp)) (fun _ h => absurd h (by simp)) (fun _ h => absurd h (by simp)) (fun sz => k_Jx4a65c_rangeCheckForAdd_d00df l σ i j (rN σ 5 i) l4 hs2 hj (by omega) D E sz) rfl gw_628 gw_5 gw_625 gw_627 gs_21 ⟨by decide +kernel, by decide +kernel, by decide +kernel⟩ ⟨rfl, rfl⟩ ⟨Nat.le_of_ble_eq_true rfl, Nat.le_of_ble_eq_true rfl⟩ (rcvT (by exact l4) rfl rfl rfl) (Nat.le_of_ble_eq_true rfl) dJx4a65c_add_7a177_2 ⟨Nat.zero_le _, Nat.zero_le _⟩ (fun u hp hx => ?_)
  obtain rfl := hp
  try dsimp only [List.append_nil]
  refine g_aload_n C dJx4a65c_add_7a177_5 rfl 0 rfl ?_
  refine g_dup C dJx4a65c_add_7a177_6 rfl ?_
  refine g_get (k := 4) (i := i) (ref := "java/util/ArrayList") C (by exact rfl) (by exact l4) rfl rfl inGJx4a65c 0 (by decide) gw_63 (u_same (C.2.2.2.1 _ gw_64)) rfl dJx4a65c_add_7a177_7 ?_
  refine g_iconst (v := 1) C dJx4a65c_add_7a177_10 (by decide) ?_
  refine g_iadd C dJx4a65c_add_7a177_11 ?_
  refine g_put (k := 4) (i := i) (ref := "java/util/ArrayList") C (by exact rfl) (by exact l4) rfl rfl inGJx4a65c tyJx4a65c tyJx4a65c_ok nmJx4a65c 0 (by decide) gw_63 (u_same (C.2.2.2.1 _ gw_64)) rfl (tyJx4a65c_ok 0 (by decide)) rfl rfl (by simp [fvs]) (by simp [fvs, up1]) dJx4a65c_add_7a177_12 ?_
  refine g_aload_n C dJx4a65c_add_7a177_15 rfl 0 rfl ?_
  refine g_get (k := 4) (i := i) (ref := "java/util/ArrayList") C (by exact rfl) (by exact l4) rfl rfl inGJx4a65c 2 (by decide) gw_61 (fun _ h => h) rfl dJx4a65c_add_7a177_16 ?_
  rw [show rM (sM σ 4 i 0 (rM σ 4 i 0 + 1)) 4 i 2 = nI (rN σ 5 i) by simp [rMsM, hs2]]
  refine g_dup C dJx4a65c_add_7a177_19 rfl ?_
  refine g_istore_n (lv' := [(3, .int (nI (rN σ 5 i))), (0, .ref (rA σ 4 i)), (1, .int (nI j)), (2, .ref (rA σ (eK 5 i) v))]) C dJx4a65c_add_7a177_20 rfl (by decide) rfl ?_
  refine g_aload_n C dJx4a65c_add_7a177_21 rfl 1 rfl ?_
  refine g_get (k := 4) (i := i) (ref := "java/util/ArrayList") C (by exact rfl) (by exact l4) rfl rfl inGJx4a65c 1 (by decide) gw_60 (fun _ h => h) rfl dJx4a65c_add_7a177_22 ?_
  refine g_topr (fun qq1 eqq1 => ?_)
  refine g_dup C dJx4a65c_add_7a177_25 rfl ?_
  refine g_astore (lv' := [(4, .ref qq1), (3, .int (nI (rN σ 5 i))), (0, .ref (rA σ 4 i)), (1, .int (nI j)), (2, .ref (rA σ (eK 5 i) v))]) C dJx4a65c_add_7a177_26 (by decide) rfl ?_
  have hk2 : 1 ≤ k ∧ k ≤ rN σ 5 i + 10 := by
    rw [hk]
    split <;> omega
  have l5 : live σ 5 i := ⟨h5, fun _ => h0⟩
  have fq : rA (sM σ 4 i 0 (rM σ 4 i 0 + 1)) 5 i = qq1 := (if_neg h0).symm.trans eqq1
  refine g_alen (k := 5) (i := i) C (by exact fq) (by exact l5) (by decide) rfl dJx4a65c_add_7a177_28 ?_
  refine g_icmp_ne (tgt := 38) C dJx4a65c_add_7a177_29 (by decide) (fun c29 => ?_) (fun c29 => ?_)
  · exact absurd c29 (fun h => h rfl)
  · skip
    refine g_aload_n C dJx4a65c_add_7a177_32 rfl 2 rfl ?_
    refine g_cVqe (n := 0) (exc := []) (exr := []) C hEv ⟨rfl, rfl⟩ [] _ rfl rfl [] [] rfl rfl rfl rfl (fun _ h => absurd h (by simp)) (fun _ h => absurd h (by simp)) (fun _ h => absurd h (by simp)) (fun sz => k_Jx4a65c_grow_d5877 l B (sM σ 4 i 0 (rM σ 4 i 0 + 1)) i k l4 l5 h0 hk hN hel (by simp [rMsM, rNsM, hs2]) D E sz) rfl gw_362 gw_5 gw_359 gw_361 gs_4 ⟨by decide +kernel, by decide +kernel, by decide +kernel⟩ ⟨rfl, rfl⟩ ⟨Nat.le_of_ble_eq_true rfl, Nat.le_of_ble_eq_true rfl⟩ (rcvT (by exact l4) rfl rfl rfl) (Nat.le_of_ble_eq_true rfl) dJx4a65c_add_7a177_33 ⟨Nat.le_refl _, (by show 0 + 0 + (rN σ 5 i + k) ≤ (rN σ 5 i + k); omega)⟩ (fun r u hp hx => ?_)
    obtain ⟨q, rfl, rfl⟩ := hp
    try dsimp only [List.append_nil]
    refine g_widen (k := 1) (n := (rN σ 5 i + k)) (by omega) (by show 0 + 0 + (rN σ 5 i + k) ≤ (rN σ 5 i + k); omega) ?_
    refine g_astore (lv' := [(4, .ref q), (3, .int (nI (rN σ 5 i))), (0, .ref (rA σ 4 i)), (1, .int (nI j)), (2, .ref (rA σ (eK 5 i) v))]) C dJx4a65c_add_7a177_36 (by decide) rfl ?_
    refine lo_ins C hEv i j (rN σ 5 i) v _ _ _ (sL (sM σ 4 i 0 (rM σ 4 i 0 + 1)) i (grP (sM σ 4 i 0 (rM σ 4 i 0 + 1)) i) (rN σ 5 i + k) q) (up2_s (rA (sM σ 4 i 0 (rM σ 4 i 0 + 1))) 5 i q) (sL_l5 _ _ h5 (by omega)) rfl (sL_l _ _ _ _ (by decide) l4) (sL_A _ _ _ _ _ _) (sL_l _ _ _ _ (eK5 i) hle) hj (by rw [sL_N]; omega) (by rw [sL_N]; omega) (fun x hx h1 => by rw [sL_P] at h1 ⊢; have e1 : grP (sM σ 4 i 0 (rM σ 4 i 0 + 1)) i x = rP σ 5 i x := if_pos hx; rw [e1] at h1 ⊢; exact sL_l _ _ _ _ (eK5 i) (hel x hx h1)) (Nat.le_of_ble_eq_true rfl) (Nat.le_of_ble_eq_true rfl) ?_
    exact g_vret C hr hz ⟨rfl, rfl, fun _ => rfl, fun _ => rfl⟩ ⟨q, (by rw [sQ_sL, sL_P]; rfl)⟩ (fun j x h => by simp at h) dJx4a65c_add_7a177_64
