theorem ca_of {a30 a31 : Nat} {B : Nat × (Nat → Nat)} {A : Nat → Prop} {s : State} (hEv : eV a30 a31 B A s s.heap) {Cn : String} (hm : Cn ∈ eC) : ∀ comp c0 : ClassId, s.vm.findClass (rT 2) = some comp → ClassAt s Cn c0 → s.vm.assignable c0 comp = true := fun comp c0 h1 h2 => by
  obtain ⟨c1, t1, f1, f2, f3⟩ := Cond.castable_spec (va_Nw.use (A := #[]) rfl (hEv.2.2.2.2.2.2.1 _ hm).1)
  have h1' : s.vm.findClass "java/lang/Object" = some comp := h1
  cases h2.1.symm.trans f1
  cases h1'.symm.trans f2
  exact f3
section AddG
variable {p : Program} {l : Launch} {e : Env} {R : Room} {s : State} {m : MethodId} {args : Array Value} {below : List Frame} {meth : Method} {c : Code} {D : va_G} {E : Nat → ClassId} {A : Nat → Prop} {cc : ByteArray} {nL : Nat} {own : String} {Q : State → Prop}
variable {σ : RS} {ex : va_W} {cells slots pc : Nat} {lv : List (Nat × Value)} {rest : List Value}
variable {B : Nat × (Nat → Nat)} {a30 a31 : Nat}
/-- a live element is stored into a list's array -/
theorem g_ast5 (C : cx p s m args meth c D E A cc nL own) (hEv : eV a30 a31 B A s s.heap) {i q y v : Nat} {n : Int32} (hq : rA σ 5 i = q) (hlv : live σ 5 i) (hin : vp_in n (rN σ 5 i)) (hy : rA σ (eK 5 i) v = y) (hle : live σ (eK 5 i) v) (hd : decode cc pc = .ok (.aastore, 1)) (kk : G p l e R s m args below meth c D E A nL Q (sP σ 5 i n.toNatClampNeg (v + 1)) ex cells slots (pc + 1) lv (rest)) : G p l e R s m args below meth c D E A nL Q σ ex cells slots (pc) lv (.ref y :: .int n :: .ref q :: rest) := by
  obtain ⟨r, hr, hm⟩ := eC_at i
  exact g_aast C 2 (Or.inl rfl) hq hlv (by decide) rfl hin hy hle hr (ca_of hEv hm) hd kk
theorem eK5 (i : Nat) : eK 5 i ≠ 5 := (knd_eK (k := 5) (i := i) (Or.inl rfl)).2.1
theorem sL_A (σ : RS) (i : Nat) (p : Nat → Nat) (N q v : Nat) : rA (sL σ i p N q) (eK 5 i) v = rA σ (eK 5 i) v := up2_n _ _ (by have := eK5 i; omega)
theorem sL_l5 {σ : RS} {i : Nat} (p : Nat → Nat) {N : Nat} (q : Nat) (h : i < rC σ 5) (hN : N ≠ 0) : live (sL σ i p N q) 5 i := ⟨h, fun _ => by show up2 (rN σ) 5 i N 5 i ≠ 0; rw [up2_s]; exact hN⟩
theorem sL_l {σ : RS} {k j : Nat} (i : Nat) (p : Nat → Nat) (N q : Nat) (hk : k ≠ 5) (h : live σ k j) : live (sL σ i p N q) k j := live5 (σ := σ) hk rfl h
theorem sL_N (σ : RS) (i : Nat) (p : Nat → Nat) (N q : Nat) : rN (sL σ i p N q) 5 i = N := up2_s (rN σ) 5 i N
end AddG
set_option maxHeartbeats 4000000 in
set_option maxRecDepth 100000 in
theorem k_Jx4a65c_add_72be8 (l : Launch) (B : Nat × (Nat → Nat)) (σ : RS) (i v : Nat) (l4 : live σ 4 i) (hle : live σ (eK 5 i) v) (n : Nat) (l5 : live σ 5 i) (hn : n < rN σ 5 i) (hN : rN σ 5 i ≤ 2097152) : ∀ D E sz, Met l yJx4a65c_add_72be8 gwJx4a65c_add_72be8 ({ frames := 0, cells := 0, slots := 0, locals := 0 } : Room) (cPe D E sz B σ [] [] [.ref (rA σ 4 i), .ref (rA σ (eK 5 i) v), .ref (rA σ 5 i), .int (nI n)]) (cQ D E sz σ [] (pV (fun u => u = (sM (sP σ 5 i n (v + 1)) 4 i 2 (nI (n + 1)), [])))) (0) (0) (Aof σ [] sz) := by
  intro D E sz
  refine g_ofe (cc := cJx4a65c_add_72be8) (maxL := 4) (ret := none) (own := "java/util/ArrayList") (by decide) rfl rfl (Nat.le_of_ble_eq_true rfl) ?_
  intro p e s m args below meth c C hr hin hz ha hwr hEv
  refine g_iload_n C dJx4a65c_add_72be8_0 rfl 3 rfl ?_
  refine g_aload_n C dJx4a65c_add_72be8_1 rfl 2 rfl ?_
  refine g_alen (k := 5) (i := i) C (by exact rfl) (by exact l5) (by decide) rfl dJx4a65c_add_72be8_2 ?_
  refine g_icmp_ne (tgt := 11) C dJx4a65c_add_72be8_3 (by decide) (fun c3 => ?_) (fun c3 => ?_)
  · skip
    refine g_aload_n C dJx4a65c_add_72be8_11 rfl 2 rfl ?_
    refine g_iload_n C dJx4a65c_add_72be8_12 rfl 3 rfl ?_
    refine g_aload_n C dJx4a65c_add_72be8_13 rfl 1 rfl ?_
    refine g_ast5 (i := i) (v := v) C hEv (by exact rfl) (by exact l5) (by exact vp_in_nI hn (by omega)) (by exact rfl) (by exact hle) dJx4a65c_add_72be8_14 ?_
    rw [nI_clamp (by omega)]
    refine g_aload_n C dJx4a65c_add_72be8_15 rfl 0 rfl ?_
    refine g_iload_n C dJx4a65c_add_72be8_16 rfl 3 rfl ?_
    refine g_iconst (v := 1) C dJx4a65c_add_72be8_17 (by decide) ?_
    refine g_iadd C dJx4a65c_add_72be8_18 ?_
    rw [nI_1]
    refine g_put (k := 4) (i := i) (ref := "java/util/ArrayList") C (by exact rfl) (by exact l4) rfl rfl inGJx4a65c tyJx4a65c tyJx4a65c_ok nmJx4a65c 2 (by decide) gw_61 (fun _ h => h) rfl (tyJx4a65c_ok 2 (by decide)) rfl rfl (by simp [fvs]) (by simp [fvs, up1]) dJx4a65c_add_72be8_19 ?_
    exact g_vret C hr hz ⟨rfl, rfl, fun _ => rfl, fun _ => rfl⟩ (rfl) (fun j x h => by simp at h) dJx4a65c_add_72be8_22
  · exact absurd c3 (fun e => by rw [nI_eq (by omega) (by omega)] at e; omega)
set_option maxHeartbeats 4000000 in
set_option maxRecDepth 100000 in
theorem k_Jx4a65c_add_72be8_g (l : Launch) (B : Nat × (Nat → Nat)) (σ : RS) (i v : Nat) (l4 : live σ 4 i) (hle : live σ (eK 5 i) v) (k : Nat) (l5 : live σ 5 i) (hne : rN σ 5 i ≠ 0) (hk : k = if 1 < rN σ 5 i / 2 ^ 1 then rN σ 5 i / 2 ^ 1 else 1) (hN : rN σ 5 i ≤ 2097152) (hel : ∀ j : Nat, j < rN σ 5 i → rP σ 5 i j ≠ 0 → live σ (eK 5 i) (rP σ 5 i j - 1)) (hs2 : rM σ 4 i 2 = nI (rN σ 5 i)) : ∀ D E sz, Met l yJx4a65c_add_72be8 gwJx4a65c_add_72be8 ({ frames := 5, cells := 1, slots := (rN σ 5 i + k), locals := 170 } : Room) (cPe D E sz B σ [] [] [.ref (rA σ 4 i), .ref (rA σ (eK 5 i) v), .ref (rA σ 5 i), .int (nI (rN σ 5 i))]) (cQ D E sz σ [] (pV (fun u => ∃ q, u = (sM (sP (sL σ i (grP σ i) (rN σ 5 i + k) q) 5 i (rN σ 5 i) (v + 1)) 4 i 2 (nI (rN σ 5 i + 1)), [])))) (1) ((rN σ 5 i + k)) (Aof σ [] sz) := by
  have hk1 : 1 ≤ k ∧ k ≤ 2097152 := by
    rw [hk]
    split <;> omega
  have h5 := l5.1
  intro D E sz
  refine g_ofe (cc := cJx4a65c_add_72be8) (maxL := 4) (ret := none) (own := "java/util/ArrayList") (by decide) rfl rfl (Nat.le_of_ble_eq_true rfl) ?_
  intro p e s m args below meth c C hr hin hz ha hwr hEv
  refine g_iload_n C dJx4a65c_add_72be8_0 rfl 3 rfl ?_
  refine g_aload_n C dJx4a65c_add_72be8_1 rfl 2 rfl ?_
  refine g_alen (k := 5) (i := i) C (by exact rfl) (by exact l5) (by decide) rfl dJx4a65c_add_72be8_2 ?_
  refine g_icmp_ne (tgt := 11) C dJx4a65c_add_72be8_3 (by decide) (fun c3 => ?_) (fun c3 => ?_)
  · exact absurd c3 (fun h => h rfl)
  · skip
    refine g_aload_n C dJx4a65c_add_72be8_6 rfl 0 rfl ?_
    refine g_cVqe (n := 0) (exc := []) (exr := []) C hEv ⟨rfl, rfl⟩ [] _ rfl rfl [] [] rfl rfl rfl rfl (fun _ h => absurd h (by simp)) (fun _ h => absurd h (by simp)) (fun _ h => absurd h (by simp)) (fun sz => k_Jx4a65c_grow_d5877 l B σ i k l4 l5 hne hk hN hel hs2 D E sz) rfl gw_362 gw_5 gw_359 gw_361 gs_4 ⟨by decide +kernel, by decide +kernel, by decide +kernel⟩ ⟨rfl, rfl⟩ ⟨Nat.le_of_ble_eq_true rfl, Nat.le_of_ble_eq_true rfl⟩ (rcvT (by exact l4) rfl rfl rfl) (Nat.le_of_ble_eq_true rfl) dJx4a65c_add_72be8_7 ⟨Nat.le_refl _, (by show 0 + (rN σ 5 i + k) ≤ (rN σ 5 i + k); omega)⟩ (fun r u hp hx => ?_)
    obtain ⟨q, rfl, rfl⟩ := hp
    try dsimp only [List.append_nil]
    have l4t : live (sL σ i (grP σ i) (rN σ 5 i + k) q) 4 i := sL_l _ _ _ _ (by decide) l4
    have l5t : live (sL σ i (grP σ i) (rN σ 5 i + k) q) 5 i := sL_l5 _ _ h5 (by omega)
    have hlet : live (sL σ i (grP σ i) (rN σ 5 i + k) q) (eK 5 i) v := sL_l _ _ _ _ (eK5 i) hle
    have hqt : rA (sL σ i (grP σ i) (rN σ 5 i + k) q) 5 i = q := up2_s (rA σ) 5 i q
    have hNt : rN (sL σ i (grP σ i) (rN σ 5 i + k) q) 5 i = (rN σ 5 i + k) := sL_N _ _ _ _ _
    refine g_widen (k := 1) (n := (rN σ 5 i + k)) (by omega) (by omega) ?_
    refine g_astore_n (lv' := [(2, .ref q), (0, .ref (rA σ 4 i)), (1, .ref (rA σ (eK 5 i) v)), (3, .int (nI (rN σ 5 i)))]) C dJx4a65c_add_72be8_10 rfl (by decide) rfl ?_
    refine g_aload_n C dJx4a65c_add_72be8_11 rfl 0 rfl ?_
    refine g_iload_n C dJx4a65c_add_72be8_12 rfl 3 rfl ?_
    refine g_aload_n C dJx4a65c_add_72be8_13 rfl 2 rfl ?_
    refine g_ast5 (i := i) (v := v) C hEv (by exact hqt) (by exact l5t) (by exact vp_in_nI (show rN σ 5 i < rN (sL σ i (grP σ i) (rN σ 5 i + k) q) 5 i by rw [hNt]; omega) (by omega)) (by exact sL_A _ _ _ _ _ _) (by exact hlet) dJx4a65c_add_72be8_14 ?_
    rw [nI_clamp (by omega)]
    refine g_aload_n C dJx4a65c_add_72be8_15 rfl 1 rfl ?_
    refine g_iload_n C dJx4a65c_add_72be8_16 rfl 3 rfl ?_
    refine g_iconst (v := 1) C dJx4a65c_add_72be8_17 (by decide) ?_
    refine g_iadd C dJx4a65c_add_72be8_18 ?_
    rw [nI_1]
    refine g_put (k := 4) (i := i) (ref := "java/util/ArrayList") C (by exact rfl) (by exact l4t) rfl rfl inGJx4a65c tyJx4a65c tyJx4a65c_ok nmJx4a65c 2 (by decide) gw_61 (fun _ h => h) rfl (tyJx4a65c_ok 2 (by decide)) rfl rfl (by simp [fvs]) (by simp [fvs, up1]) dJx4a65c_add_72be8_19 ?_
    refine g_widen (k := 1) (n := (rN σ 5 i + k)) (by omega) (by omega) ?_
    exact g_vret C hr hz ⟨rfl, rfl, fun _ => rfl, fun _ => rfl⟩ (⟨q, rfl⟩) (fun j x h => by simp at h) dJx4a65c_add_72be8_22
set_option maxHeartbeats 4000000 in
set_option maxRecDepth 100000 in
theorem k_Jx4a65c_add_72be8_0 (l : Launch) (B : Nat × (Nat → Nat)) (σ : RS) (i v : Nat) (l4 : live σ 4 i) (hle : live σ (eK 5 i) v) (h5 : i < rC σ 5) (h0 : rN σ 5 i = 0) (l31 : live σ 31 0) (h31 : rN σ 31 0 = 0) (hs2 : rM σ 4 i 2 = nI 0) : ∀ D E sz, Met l yJx4a65c_add_72be8 gwJx4a65c_add_72be8 ({ frames := 3, cells := 1, slots := 10, locals := 120 } : Room) (cPe D E sz B σ [] [] [.ref (rA σ 4 i), .ref (rA σ (eK 5 i) v), .ref (rA σ 31 0), .int (nI 0)]) (cQ D E sz σ [] (pV (fun u => ∃ q, u = (sM (sP (sL σ i (fun _ => 0) 10 q) 5 i 0 (v + 1)) 4 i 2 (nI (0 + 1)), [])))) (1) (10) (Aof σ [] sz) := by
  intro D E sz
  refine g_ofe (cc := cJx4a65c_add_72be8) (maxL := 4) (ret := none) (own := "java/util/ArrayList") (by decide) rfl rfl (Nat.le_of_ble_eq_true rfl) ?_
  intro p e s m args below meth c C hr hin hz ha hwr hEv
  refine g_iload_n C dJx4a65c_add_72be8_0 rfl 3 rfl ?_
  refine g_aload_n C dJx4a65c_add_72be8_1 rfl 2 rfl ?_
  refine g_alen (k := 31) (i := 0) C (by exact rfl) (by exact l31) (by decide) rfl dJx4a65c_add_72be8_2 ?_
  rw [h31]
  refine g_icmp_ne (tgt := 11) C dJx4a65c_add_72be8_3 (by decide) (fun c3 => ?_) (fun c3 => ?_)
  · exact absurd c3 (fun h => h rfl)
  · skip
    refine g_aload_n C dJx4a65c_add_72be8_6 rfl 0 rfl ?_
    refine g_cVqe (n := 0) (exc := []) (exr := []) C hEv ⟨rfl, rfl⟩ [] _ rfl rfl [] [] rfl rfl rfl rfl (fun _ h => absurd h (by simp)) (fun _ h => absurd h (by simp)) (fun _ h => absurd h (by simp)) (fun sz => k_Jx4a65c_grow_d5877_0 l B σ i l4 h5 h0 l31 h31 hs2 D E sz) rfl gw_362 gw_5 gw_359 gw_361 gs_4 ⟨by decide +kernel, by decide +kernel, by decide +kernel⟩ ⟨rfl, rfl⟩ ⟨Nat.le_of_ble_eq_true rfl, Nat.le_of_ble_eq_true rfl⟩ (rcvT (by exact l4) rfl rfl rfl) (Nat.le_of_ble_eq_true rfl) dJx4a65c_add_72be8_7 ⟨by decide, by decide⟩ (fun r u hp hx => ?_)
    obtain ⟨q, rfl, rfl⟩ := hp
    try dsimp only [List.append_nil]
    have l4t : live (sL σ i (fun _ => 0) 10 q) 4 i := sL_l _ _ _ _ (by decide) l4
    have l5t : live (sL σ i (fun _ => 0) 10 q) 5 i := sL_l5 _ _ h5 (by omega)
    have hlet : live (sL σ i (fun _ => 0) 10 q) (eK 5 i) v := sL_l _ _ _ _ (eK5 i) hle
    have hqt : rA (sL σ i (fun _ => 0) 10 q) 5 i = q := up2_s (rA σ) 5 i q
    have hNt : rN (sL σ i (fun _ => 0) 10 q) 5 i = 10 := sL_N _ _ _ _ _
    refine g_widen (k := 1) (n := 10) (by omega) (by omega) ?_
    refine g_astore_n (lv' := [(2, .ref q), (0, .ref (rA σ 4 i)), (1, .ref (rA σ (eK 5 i) v)), (3, .int (nI 0))]) C dJx4a65c_add_72be8_10 rfl (by decide) rfl ?_
    refine g_aload_n C dJx4a65c_add_72be8_11 rfl 0 rfl ?_
    refine g_iload_n C dJx4a65c_add_72be8_12 rfl 3 rfl ?_
    refine g_aload_n C dJx4a65c_add_72be8_13 rfl 2 rfl ?_
    refine g_ast5 (i := i) (v := v) C hEv (by exact hqt) (by exact l5t) (by exact vp_in_nI (show 0 < rN (sL σ i (fun _ => 0) 10 q) 5 i by rw [hNt]; omega) (by omega)) (by exact sL_A _ _ _ _ _ _) (by exact hlet) dJx4a65c_add_72be8_14 ?_
    rw [nI_clamp (by omega)]
    refine g_aload_n C dJx4a65c_add_72be8_15 rfl 1 rfl ?_
    refine g_iload_n C dJx4a65c_add_72be8_16 rfl 3 rfl ?_
    refine g_iconst (v := 1) C dJx4a65c_add_72be8_17 (by decide) ?_
    refine g_iadd C dJx4a65c_add_72be8_18 ?_
    rw [nI_1]
    refine g_put (k := 4) (i := i) (ref := "java/util/ArrayList") C (by exact rfl) (by exact l4t) rfl rfl inGJx4a65c tyJx4a65c tyJx4a65c_ok nmJx4a65c 2 (by decide) gw_61 (fun _ h => h) rfl (tyJx4a65c_ok 2 (by decide)) rfl rfl (by simp [fvs]) (by simp [fvs, up1]) dJx4a65c_add_72be8_19 ?_
    refine g_widen (k := 1) (n := 10) (by omega) (by omega) ?_
    exact g_vret C hr hz ⟨rfl, rfl, fun _ => rfl, fun _ => rfl⟩ (⟨q, rfl⟩) (fun j x h => by simp at h) dJx4a65c_add_72be8_22
