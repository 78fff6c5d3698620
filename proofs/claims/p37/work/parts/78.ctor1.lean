set_option maxHeartbeats 4000000 in
set_option maxRecDepth 100000 in
theorem k_acl (l : Launch) (σ : RS) (q0 : Nat) : ∀ D E sz, Met l yJxa1e45_init_da8c8 gwJxa1e45_init_da8c8 ({ frames := 1, cells := 0, slots := 0, locals := 13 } : Room) (cP D E sz σ [(q0, .inr (2, [.int 0, .null, .int 0]))] [.ref q0]) (cQ D E sz σ [q0] (pV (fun u => u = (σ, [(q0, .inr (2, [.int 0, .null, .int 0]))])))) (0) (0) (Aof σ [q0] sz) := by
  intro D E sz
  refine g_of (cc := cJxa1e45_init_da8c8) (maxL := 1) (ret := none) (own := "java/util/AbstractCollection") (by decide) rfl rfl (Nat.le_of_ble_eq_true rfl) ?_
  intro p e s m args below meth c C hr hin hz ha hwr
  refine g_lv (lv' := [(0, .ref q0)]) [0] rfl ?_
  refine g_aload_n C dJxa1e45_init_da8c8_0 rfl 0 rfl ?_
  refine g_objInit C gw_57 gw_38 gw_39 (Nat.le_of_ble_eq_true rfl) (Nat.le_of_ble_eq_true rfl) dJxa1e45_init_da8c8_1 ?_
  exact g_vret C hr hz (stq_rfl _) rfl (fun j x h => by match j, h with | 0, h => cases h; exact Or.inl (List.mem_cons_self ..)) dJxa1e45_init_da8c8_4
set_option maxHeartbeats 4000000 in
set_option maxRecDepth 100000 in
theorem k_ali (l : Launch) (σ : RS) (q0 : Nat) : ∀ D E sz, Met l yJxc12de_init_da8c8 gwJxc12de_init_da8c8 ({ frames := 2, cells := 0, slots := 0, locals := 40 } : Room) (cP D E sz σ [(q0, .inr (2, [.int 0, .null, .int 0]))] [.ref q0]) (cQ D E sz σ [q0] (pV (fun u => u = (σ, [(q0, .inr (2, [.int 0, .null, .int 0]))])))) (0) (0) (Aof σ [q0] sz) := by
  intro D E sz
  refine g_of (cc := cJxc12de_init_da8c8) (maxL := 1) (ret := none) (own := "java/util/AbstractList") (by decide) rfl rfl (Nat.le_of_ble_eq_true rfl) ?_
  intro p e s m args below meth c C hr hin hz ha hwr
  refine g_lv (lv' := [(0, .ref q0)]) [0] rfl ?_
  refine g_aload_n C dJxc12de_init_da8c8_0 rfl 0 rfl ?_
  refine g_cI (n := 0) (exc := [(q0, .inr (2, [.int 0, .null, .int 0]))]) (exr := []) C [] _ rfl rfl [0] [] rfl rfl rfl rfl (by decide) (fun q h => by simp at h; exact ⟨0, _, by rw [h]; rfl⟩) (fun q h => by simp at h; rw [h]; exact (hwr _ (List.mem_cons_self ..))) (fun sz => k_acl l σ q0 D E sz) rfl gw_56 gw_3 gw_54 gw_55 rfl ⟨by decide +kernel, by decide +kernel, by decide +kernel⟩ ⟨rfl, rfl⟩ ⟨Nat.le_of_ble_eq_true rfl, Nat.le_of_ble_eq_true rfl⟩ (Nat.le_of_ble_eq_true rfl) dJxc12de_init_da8c8_1 ⟨by decide, by decide⟩ (fun u hp hx => ?_)
  obtain rfl := hp
  refine g_ex (ex' := [(q0, .inr (2, [.int 0, .null, .int 0]))]) [0] rfl rfl ?_
  refine g_aload_n C dJxc12de_init_da8c8_4 rfl 0 rfl ?_
  refine g_iconst (v := 0) C dJxc12de_init_da8c8_5 (by decide) ?_
  refine g_putL (ref := "java/util/AbstractList") C 0 rfl (hwr _ (List.mem_cons_self ..)) rfl inGJx4a65c tyJx4a65c tyJx4a65c_ok nmJx4a65c 0 (by decide) gw_62 (fun _ h => h) rfl (tyJx4a65c_ok 0 (by decide)) rfl rfl (by simp) (ex' := [(q0, .inr (2, [.int 0, .null, .int 0]))]) rfl dJxc12de_init_da8c8_6 ?_
  exact g_vret C hr hz (stq_rfl _) rfl (fun j x h => by match j, h with | 0, h => cases h; exact Or.inl (List.mem_cons_self ..)) dJxc12de_init_da8c8_9
set_option maxHeartbeats 4000000 in
set_option maxRecDepth 100000 in
theorem k_arl (l : Launch) (B : Nat × (Nat → Nat)) (σ : RS) (q0 : Nat) : ∀ D E sz, Met l yJx4a65c_init_da8c8 gwJx4a65c_init_da8c8 ({ frames := 3, cells := 0, slots := 0, locals := 80 } : Room) (cPe D E sz B σ [(q0, .inr (2, [.int 0, .null, .int 0]))] [q0] [.ref q0]) (cQ D E sz σ [q0] (pV (fun u => u = (σ, [(q0, .inr (2, [.int 0, .ref (rA σ 31 0), .int 0]))])))) (0) (0) (Aof σ [q0] sz) := by
  intro D E sz
  refine g_ofe (cc := cJx4a65c_init_da8c8) (maxL := 1) (ret := none) (own := "java/util/ArrayList") (by decide) rfl rfl (Nat.le_of_ble_eq_true rfl) ?_
  intro p e s m args below meth c C hr hin hz ha hwr hEv
  refine g_lv (lv' := [(0, .ref q0)]) [0] rfl ?_
  refine g_aload_n C dJx4a65c_init_da8c8_0 rfl 0 rfl ?_
  refine g_cI (n := 0) (exc := [(q0, .inr (2, [.int 0, .null, .int 0]))]) (exr := []) C [] _ rfl rfl [0] [] rfl rfl rfl rfl (by decide) (fun q h => by simp at h; exact ⟨0, _, by rw [h]; rfl⟩) (fun q h => by simp at h; rw [h]; exact (hwr _ (List.mem_cons_self ..))) (fun sz => k_ali l σ q0 D E sz) rfl gw_53 gw_4 gw_51 gw_52 rfl ⟨by decide +kernel, by decide +kernel, by decide +kernel⟩ ⟨rfl, rfl⟩ ⟨Nat.le_of_ble_eq_true rfl, Nat.le_of_ble_eq_true rfl⟩ (Nat.le_of_ble_eq_true rfl) dJx4a65c_init_da8c8_1 ⟨by decide, by decide⟩ (fun u hp hx => ?_)
  obtain rfl := hp
  refine g_ex (ex' := [(q0, .inr (2, [.int 0, .null, .int 0]))]) [0] rfl rfl ?_
  refine g_aload_n C dJx4a65c_init_da8c8_4 rfl 0 rfl ?_
  refine g_getsE C hEv gw_58 dJx4a65c_init_da8c8_5 ?_
  refine g_putL (ref := "java/util/ArrayList") C 0 rfl (hwr _ (List.mem_cons_self ..)) rfl inGJx4a65c tyJx4a65c tyJx4a65c_ok nmJx4a65c 1 (by decide) gw_60 (fun _ h => h) rfl (tyJx4a65c_ok 1 (by decide)) rfl rfl (by simp) (ex' := [(q0, .inr (2, [.int 0, .ref (rA σ 31 0), .int 0]))]) rfl dJx4a65c_init_da8c8_8 ?_
  exact g_vret C hr hz (stq_rfl _) rfl (fun j x h => by match j, h with | 0, h => cases h; exact Or.inl (List.mem_cons_self ..)) dJx4a65c_init_da8c8_11
set_option maxHeartbeats 4000000 in
set_option maxRecDepth 100000 in
theorem k_wayi (l : Launch) (σ : RS) (q0 : Nat) : ∀ D E sz, Met l yX7_init gwX7_init ({ frames := 1, cells := 3, slots := 96, locals := 13 } : Room) (cP D E sz σ [(q0, .inr (10, [.null, .null, .null, .int 0, .int 0]))] [.ref q0]) (cQ D E sz σ [q0] (pV (fun u => ∃ q1 q2 q3, u = (σ, [(q0, .inr (10, [.ref q1, .ref q2, .ref q3, .int 0, .int 0])), (q1, .inl (E 0, 32, .inl (fun _ => 0))), (q2, .inl (E 0, 32, .inl (fun _ => 0))), (q3, .inl (E 1, 32, .inl (fun _ => 0)))])))) (3) (96) (Aof σ [q0] sz) := by
  intro D E sz
  refine g_of (cc := cX7_init) (maxL := 1) (ret := none) (own := "TradeLine$Way") (by decide) rfl rfl (Nat.le_of_ble_eq_true rfl) ?_
  intro p e s m args below meth c C hr hin hz ha hwr
  refine g_lv (lv' := [(0, .ref q0)]) [0] rfl ?_
  refine g_aload_n C dX7_init_0 rfl 0 rfl ?_
  refine g_objInit C gw_77 gw_38 gw_39 (Nat.le_of_ble_eq_true rfl) (Nat.le_of_ble_eq_true rfl) dX7_init_1 ?_
  refine g_aload_n C dX7_init_4 rfl 0 rfl ?_
  refine g_bipush (v := 32) C dX7_init_5 (by decide) ?_
  refine g_newa (atype := .int) (ty := .int) (t := 0) (N' := 32) (a0 := (32, .inl (fun _ => 0))) C gw_95 rfl rfl (fun _ h => by cases h) (fun _ => rfl) (by decide) (by decide) (by decide) (by decide) (by decide) dX7_init_7 (fun q1 hq1 q1s => ?_)
  refine g_putL (ref := "TradeLine$Way") C 0 rfl (hwr _ (List.mem_cons_self ..)) rfl inGX7 tyX7 tyX7_ok nmX7 0 (by decide) gw_78 (fun _ h => h) rfl (tyX7_ok 0 (by decide)) rfl rfl (by simp) (ex' := [(q0, .inr (10, [.ref q1, .null, .null, .int 0, .int 0])), (q1, .inl (E 0, 32, .inl (fun _ => 0)))]) rfl dX7_init_9 ?_
  refine g_aload_n C dX7_init_12 rfl 0 rfl ?_
  refine g_bipush (v := 32) C dX7_init_13 (by decide) ?_
  refine g_newa (atype := .int) (ty := .int) (t := 0) (N' := 32) (a0 := (32, .inl (fun _ => 0))) C gw_95 rfl rfl (fun _ h => by cases h) (fun _ => rfl) (by decide) (by decide) (by decide) (by decide) (by decide) dX7_init_15 (fun q2 hq2 q2s => ?_)
  refine g_putL (ref := "TradeLine$Way") C 0 rfl (hwr _ (List.mem_cons_self ..)) rfl inGX7 tyX7 tyX7_ok nmX7 1 (by decide) gw_79 (fun _ h => h) rfl (tyX7_ok 1 (by decide)) rfl rfl (by simp) (ex' := [(q0, .inr (10, [.ref q1, .ref q2, .null, .int 0, .int 0])), (q1, .inl (E 0, 32, .inl (fun _ => 0))), (q2, .inl (E 0, 32, .inl (fun _ => 0)))]) rfl dX7_init_17 ?_
  refine g_aload_n C dX7_init_20 rfl 0 rfl ?_
  refine g_bipush (v := 32) C dX7_init_21 (by decide) ?_
  refine g_newa (atype := .boolean) (ty := .boolean) (t := 1) (N' := 32) (a0 := (32, .inl (fun _ => 0))) C gw_96 rfl rfl (fun _ h => by cases h) (fun _ => rfl) (by decide) (by decide) (by decide) (by decide) (by decide) dX7_init_23 (fun q3 hq3 q3s => ?_)
  refine g_putL (ref := "TradeLine$Way") C 0 rfl (hwr _ (List.mem_cons_self ..)) rfl inGX7 tyX7 tyX7_ok nmX7 2 (by decide) gw_80 (fun _ h => h) rfl (tyX7_ok 2 (by decide)) rfl rfl (by simp) (ex' := [(q0, .inr (10, [.ref q1, .ref q2, .ref q3, .int 0, .int 0])), (q1, .inl (E 0, 32, .inl (fun _ => 0))), (q2, .inl (E 0, 32, .inl (fun _ => 0))), (q3, .inl (E 1, 32, .inl (fun _ => 0)))]) rfl dX7_init_25 ?_
  exact g_vret C hr hz (stq_rfl _) ⟨q1, q2, q3, rfl⟩ (fun j x h => by match j, h with | 0, h => cases h; exact Or.inl (List.mem_cons_self ..) | 1, h => cases h; exact Or.inr q1s | 2, h => cases h; exact Or.inr q2s | 3, h => cases h; exact Or.inr q3s) dX7_init_28
set_option maxHeartbeats 4000000 in
set_option maxRecDepth 100000 in
theorem k_backi (l : Launch) (σ : RS) (q0 : Nat) : ∀ D E sz, Met l yX0_init gwX0_init ({ frames := 1, cells := 1, slots := 32, locals := 13 } : Room) (cP D E sz σ [(q0, .inr (3, [.null, .int 0]))] [.ref q0]) (cQ D E sz σ [q0] (pV (fun u => ∃ q1, u = (σ, [(q0, .inr (3, [.ref q1, .int 0])), (q1, .inl (E 0, 32, .inl (fun _ => 0)))])))) (1) (32) (Aof σ [q0] sz) := by
  intro D E sz
  refine g_of (cc := cX0_init) (maxL := 1) (ret := none) (own := "TradeLine$Back") (by decide) rfl rfl (Nat.le_of_ble_eq_true rfl) ?_
  intro p e s m args below meth c C hr hin hz ha hwr
  refine g_lv (lv' := [(0, .ref q0)]) [0] rfl ?_
  refine g_aload_n C dX0_init_0 rfl 0 rfl ?_
  refine g_objInit C gw_102 gw_38 gw_39 (Nat.le_of_ble_eq_true rfl) (Nat.le_of_ble_eq_true rfl) dX0_init_1 ?_
  refine g_aload_n C dX0_init_4 rfl 0 rfl ?_
  refine g_bipush (v := 32) C dX0_init_5 (by decide) ?_
  refine g_newa (atype := .int) (ty := .int) (t := 0) (N' := 32) (a0 := (32, .inl (fun _ => 0))) C gw_95 rfl rfl (fun _ h => by cases h) (fun _ => rfl) (by decide) (by decide) (by decide) (by decide) (by decide) dX0_init_7 (fun q1 hq1 q1s => ?_)
  refine g_putL (ref := "TradeLine$Back") C 0 rfl (hwr _ (List.mem_cons_self ..)) rfl inGX0 tyX0 tyX0_ok nmX0 0 (by decide) gw_103 (fun _ h => h) rfl (tyX0_ok 0 (by decide)) rfl rfl (by simp) (ex' := [(q0, .inr (3, [.ref q1, .int 0])), (q1, .inl (E 0, 32, .inl (fun _ => 0)))]) rfl dX0_init_9 ?_
  exact g_vret C hr hz (stq_rfl _) ⟨q1, rfl⟩ (fun j x h => by match j, h with | 0, h => cases h; exact Or.inl (List.mem_cons_self ..) | 1, h => cases h; exact Or.inr q1s) dX0_init_12
set_option maxHeartbeats 4000000 in
set_option maxRecDepth 100000 in
theorem k_quoi (l : Launch) (σ : RS) (q0 : Nat) (venue : Int32) : ∀ D E sz, Met l yX6_init gwX6_init ({ frames := 1, cells := 0, slots := 0, locals := 13 } : Room) (cP D E sz σ [(q0, .inr (9, [.int 0, .int 0, .int 0]))] [.ref q0, .int venue]) (cQ D E sz σ [q0] (pV (fun u => u = (σ, [(q0, .inr (9, [.int venue, .int 0, .int 0]))])))) (0) (0) (Aof σ [q0] sz) := by
  intro D E sz
  refine g_of (cc := cX6_init) (maxL := 2) (ret := none) (own := "TradeLine$Quote") (by decide) rfl rfl (Nat.le_of_ble_eq_true rfl) ?_
  intro p e s m args below meth c C hr hin hz ha hwr
  refine g_lv (lv' := [(0, .ref q0), (1, .int venue)]) [0, 1] rfl ?_
  refine g_aload_n C dX6_init_0 rfl 0 rfl ?_
  refine g_objInit C gw_153 gw_38 gw_39 (Nat.le_of_ble_eq_true rfl) (Nat.le_of_ble_eq_true rfl) dX6_init_1 ?_
  refine g_aload_n C dX6_init_4 rfl 0 rfl ?_
  refine g_iload_n C dX6_init_5 rfl 1 rfl ?_
  refine g_putLF (ref := "TradeLine$Quote") C 0 rfl (hwr _ (List.mem_cons_self ..)) rfl inGX6 tyX6 tyX6_ok nmX6 0 (by decide) gw_154 (fun _ h => h) rfl hin rfl (tyX6_ok 0 (by decide)) rfl rfl (by simp) (ex' := [(q0, .inr (9, [.int venue, .int 0, .int 0]))]) rfl dX6_init_6 ?_
  exact g_vret C hr hz (stq_rfl _) rfl (fun j x h => by match j, h with | 0, h => cases h; exact Or.inl (List.mem_cons_self ..)) dX6_init_9
set_option maxHeartbeats 4000000 in
set_option maxRecDepth 100000 in
theorem k_ptyi (l : Launch) (B : Nat × (Nat → Nat)) (σ : RS) (q0 : Nat) : ∀ D E sz, Met l yX5_init gwX5_init ({ frames := 4, cells := 7, slots := 138, locals := 120 } : Room) (cPe D E sz B σ [(q0, .inr (8, [.null, .null, .null, .int 0, .int 0, .int 0, .int 0, .int 0, .int 0]))] [q0] [.ref q0]) (cQ D E sz σ [q0] (pV (fun u => ∃ q1 q2 q3 q4 q5 q6 q7, u = (σ, [(q0, .inr (8, [.ref q1, .ref q2, .ref q6, .int 0, .int 1, .int 0, .int 0, .int 0, .int 0])), (q1, .inr (2, [.int 0, .ref (rA σ 31 0), .int 0])), (q2, .inr (10, [.ref q3, .ref q4, .ref q5, .int 0, .int 0])), (q3, .inl (E 0, 32, .inl (fun _ => 0))), (q4, .inl (E 0, 32, .inl (fun _ => 0))), (q5, .inl (E 1, 32, .inl (fun _ => 0))), (q6, .inr (3, [.ref q7, .int 0])), (q7, .inl (E 0, 32, .inl (fun _ => 0)))])))) (7) (138) (Aof σ [q0] sz) := by
  intro D E sz
  refine g_ofe (cc := cX5_init) (maxL := 1) (ret := none) (own := "TradeLine$Party") (by decide) rfl rfl (Nat.le_of_ble_eq_true rfl) ?_
  intro p e s m args below meth c C hr hin hz ha hwr hEv
  refine g_lv (lv' := [(0, .ref q0)]) [0] rfl ?_
  refine g_aload_n C dX5_init_0 rfl 0 rfl ?_
  refine g_objInit C gw_45 gw_38 gw_39 (Nat.le_of_ble_eq_true rfl) (Nat.le_of_ble_eq_true rfl) dX5_init_1 ?_
  refine g_aload_n C dX5_init_4 rfl 0 rfl ?_
  refine g_new (ci := 2) C inGJx4a65c tyJx4a65c tyJx4a65c_ok gw_46 gw_47 gw_5 rfl (fs := [.int 0, .null, .int 0]) (fun j hj => match j, hj with | 0, _ => rfl | 1, _ => rfl | 2, _ => rfl) (by decide) (by decide) dX5_init_5 (fun q1 hq1 q1s => ?_)
  refine g_dup C dX5_init_8 rfl ?_
  refine g_cIe (n := 0) (exc := [(q1, .inr (2, [.int 0, .null, .int 0]))]) (exr := [(q0, .inr (8, [.null, .null, .null, .int 0, .int 0, .int 0, .int 0, .int 0, .int 0]))]) C hEv ⟨rfl, rfl⟩ [] _ rfl rfl [1] [0] rfl rfl rfl rfl (by decide) (fun q h => by simp at h; exact ⟨0, _, by rw [h]; rfl⟩) (fun q h => by simp at h; rw [h]; exact hq1) (fun sz => k_arl l B σ q1 D E sz) rfl gw_50 gw_5 gw_48 gw_49 rfl ⟨by decide +kernel, by decide +kernel, by decide +kernel⟩ ⟨rfl, rfl⟩ ⟨Nat.le_of_ble_eq_true rfl, Nat.le_of_ble_eq_true rfl⟩ (Nat.le_of_ble_eq_true rfl) dX5_init_9 ⟨by decide, by decide⟩ (fun u hp hx => ?_)
  obtain rfl := hp
  refine g_ex (ex' := [(q0, .inr (8, [.null, .null, .null, .int 0, .int 0, .int 0, .int 0, .int 0, .int 0])), (q1, .inr (2, [.int 0, .ref (rA σ 31 0), .int 0]))]) [1, 0] rfl rfl ?_
  refine g_putLF (ref := "TradeLine$Party") C 0 rfl (hwr _ (List.mem_cons_self ..)) rfl inGX5 tyX5 tyX5_ok nmX5 0 (by decide) gw_111 (fun _ h => h) rfl hin rfl (tyX5_ok 0 (by decide)) rfl rfl (by simp) (ex' := [(q0, .inr (8, [.ref q1, .null, .null, .int 0, .int 0, .int 0, .int 0, .int 0, .int 0])), (q1, .inr (2, [.int 0, .ref (rA σ 31 0), .int 0]))]) rfl dX5_init_12 ?_
  refine g_aload_n C dX5_init_15 rfl 0 rfl ?_
  refine g_new (ci := 10) C inGX7 tyX7 tyX7_ok gw_72 gw_73 gw_6 rfl (fs := [.null, .null, .null, .int 0, .int 0]) (fun j hj => match j, hj with | 0, _ => rfl | 1, _ => rfl | 2, _ => rfl | 3, _ => rfl | 4, _ => rfl) (by decide) (by decide) dX5_init_16 (fun q2 hq2 q2s => ?_)
  refine g_dup C dX5_init_19 rfl ?_
  refine g_cIN (n := 0) (exc := [(q2, .inr (10, [.null, .null, .null, .int 0, .int 0]))]) (exr := [(q0, .inr (8, [.ref q1, .null, .null, .int 0, .int 0, .int 0, .int 0, .int 0, .int 0])), (q1, .inr (2, [.int 0, .ref (rA σ 31 0), .int 0]))]) C [] _ rfl rfl [2] [0, 1] rfl rfl rfl rfl (by decide) (fun q h => by simp at h; exact ⟨0, _, by rw [h]; rfl⟩) (fun q h => by simp at h; rw [h]; exact hq2) (fun sz => k_wayi l σ q2 D E sz) rfl gw_76 gw_6 (hEv.2.2.2.2.2.2.2.1 _ (List.mem_of_getElem? (i := 1) rfl)) gw_75 rfl ⟨by decide +kernel, by decide +kernel, by decide +kernel⟩ ⟨rfl, rfl⟩ ⟨Nat.le_of_ble_eq_true rfl, Nat.le_of_ble_eq_true rfl⟩ (Nat.le_of_ble_eq_true rfl) dX5_init_20 ⟨by decide, by decide⟩ (fun u hp hx => ?_)
  obtain ⟨q3, q4, q5, rfl⟩ := hp
  have hq3 := (hx 1 _ rfl).1
  have q3s : s.heap.size ≤ q3 := (hx 1 _ rfl).2.elim (fun h => by simp at h; rw [h]; exact q2s) id
  have hq4 := (hx 2 _ rfl).1
  have q4s : s.heap.size ≤ q4 := (hx 2 _ rfl).2.elim (fun h => by simp at h; rw [h]; exact q2s) id
  have hq5 := (hx 3 _ rfl).1
  have q5s : s.heap.size ≤ q5 := (hx 3 _ rfl).2.elim (fun h => by simp at h; rw [h]; exact q2s) id
  refine g_ex (ex' := [(q0, .inr (8, [.ref q1, .null, .null, .int 0, .int 0, .int 0, .int 0, .int 0, .int 0])), (q1, .inr (2, [.int 0, .ref (rA σ 31 0), .int 0])), (q2, .inr (10, [.ref q3, .ref q4, .ref q5, .int 0, .int 0])), (q3, .inl (E 0, 32, .inl (fun _ => 0))), (q4, .inl (E 0, 32, .inl (fun _ => 0))), (q5, .inl (E 1, 32, .inl (fun _ => 0)))]) [4, 5, 0, 1, 2, 3] rfl rfl ?_
  refine g_putLF (ref := "TradeLine$Party") C 0 rfl (hwr _ (List.mem_cons_self ..)) rfl inGX5 tyX5 tyX5_ok nmX5 1 (by decide) gw_113 (fun _ h => h) rfl hin rfl (tyX5_ok 1 (by decide)) rfl rfl (by simp) (ex' := [(q0, .inr (8, [.ref q1, .ref q2, .null, .int 0, .int 0, .int 0, .int 0, .int 0, .int 0])), (q1, .inr (2, [.int 0, .ref (rA σ 31 0), .int 0])), (q2, .inr (10, [.ref q3, .ref q4, .ref q5, .int 0, .int 0])), (q3, .inl (E 0, 32, .inl (fun _ => 0))), (q4, .inl (E 0, 32, .inl (fun _ => 0))), (q5, .inl (E 1, 32, .inl (fun _ => 0)))]) rfl dX5_init_23 ?_
  refine g_aload_n C dX5_init_26 rfl 0 rfl ?_
  refine g_new (ci := 3) C inGX0 tyX0 tyX0_ok gw_97 gw_98 gw_7 rfl (fs := [.null, .int 0]) (fun j hj => match j, hj with | 0, _ => rfl | 1, _ => rfl) (by decide) (by decide) dX5_init_27 (fun q6 hq6 q6s => ?_)
  refine g_dup C dX5_init_30 rfl ?_
  refine g_cIN (n := 0) (exc := [(q6, .inr (3, [.null, .int 0]))]) (exr := [(q0, .inr (8, [.ref q1, .ref q2, .null, .int 0, .int 0, .int 0, .int 0, .int 0, .int 0])), (q1, .inr (2, [.int 0, .ref (rA σ 31 0), .int 0])), (q2, .inr (10, [.ref q3, .ref q4, .ref q5, .int 0, .int 0])), (q3, .inl (E 0, 32, .inl (fun _ => 0))), (q4, .inl (E 0, 32, .inl (fun _ => 0))), (q5, .inl (E 1, 32, .inl (fun _ => 0)))]) C [] _ rfl rfl [6] [0, 1, 2, 3, 4, 5] rfl rfl rfl rfl (by decide) (fun q h => by simp at h; exact ⟨0, _, by rw [h]; rfl⟩) (fun q h => by simp at h; rw [h]; exact hq6) (fun sz => k_backi l σ q6 D E sz) rfl gw_101 gw_7 (hEv.2.2.2.2.2.2.2.1 _ (List.mem_of_getElem? (i := 2) rfl)) gw_100 rfl ⟨by decide +kernel, by decide +kernel, by decide +kernel⟩ ⟨rfl, rfl⟩ ⟨Nat.le_of_ble_eq_true rfl, Nat.le_of_ble_eq_true rfl⟩ (Nat.le_of_ble_eq_true rfl) dX5_init_31 ⟨by decide, by decide⟩ (fun u hp hx => ?_)
  obtain ⟨q7, rfl⟩ := hp
  have hq7 := (hx 1 _ rfl).1
  have q7s : s.heap.size ≤ q7 := (hx 1 _ rfl).2.elim (fun h => by simp at h; rw [h]; exact q6s) id
  refine g_ex (ex' := [(q0, .inr (8, [.ref q1, .ref q2, .null, .int 0, .int 0, .int 0, .int 0, .int 0, .int 0])), (q1, .inr (2, [.int 0, .ref (rA σ 31 0), .int 0])), (q2, .inr (10, [.ref q3, .ref q4, .ref q5, .int 0, .int 0])), (q3, .inl (E 0, 32, .inl (fun _ => 0))), (q4, .inl (E 0, 32, .inl (fun _ => 0))), (q5, .inl (E 1, 32, .inl (fun _ => 0))), (q6, .inr (3, [.ref q7, .int 0])), (q7, .inl (E 0, 32, .inl (fun _ => 0)))]) [2, 3, 4, 5, 6, 7, 0, 1] rfl rfl ?_
  refine g_putLF (ref := "TradeLine$Party") C 0 rfl (hwr _ (List.mem_cons_self ..)) rfl inGX5 tyX5 tyX5_ok nmX5 2 (by decide) gw_115 (fun _ h => h) rfl hin rfl (tyX5_ok 2 (by decide)) rfl rfl (by simp) (ex' := [(q0, .inr (8, [.ref q1, .ref q2, .ref q6, .int 0, .int 0, .int 0, .int 0, .int 0, .int 0])), (q1, .inr (2, [.int 0, .ref (rA σ 31 0), .int 0])), (q2, .inr (10, [.ref q3, .ref q4, .ref q5, .int 0, .int 0])), (q3, .inl (E 0, 32, .inl (fun _ => 0))), (q4, .inl (E 0, 32, .inl (fun _ => 0))), (q5, .inl (E 1, 32, .inl (fun _ => 0))), (q6, .inr (3, [.ref q7, .int 0])), (q7, .inl (E 0, 32, .inl (fun _ => 0)))]) rfl dX5_init_34 ?_
  refine g_aload_n C dX5_init_37 rfl 0 rfl ?_
  refine g_iconst (v := 1) C dX5_init_38 (by decide) ?_
  refine g_putL (ref := "TradeLine$Party") C 0 rfl (hwr _ (List.mem_cons_self ..)) rfl inGX5 tyX5 tyX5_ok nmX5 4 (by decide) gw_119 (fun _ h => h) rfl (tyX5_ok 4 (by decide)) rfl rfl (by simp) (ex' := [(q0, .inr (8, [.ref q1, .ref q2, .ref q6, .int 0, .int 1, .int 0, .int 0, .int 0, .int 0])), (q1, .inr (2, [.int 0, .ref (rA σ 31 0), .int 0])), (q2, .inr (10, [.ref q3, .ref q4, .ref q5, .int 0, .int 0])), (q3, .inl (E 0, 32, .inl (fun _ => 0))), (q4, .inl (E 0, 32, .inl (fun _ => 0))), (q5, .inl (E 1, 32, .inl (fun _ => 0))), (q6, .inr (3, [.ref q7, .int 0])), (q7, .inl (E 0, 32, .inl (fun _ => 0)))]) rfl dX5_init_39 ?_
  exact g_vret C hr hz (stq_rfl _) ⟨q1, q2, q3, q4, q5, q6, q7, rfl⟩ (fun j x h => by match j, h with | 0, h => cases h; exact Or.inl (List.mem_cons_self ..) | 1, h => cases h; exact Or.inr q1s | 2, h => cases h; exact Or.inr q2s | 3, h => cases h; exact Or.inr q3s | 4, h => cases h; exact Or.inr q4s | 5, h => cases h; exact Or.inr q5s | 6, h => cases h; exact Or.inr q6s | 7, h => cases h; exact Or.inr q7s) dX5_init_42
