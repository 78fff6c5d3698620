noncomputable def f_L_low  (w : Nat) (a : AS) (x0 : Int32) (x1 : Int32)  : Option (Int32) := bif nzI x1 then some (((x0.toUInt32 >>> ((1 : Int32).toUInt32 &&& Int32.toUInt32 31)).toInt32) - ((x0.toUInt32 >>> ((1 : Int32).toUInt32 &&& Int32.toUInt32 31)).toInt32) / x1 * x1) else none
set_option maxHeartbeats 4000000 in
set_option maxRecDepth 100000 in
theorem lb_L_low_0 {p : Program} {l : Launch} {e : Env} {s : State} {m : MethodId} {args : Array Value} {below : List Frame} {meth : Method} {c : Code} {D : va_G} {E : Nat → ClassId} {sz : Nat} {M : Nat → Nat → Nat → Int32} {a : AS} {ρ : YR} {w : Nat} {r0 : Int32} (C : cx p s m args meth c D E (Aof (mx M a, ρ) [] s.heap.size) cL_low 2 "TradeLineLaw") (hr : meth.sig.returnType = (some .int)) (hz : s.heap.size = sz) (hρ : rsh ρ) {x0 : Int32} {x1 : Int32}    (h : f_L_low  w a x0 x1  = some r0) : G p l e ({ frames := 0, cells := 0, slots := 0, locals := 0 } : Room) s m args below meth c D E (Aof (mx M a, ρ) [] s.heap.size) 2 (MQ below (cQ D E sz (mx M a, ρ) [] (pI (fun r u => r = r0 ∧ u = ((mx M a, ρ), [])))) args s 0 0 (Aof (mx M a, ρ) [] s.heap.size)) (mx M a, ρ) [] 0 0 0 [(0, .int x0), (1, .int x1)] [] := by
  unfold f_L_low at h
  refine g_iload_n C dL_low_0 rfl 0 rfl ?_
  refine g_iconst (v := (1 : Int32)) C dL_low_1 (by decide) ?_
  refine g_iushr C dL_low_2 ?_
  refine g_iload_n C dL_low_3 rfl 1 rfl ?_
  obtain ⟨g1, h⟩ := of_guard h
  refine g_irem C dL_low_4 (nzI_n g1) ?_
  exact g_iret C hr rfl hz ⟨rfl, rfl, fun _ => rfl, fun _ => rfl⟩ ⟨Option.some.inj h, rfl⟩ (fun j x h => by simp at h) dL_low_5
theorem k_L_low (l : Launch) (M : Nat → Nat → Nat → Int32) (ρ : YR) (hρ : rsh ρ) (w : Nat) (a : AS) (x0 : Int32) (x1 : Int32) (r0 : Int32) (h : f_L_low w a x0 x1 = some r0) : ∀ D E sz, Met l yL_low gwL_low ({ frames := 0, cells := 0, slots := 0, locals := 0 } : Room) (cP D E sz (mx M a, ρ) [] [.int x0, .int x1]) (cQ D E sz (mx M a, ρ) [] (pI (fun r u => r = r0 ∧ u = ((mx M a, ρ), [])))) (0) (0) (Aof (mx M a, ρ) [] sz) := by
  intro D E sz
  refine g_of (cc := cL_low) (maxL := 2) (ret := (some .int)) (own := "TradeLineLaw") (by decide) rfl rfl (Nat.le_of_ble_eq_true rfl) ?_
  intro p e s m args below meth c C hr hin hz ha hwr
  refine g_lv [0, 1] rfl ?_
  exact lb_L_low_0 C hr hz hρ h
noncomputable def f_L_get  (w : Nat) (a : AS) (x0 : Nat) (x1 : Int32)  : Option (Int32) := bif lnB x0 64 then bif ixB (x1 >>> ((2 : Int32) &&& 31)) 64 then some (Int64.toInt32 (((lgA a x0 (x1 >>> ((2 : Int32) &&& 31)).toNatClampNeg) >>> (Int32.toInt64 ((16 : Int32) * (x1 &&& (3 : Int32))) &&& 63)) &&& (65535 : Int64))) else none else none
set_option maxHeartbeats 4000000 in
set_option maxRecDepth 100000 in
theorem lb_L_get_0 {p : Program} {l : Launch} {e : Env} {s : State} {m : MethodId} {args : Array Value} {below : List Frame} {meth : Method} {c : Code} {D : va_G} {E : Nat → ClassId} {sz : Nat} {M : Nat → Nat → Nat → Int32} {a : AS} {ρ : YR} {w : Nat} {r0 : Int32} (C : cx p s m args meth c D E (Aof (mx M a, ρ) [] s.heap.size) cL_get 2 "TradeLineLaw") (hr : meth.sig.returnType = (some .int)) (hz : s.heap.size = sz) (hρ : rsh ρ) {x0 : Nat} {x1 : Int32}    (h : f_L_get  w a x0 x1  = some r0) : G p l e ({ frames := 0, cells := 0, slots := 0, locals := 0 } : Room) s m args below meth c D E (Aof (mx M a, ρ) [] s.heap.size) 2 (MQ below (cQ D E sz (mx M a, ρ) [] (pI (fun r u => r = r0 ∧ u = ((mx M a, ρ), [])))) args s 0 0 (Aof (mx M a, ρ) [] s.heap.size)) (mx M a, ρ) [] 0 0 0 [(0, .ref (ρ.2.2.2 (40 + x0) 0)), (1, .int x1)] [] := by
  unfold f_L_get at h
  refine g_aload_n C dL_get_0 rfl 0 rfl ?_
  refine g_iload_n C dL_get_1 rfl 1 rfl ?_
  refine g_iconst (v := (2 : Int32)) C dL_get_2 (by decide) ?_
  refine g_ishr C dL_get_3 ?_
  obtain ⟨g1, h⟩ := of_guard h
  obtain ⟨g2, h⟩ := of_guard h
  refine q_lald C hρ (j := x0) (N := 64) g1 rfl g2 dL_get_4 ?_
  refine g_bipush (v := (16 : Int32)) C dL_get_5 (by decide) ?_
  refine g_iload_n C dL_get_7 rfl 1 rfl ?_
  refine g_iconst (v := (3 : Int32)) C dL_get_8 (by decide) ?_
  refine g_iand C dL_get_9 ?_
  refine g_imul C dL_get_10 ?_
  refine g_lshr C dL_get_11 ?_
  refine g_ldc2 (v := (65535 : Int64)) C gw_465 dL_get_12 ?_
  refine g_land C dL_get_15 ?_
  refine g_l2i C dL_get_16 ?_
  exact g_iret C hr rfl hz ⟨rfl, rfl, fun _ => rfl, fun _ => rfl⟩ ⟨Option.some.inj h, rfl⟩ (fun j x h => by simp at h) dL_get_17
theorem k_L_get (l : Launch) (M : Nat → Nat → Nat → Int32) (ρ : YR) (hρ : rsh ρ) (w : Nat) (a : AS) (x0 : Nat) (x1 : Int32) (r0 : Int32) (h : f_L_get w a x0 x1 = some r0) : ∀ D E sz, Met l yL_get gwL_get ({ frames := 0, cells := 0, slots := 0, locals := 0 } : Room) (cP D E sz (mx M a, ρ) [] [.ref (ρ.2.2.2 (40 + x0) 0), .int x1]) (cQ D E sz (mx M a, ρ) [] (pI (fun r u => r = r0 ∧ u = ((mx M a, ρ), [])))) (0) (0) (Aof (mx M a, ρ) [] sz) := by
  intro D E sz
  refine g_of (cc := cL_get) (maxL := 2) (ret := (some .int)) (own := "TradeLineLaw") (by decide) rfl rfl (Nat.le_of_ble_eq_true rfl) ?_
  intro p e s m args below meth c C hr hin hz ha hwr
  refine g_lv [0, 1] rfl ?_
  exact lb_L_get_0 C hr hz hρ h
noncomputable def f_L_set  (w : Nat) (a : AS) (x0 : Nat) (x1 : Int32) (x2 : Int32)  : Option (AS × Int32) := bif lnB x0 64 then bif ixB (x1 >>> ((2 : Int32) &&& 31)) 64 then yl (wLg a x0 (x1 >>> ((2 : Int32) &&& 31)).toNatClampNeg (((lgA a x0 (x1 >>> ((2 : Int32) &&& 31)).toNatClampNeg) &&& (((65535 : Int64) <<< (Int32.toInt64 ((16 : Int32) * (x1 &&& (3 : Int32))) &&& 63)) ^^^ (-1 : Int64))) ||| ((Int32.toInt64 x2) <<< (Int32.toInt64 ((16 : Int32) * (x1 &&& (3 : Int32))) &&& 63)))) (fun a3 => some (a3, (0 : Int32))) else none else none
set_option maxHeartbeats 4000000 in
set_option maxRecDepth 100000 in
theorem lb_L_set_0 {p : Program} {l : Launch} {e : Env} {s : State} {m : MethodId} {args : Array Value} {below : List Frame} {meth : Method} {c : Code} {D : va_G} {E : Nat → ClassId} {sz : Nat} {M : Nat → Nat → Nat → Int32} {a0 : AS} {ρ : YR} {w : Nat} {r0 : AS × Int32} (C : cx p s m args meth c D E (Aof (mx M a0, ρ) [] s.heap.size) cL_set 3 "TradeLineLaw") (hr : meth.sig.returnType = none) (hz : s.heap.size = sz) (hρ : rsh ρ) {a : AS} {x0 : Nat} {x1 : Int32} {x2 : Int32}    (h : f_L_set  w a x0 x1 x2  = some r0) : G p l e ({ frames := 0, cells := 0, slots := 0, locals := 0 } : Room) s m args below meth c D E (Aof (mx M a0, ρ) [] s.heap.size) 3 (MQ below (cQ D E sz (mx M a0, ρ) [] (pV (fun u => u = ((mx M r0.1, ρ), [])))) args s 0 0 (Aof (mx M a0, ρ) [] s.heap.size)) (mx M a, ρ) [] 0 0 0 [(0, .ref (ρ.2.2.2 (40 + x0) 0)), (1, .int x1), (2, .int x2)] [] := by
  unfold f_L_set at h
  refine g_aload_n C dL_set_0 rfl 0 rfl ?_
  refine g_iload_n C dL_set_1 rfl 1 rfl ?_
  refine g_iconst (v := (2 : Int32)) C dL_set_2 (by decide) ?_
  refine g_ishr C dL_set_3 ?_
  refine g_aload_n C dL_set_4 rfl 0 rfl ?_
  refine g_iload_n C dL_set_5 rfl 1 rfl ?_
  refine g_iconst (v := (2 : Int32)) C dL_set_6 (by decide) ?_
  refine g_ishr C dL_set_7 ?_
  obtain ⟨g1, h⟩ := of_guard h
  obtain ⟨g2, h⟩ := of_guard h
  refine q_lald C hρ (j := x0) (N := 64) g1 rfl g2 dL_set_8 ?_
  refine g_ldc2 (v := (65535 : Int64)) C gw_465 dL_set_9 ?_
  refine g_bipush (v := (16 : Int32)) C dL_set_12 (by decide) ?_
  refine g_iload_n C dL_set_14 rfl 1 rfl ?_
  refine g_iconst (v := (3 : Int32)) C dL_set_15 (by decide) ?_
  refine g_iand C dL_set_16 ?_
  refine g_imul C dL_set_17 ?_
  refine g_lshl C dL_set_18 ?_
  refine g_ldc2 (v := (-1 : Int64)) C gw_466 dL_set_19 ?_
  refine g_lxor C dL_set_22 ?_
  refine g_land C dL_set_23 ?_
  refine g_iload_n C dL_set_24 rfl 2 rfl ?_
  refine g_i2l C dL_set_25 rfl ?_
  refine g_bipush (v := (16 : Int32)) C dL_set_26 (by decide) ?_
  refine g_iload_n C dL_set_28 rfl 1 rfl ?_
  refine g_iconst (v := (3 : Int32)) C dL_set_29 (by decide) ?_
  refine g_iand C dL_set_30 ?_
  refine g_imul C dL_set_31 ?_
  refine g_lshl C dL_set_32 ?_
  refine g_lor C dL_set_33 ?_
  refine q_last C hρ (j := x0) (N := 64) g1 rfl g2 dL_set_34 (fun a3 ea3 => ?_)
  replace h := yl_of h ea3
  obtain rfl := Option.some.inj h
  exact g_vret C hr hz ⟨rfl, rfl, fun _ => rfl, fun _ => rfl⟩ rfl (fun j x h => by simp at h) dL_set_35
theorem k_L_set (l : Launch) (M : Nat → Nat → Nat → Int32) (ρ : YR) (hρ : rsh ρ) (w : Nat) (a : AS) (x0 : Nat) (x1 : Int32) (x2 : Int32) (r0 : AS × Int32) (h : f_L_set w a x0 x1 x2 = some r0) : ∀ D E sz, Met l yL_set gwL_set ({ frames := 0, cells := 0, slots := 0, locals := 0 } : Room) (cP D E sz (mx M a, ρ) [] [.ref (ρ.2.2.2 (40 + x0) 0), .int x1, .int x2]) (cQ D E sz (mx M a, ρ) [] (pV (fun u => u = ((mx M r0.1, ρ), [])))) (0) (0) (Aof (mx M a, ρ) [] sz) := by
  intro D E sz
  refine g_of (cc := cL_set) (maxL := 3) (ret := none) (own := "TradeLineLaw") (by decide) rfl rfl (Nat.le_of_ble_eq_true rfl) ?_
  intro p e s m args below meth c C hr hin hz ha hwr
  refine g_lv [0, 1, 2] rfl ?_
  exact lb_L_set_0 C hr hz hρ h
noncomputable def b_L_go_15  (w : Nat) (a : AS) (x3 : Int32) (x4 : Int32) (x5 : Int32) (x6 : Int32) (s0 : Nat) : Option (AS × Int32) := bif ixB ((16 : Int32) + x6) 22 then (f_L_set w a s0 (a 1 ((16 : Int32) + x6).toNatClampNeg) (x4 + ((64 : Int32) * x5))).bind (fun v3 => yl (up2 v3.1 1 ((16 : Int32) + x6).toNatClampNeg ((v3.1 1 ((16 : Int32) + x6).toNatClampNeg) + (1 : Int32))) (fun a4 => bif ixB (0 : Int32) 22 then bif ixB ((12 : Int32) + x3) 22 then yl (up2 a4 1 ((12 : Int32) + x3).toNatClampNeg (a4 1 (0 : Int32).toNatClampNeg)) (fun a7 => some (a7, (0 : Int32))) else none else none)) else none
set_option maxHeartbeats 4000000 in
set_option maxRecDepth 100000 in
theorem lb_L_go_15 {p : Program} {l : Launch} {e : Env} {s : State} {m : MethodId} {args : Array Value} {below : List Frame} {meth : Method} {c : Code} {D : va_G} {E : Nat → ClassId} {sz : Nat} {M : Nat → Nat → Nat → Int32} {a0 : AS} {ρ : YR} {w : Nat} {r0 : AS × Int32} (C : cx p s m args meth c D E (Aof (mx M a0, ρ) [] s.heap.size) cL_go 7 "TradeLineLaw") (hr : meth.sig.returnType = none) (hz : s.heap.size = sz) (hρ : rsh ρ) {a : AS} {x3 : Int32} {x4 : Int32} {x5 : Int32} {x6 : Int32} {s0 : Nat}   (h : b_L_go_15  w a x3 x4 x5 x6 s0 = some r0) : G p l e ({ frames := 1, cells := 0, slots := 0, locals := 22 } : Room) s m args below meth c D E (Aof (mx M a0, ρ) [] s.heap.size) 7 (MQ below (cQ D E sz (mx M a0, ρ) [] (pV (fun u => u = ((mx M r0.1, ρ), [])))) args s 0 0 (Aof (mx M a0, ρ) [] s.heap.size)) (mx M a, ρ) [] 0 0 15 [(0, .ref (ρ.2.2.2 (40 + 1) 0)), (3, .int x3), (4, .int x4), (5, .int x5), (6, .int x6)] [.ref (ρ.2.2.2 (40 + s0) 0)] := by
  unfold b_L_go_15 at h
  refine g_aload_n C dL_go_15 rfl 0 rfl ?_
  refine g_bipush (v := (16 : Int32)) C dL_go_16 (by decide) ?_
  refine g_iload C dL_go_18 4 rfl ?_
  refine g_iadd C dL_go_20 ?_
  obtain ⟨g2, h⟩ := of_guard h
  refine q_iald C hρ (j := 1) (N := 22) (by decide) rfl g2 dL_go_21 ?_
  refine g_iload C dL_go_22 2 rfl ?_
  refine g_bipush (v := (64 : Int32)) C dL_go_24 (by decide) ?_
  refine g_iload C dL_go_26 3 rfl ?_
  refine g_imul C dL_go_28 ?_
  refine g_iadd C dL_go_29 ?_
  obtain ⟨v3, hv3, h⟩ := bind_of h
  refine g_cSv (n := 3) (exc := []) (exr := []) C [_, _, _] _ rfl rfl [] [] rfl rfl rfl rfl (fun _ h => absurd h (by simp)) (fun _ h => absurd h (by simp)) (fun _ h => absurd h (by simp)) (fun sz => k_L_set l M ρ hρ w _ _ _ _ _ hv3 D E sz) rfl gw_464 gw_0 gw_462 gw_463 ⟨by decide +kernel, by decide +kernel, by decide +kernel⟩ ⟨rfl, rfl⟩ ⟨Nat.le_of_ble_eq_true rfl, Nat.le_of_ble_eq_true rfl⟩ (Nat.le_of_ble_eq_true rfl) dL_go_30 ⟨by decide, by decide⟩ (fun u hp hx => ?_)
  obtain rfl := hp
  try dsimp only [List.append_nil]
  refine g_aload_n C dL_go_33 rfl 0 rfl ?_
  refine g_bipush (v := (16 : Int32)) C dL_go_34 (by decide) ?_
  refine g_iload C dL_go_36 4 rfl ?_
  refine g_iadd C dL_go_38 ?_
  refine g_dup2 C dL_go_39 rfl rfl ?_
  refine q_iald C hρ (j := 1) (N := 22) (by decide) rfl g2 dL_go_40 ?_
  refine g_iconst (v := (1 : Int32)) C dL_go_41 (by decide) ?_
  refine g_iadd C dL_go_42 ?_
  refine q_iast C hρ (j := 1) (N := 22) (by decide) rfl g2 dL_go_43 (fun a4 ea4 => ?_)
  replace h := yl_of h ea4
  refine g_aload_n C dL_go_44 rfl 0 rfl ?_
  refine g_bipush (v := (12 : Int32)) C dL_go_45 (by decide) ?_
  refine g_iload_n C dL_go_47 rfl 1 rfl ?_
  refine g_iadd C dL_go_48 ?_
  refine g_aload_n C dL_go_49 rfl 0 rfl ?_
  refine g_iconst (v := (0 : Int32)) C dL_go_50 (by decide) ?_
  obtain ⟨g5, h⟩ := of_guard h
  refine q_iald C hρ (j := 1) (N := 22) (by decide) rfl g5 dL_go_51 ?_
  obtain ⟨g6, h⟩ := of_guard h
  refine q_iast C hρ (j := 1) (N := 22) (by decide) rfl g6 dL_go_52 (fun a7 ea7 => ?_)
  replace h := yl_of h ea7
  obtain rfl := Option.some.inj h
  exact g_vret C hr hz ⟨rfl, rfl, fun _ => rfl, fun _ => rfl⟩ rfl (fun j x h => by simp at h) dL_go_53
noncomputable def f_L_go  (w : Nat) (a : AS) (x3 : Int32) (x4 : Int32) (x5 : Int32)  : Option (AS × Int32) := yl (((1 : Int32) - x3)) (fun t1 => (if t1 = (0 : Int32) then (b_L_go_15  w a x3 x4 x5 t1 2) else (b_L_go_15  w a x3 x4 x5 t1 3)))
set_option maxHeartbeats 4000000 in
set_option maxRecDepth 100000 in
theorem lb_L_go_0 {p : Program} {l : Launch} {e : Env} {s : State} {m : MethodId} {args : Array Value} {below : List Frame} {meth : Method} {c : Code} {D : va_G} {E : Nat → ClassId} {sz : Nat} {M : Nat → Nat → Nat → Int32} {a0 : AS} {ρ : YR} {w : Nat} {r0 : AS × Int32} (C : cx p s m args meth c D E (Aof (mx M a0, ρ) [] s.heap.size) cL_go 7 "TradeLineLaw") (hr : meth.sig.returnType = none) (hz : s.heap.size = sz) (hρ : rsh ρ) {a : AS} {x3 : Int32} {x4 : Int32} {x5 : Int32}    (h : f_L_go  w a x3 x4 x5  = some r0) : G p l e ({ frames := 1, cells := 0, slots := 0, locals := 22 } : Room) s m args below meth c D E (Aof (mx M a0, ρ) [] s.heap.size) 7 (MQ below (cQ D E sz (mx M a0, ρ) [] (pV (fun u => u = ((mx M r0.1, ρ), [])))) args s 0 0 (Aof (mx M a0, ρ) [] s.heap.size)) (mx M a, ρ) [] 0 0 0 [(0, .ref (ρ.2.2.2 (40 + 1) 0)), (1, .ref (ρ.2.2.2 (40 + 2) 0)), (2, .ref (ρ.2.2.2 (40 + 3) 0)), (3, .int x3), (4, .int x4), (5, .int x5)] [] := by
  unfold f_L_go at h
  refine g_iconst (v := (1 : Int32)) C dL_go_0 (by decide) ?_
  refine g_iload_n C dL_go_1 rfl 3 rfl ?_
  refine g_isub C dL_go_2 ?_
  refine q_topi (fun t1 et1 => ?_)
  replace h := yl_of h et1
  refine g_istore (lv' := [(6, .int t1), (0, .ref (ρ.2.2.2 (40 + 1) 0)), (1, .ref (ρ.2.2.2 (40 + 2) 0)), (2, .ref (ρ.2.2.2 (40 + 3) 0)), (3, .int x3), (4, .int x4), (5, .int x5)]) C dL_go_3 (by decide) rfl ?_
  refine g_iload C dL_go_5 0 rfl ?_
  refine g_if_ne (tgt := 14) C dL_go_7 (by decide) (fun c7 => ?_) (fun c7 => ?_)
  · replace h := (if_neg c7).symm.trans h
    refine g_aload_n C dL_go_14 rfl 3 rfl ?_
    refine g_lv [1, 4, 5, 6, 0] rfl ?_
    exact lb_L_go_15 C hr hz hρ  h
  · replace h := (if_pos c7).symm.trans h
    refine g_aload_n C dL_go_10 rfl 2 rfl ?_
    refine g_goto (tgt := 15) C dL_go_11 (by decide) ?_
    refine g_lv [1, 4, 5, 6, 0] rfl ?_
    exact lb_L_go_15 C hr hz hρ  h
theorem k_L_go (l : Launch) (M : Nat → Nat → Nat → Int32) (ρ : YR) (hρ : rsh ρ) (w : Nat) (a : AS) (x3 : Int32) (x4 : Int32) (x5 : Int32) (r0 : AS × Int32) (h : f_L_go w a x3 x4 x5 = some r0) : ∀ D E sz, Met l yL_go gwL_go ({ frames := 1, cells := 0, slots := 0, locals := 22 } : Room) (cP D E sz (mx M a, ρ) [] [.ref (ρ.2.2.2 (40 + 1) 0), .ref (ρ.2.2.2 (40 + 2) 0), .ref (ρ.2.2.2 (40 + 3) 0), .int x3, .int x4, .int x5]) (cQ D E sz (mx M a, ρ) [] (pV (fun u => u = ((mx M r0.1, ρ), [])))) (0) (0) (Aof (mx M a, ρ) [] sz) := by
  intro D E sz
  refine g_of (cc := cL_go) (maxL := 7) (ret := none) (own := "TradeLineLaw") (by decide) rfl rfl (Nat.le_of_ble_eq_true rfl) ?_
  intro p e s m args below meth c C hr hin hz ha hwr
  refine g_lv [0, 1, 2, 3, 4, 5] rfl ?_
  exact lb_L_go_0 C hr hz hρ h
noncomputable def b_L_send_21  (w : Nat) (a : AS) (x5 : Int32) (x6 : Int32) (x7 : Int32) (x8 : Int32) (x9 : Int32) (x10 : Int32) (s0 : Nat) : Option (AS × Int32) := bif ixB ((4 : Int32) + x5) 22 then bif ixB (0 : Int32) 22 then bif lnB s0 64 then bif ixB (a 1 ((4 : Int32) + x5).toNatClampNeg) 64 then yl (wLg a s0 (a 1 ((4 : Int32) + x5).toNatClampNeg).toNatClampNeg ((((((Int32.toInt64 x6) + ((Int32.toInt64 x7) <<< (Int32.toInt64 (5 : Int32) &&& 63))) + ((Int32.toInt64 x8) <<< (Int32.toInt64 (13 : Int32) &&& 63))) + ((Int32.toInt64 x9) <<< (Int32.toInt64 (21 : Int32) &&& 63))) + ((Int32.toInt64 x10) <<< (Int32.toInt64 (29 : Int32) &&& 63))) + ((Int32.toInt64 (a 1 (0 : Int32).toNatClampNeg)) <<< (Int32.toInt64 (37 : Int32) &&& 63)))) (fun a7 => bif ixB (1 : Int32) 22 then (if (a7 1 (1 : Int32).toNatClampNeg) = (1 : Int32) then ((f_L_go w a7 x5 (a7 1 ((4 : Int32) + x5).toNatClampNeg) (0 : Int32)).bind (fun v9 => some (v9.1, (0 : Int32)))) else (some (a7, (0 : Int32)))) else none) else none else none else none else none
set_option maxHeartbeats 4000000 in
set_option maxRecDepth 100000 in
theorem lb_L_send_21 {p : Program} {l : Launch} {e : Env} {s : State} {m : MethodId} {args : Array Value} {below : List Frame} {meth : Method} {c : Code} {D : va_G} {E : Nat → ClassId} {sz : Nat} {M : Nat → Nat → Nat → Int32} {a0 : AS} {ρ : YR} {w : Nat} {r0 : AS × Int32} (C : cx p s m args meth c D E (Aof (mx M a0, ρ) [] s.heap.size) cL_send 11 "TradeLineLaw") (hr : meth.sig.returnType = none) (hz : s.heap.size = sz) (hρ : rsh ρ) {a : AS} {x5 : Int32} {x6 : Int32} {x7 : Int32} {x8 : Int32} {x9 : Int32} {x10 : Int32} {s0 : Nat}   (h : b_L_send_21  w a x5 x6 x7 x8 x9 x10 s0 = some r0) : G p l e ({ frames := 2, cells := 0, slots := 0, locals := 48 } : Room) s m args below meth c D E (Aof (mx M a0, ρ) [] s.heap.size) 11 (MQ below (cQ D E sz (mx M a0, ρ) [] (pV (fun u => u = ((mx M r0.1, ρ), [])))) args s 0 0 (Aof (mx M a0, ρ) [] s.heap.size)) (mx M a, ρ) [] 0 0 21 [(0, .ref (ρ.2.2.2 (40 + 1) 0)), (1, .ref (ρ.2.2.2 (40 + 2) 0)), (2, .ref (ρ.2.2.2 (40 + 3) 0)), (5, .int x5), (6, .int x6), (7, .int x7), (8, .int x8), (9, .int x9), (10, .int x10)] [.ref (ρ.2.2.2 (40 + s0) 0)] := by
  unfold b_L_send_21 at h
  refine g_aload_n C dL_send_21 rfl 0 rfl ?_
  refine g_iconst (v := (4 : Int32)) C dL_send_22 (by decide) ?_
  refine g_iload C dL_send_23 3 rfl ?_
  refine g_iadd C dL_send_25 ?_
  obtain ⟨g3, h⟩ := of_guard h
  refine q_iald C hρ (j := 1) (N := 22) (by decide) rfl g3 dL_send_26 ?_
  refine g_iload C dL_send_27 4 rfl ?_
  refine g_i2l C dL_send_29 rfl ?_
  refine g_iload C dL_send_30 5 rfl ?_
  refine g_i2l C dL_send_32 rfl ?_
  refine g_iconst (v := (5 : Int32)) C dL_send_33 (by decide) ?_
  refine g_lshl C dL_send_34 ?_
  refine g_ladd C dL_send_35 ?_
  refine g_iload C dL_send_36 6 rfl ?_
  refine g_i2l C dL_send_38 rfl ?_
  refine g_bipush (v := (13 : Int32)) C dL_send_39 (by decide) ?_
  refine g_lshl C dL_send_41 ?_
  refine g_ladd C dL_send_42 ?_
  refine g_iload C dL_send_43 7 rfl ?_
  refine g_i2l C dL_send_45 rfl ?_
  refine g_bipush (v := (21 : Int32)) C dL_send_46 (by decide) ?_
  refine g_lshl C dL_send_48 ?_
  refine g_ladd C dL_send_49 ?_
  refine g_iload C dL_send_50 8 rfl ?_
  refine g_i2l C dL_send_52 rfl ?_
  refine g_bipush (v := (29 : Int32)) C dL_send_53 (by decide) ?_
  refine g_lshl C dL_send_55 ?_
  refine g_ladd C dL_send_56 ?_
  refine g_aload_n C dL_send_57 rfl 0 rfl ?_
  refine g_iconst (v := (0 : Int32)) C dL_send_58 (by decide) ?_
  obtain ⟨g4, h⟩ := of_guard h
  refine q_iald C hρ (j := 1) (N := 22) (by decide) rfl g4 dL_send_59 ?_
  refine g_i2l C dL_send_60 rfl ?_
  refine g_bipush (v := (37 : Int32)) C dL_send_61 (by decide) ?_
  refine g_lshl C dL_send_63 ?_
  refine g_ladd C dL_send_64 ?_
  obtain ⟨g5, h⟩ := of_guard h
  obtain ⟨g6, h⟩ := of_guard h
  refine q_last C hρ (j := s0) (N := 64) g5 rfl g6 dL_send_65 (fun a7 ea7 => ?_)
  replace h := yl_of h ea7
  refine g_aload_n C dL_send_66 rfl 0 rfl ?_
  refine g_iconst (v := (1 : Int32)) C dL_send_67 (by decide) ?_
  obtain ⟨g8, h⟩ := of_guard h
  refine q_iald C hρ (j := 1) (N := 22) (by decide) rfl g8 dL_send_68 ?_
  refine g_iconst (v := (1 : Int32)) C dL_send_69 (by decide) ?_
  refine g_icmp_ne (tgt := 88) C dL_send_70 (by decide) (fun c70 => ?_) (fun c70 => ?_)
  · replace h := (if_neg c70).symm.trans h
    obtain rfl := Option.some.inj h
    exact g_vret C hr hz ⟨rfl, rfl, fun _ => rfl, fun _ => rfl⟩ rfl (fun j x h => by simp at h) dL_send_88
  · replace h := (if_pos c70).symm.trans h
    refine g_aload_n C dL_send_73 rfl 0 rfl ?_
    refine g_aload_n C dL_send_74 rfl 1 rfl ?_
    refine g_aload_n C dL_send_75 rfl 2 rfl ?_
    refine g_iload C dL_send_76 3 rfl ?_
    refine g_aload_n C dL_send_78 rfl 0 rfl ?_
    refine g_iconst (v := (4 : Int32)) C dL_send_79 (by decide) ?_
    refine g_iload C dL_send_80 3 rfl ?_
    refine g_iadd C dL_send_82 ?_
    refine q_iald C hρ (j := 1) (N := 22) (by decide) rfl g3 dL_send_83 ?_
    refine g_iconst (v := (0 : Int32)) C dL_send_84 (by decide) ?_
    obtain ⟨v9, hv9, h⟩ := bind_of h
    refine g_cSv (n := 6) (exc := []) (exr := []) C [_, _, _, _, _, _] _ rfl rfl [] [] rfl rfl rfl rfl (fun _ h => absurd h (by simp)) (fun _ h => absurd h (by simp)) (fun _ h => absurd h (by simp)) (fun sz => k_L_go l M ρ hρ w _ _ _ _ _ hv9 D E sz) rfl gw_461 gw_0 gw_459 gw_460 ⟨by decide +kernel, by decide +kernel, by decide +kernel⟩ ⟨rfl, rfl⟩ ⟨Nat.le_of_ble_eq_true rfl, Nat.le_of_ble_eq_true rfl⟩ (Nat.le_of_ble_eq_true rfl) dL_send_85 ⟨by decide, by decide⟩ (fun u hp hx => ?_)
    obtain rfl := hp
    try dsimp only [List.append_nil]
    obtain rfl := Option.some.inj h
    exact g_vret C hr hz ⟨rfl, rfl, fun _ => rfl, fun _ => rfl⟩ rfl (fun j x h => by simp at h) dL_send_88
noncomputable def f_L_send  (w : Nat) (a : AS) (x5 : Int32) (x6 : Int32) (x7 : Int32) (x8 : Int32) (x9 : Int32) (x10 : Int32)  : Option (AS × Int32) := bif ixB ((4 : Int32) + x5) 22 then yl (up2 a 1 ((4 : Int32) + x5).toNatClampNeg ((a 1 ((4 : Int32) + x5).toNatClampNeg) + (1 : Int32))) (fun a2 => (if x5 = (0 : Int32) then (b_L_send_21  w a2 x5 x6 x7 x8 x9 x10 4) else (b_L_send_21  w a2 x5 x6 x7 x8 x9 x10 5))) else none
set_option maxHeartbeats 4000000 in
set_option maxRecDepth 100000 in
theorem lb_L_send_0 {p : Program} {l : Launch} {e : Env} {s : State} {m : MethodId} {args : Array Value} {below : List Frame} {meth : Method} {c : Code} {D : va_G} {E : Nat → ClassId} {sz : Nat} {M : Nat → Nat → Nat → Int32} {a0 : AS} {ρ : YR} {w : Nat} {r0 : AS × Int32} (C : cx p s m args meth c D E (Aof (mx M a0, ρ) [] s.heap.size) cL_send 11 "TradeLineLaw") (hr : meth.sig.returnType = none) (hz : s.heap.size = sz) (hρ : rsh ρ) {a : AS} {x5 : Int32} {x6 : Int32} {x7 : Int32} {x8 : Int32} {x9 : Int32} {x10 : Int32}    (h : f_L_send  w a x5 x6 x7 x8 x9 x10  = some r0) : G p l e ({ frames := 2, cells := 0, slots := 0, locals := 48 } : Room) s m args below meth c D E (Aof (mx M a0, ρ) [] s.heap.size) 11 (MQ below (cQ D E sz (mx M a0, ρ) [] (pV (fun u => u = ((mx M r0.1, ρ), [])))) args s 0 0 (Aof (mx M a0, ρ) [] s.heap.size)) (mx M a, ρ) [] 0 0 0 [(0, .ref (ρ.2.2.2 (40 + 1) 0)), (1, .ref (ρ.2.2.2 (40 + 2) 0)), (2, .ref (ρ.2.2.2 (40 + 3) 0)), (3, .ref (ρ.2.2.2 (40 + 4) 0)), (4, .ref (ρ.2.2.2 (40 + 5) 0)), (5, .int x5), (6, .int x6), (7, .int x7), (8, .int x8), (9, .int x9), (10, .int x10)] [] := by
  unfold f_L_send at h
  refine g_aload_n C dL_send_0 rfl 0 rfl ?_
  refine g_iconst (v := (4 : Int32)) C dL_send_1 (by decide) ?_
  refine g_iload C dL_send_2 5 rfl ?_
  refine g_iadd C dL_send_4 ?_
  refine g_dup2 C dL_send_5 rfl rfl ?_
  obtain ⟨g1, h⟩ := of_guard h
  refine q_iald C hρ (j := 1) (N := 22) (by decide) rfl g1 dL_send_6 ?_
  refine g_iconst (v := (1 : Int32)) C dL_send_7 (by decide) ?_
  refine g_iadd C dL_send_8 ?_
  refine q_iast C hρ (j := 1) (N := 22) (by decide) rfl g1 dL_send_9 (fun a2 ea2 => ?_)
  replace h := yl_of h ea2
  refine g_iload C dL_send_10 5 rfl ?_
  refine g_if_ne (tgt := 19) C dL_send_12 (by decide) (fun c12 => ?_) (fun c12 => ?_)
  · replace h := (if_neg c12).symm.trans h
    refine g_aload C dL_send_19 4 rfl ?_
    refine g_lv [0, 1, 2, 5, 6, 7, 8, 9, 10] rfl ?_
    exact lb_L_send_21 C hr hz hρ  h
  · replace h := (if_pos c12).symm.trans h
    refine g_aload_n C dL_send_15 rfl 3 rfl ?_
    refine g_goto (tgt := 21) C dL_send_16 (by decide) ?_
    refine g_lv [0, 1, 2, 5, 6, 7, 8, 9, 10] rfl ?_
    exact lb_L_send_21 C hr hz hρ  h
theorem k_L_send (l : Launch) (M : Nat → Nat → Nat → Int32) (ρ : YR) (hρ : rsh ρ) (w : Nat) (a : AS) (x5 : Int32) (x6 : Int32) (x7 : Int32) (x8 : Int32) (x9 : Int32) (x10 : Int32) (r0 : AS × Int32) (h : f_L_send w a x5 x6 x7 x8 x9 x10 = some r0) : ∀ D E sz, Met l yL_send gwL_send ({ frames := 2, cells := 0, slots := 0, locals := 48 } : Room) (cP D E sz (mx M a, ρ) [] [.ref (ρ.2.2.2 (40 + 1) 0), .ref (ρ.2.2.2 (40 + 2) 0), .ref (ρ.2.2.2 (40 + 3) 0), .ref (ρ.2.2.2 (40 + 4) 0), .ref (ρ.2.2.2 (40 + 5) 0), .int x5, .int x6, .int x7, .int x8, .int x9, .int x10]) (cQ D E sz (mx M a, ρ) [] (pV (fun u => u = ((mx M r0.1, ρ), [])))) (0) (0) (Aof (mx M a, ρ) [] sz) := by
  intro D E sz
  refine g_of (cc := cL_send) (maxL := 11) (ret := none) (own := "TradeLineLaw") (by decide) rfl rfl (Nat.le_of_ble_eq_true rfl) ?_
  intro p e s m args below meth c C hr hin hz ha hwr
  refine g_lv [0, 1, 2, 3, 4, 5, 6, 7, 8, 9, 10] rfl ?_
  exact lb_L_send_0 C hr hz hρ h
noncomputable def f_L_part  (w : Nat) (a : AS) (x0 : Int64) (x2 : Int32)  : Option (Int32) := some (Int64.toInt32 ((x0 >>> (Int32.toInt64 x2 &&& 63)) &&& (255 : Int64)))
set_option maxHeartbeats 4000000 in
set_option maxRecDepth 100000 in
theorem lb_L_part_0 {p : Program} {l : Launch} {e : Env} {s : State} {m : MethodId} {args : Array Value} {below : List Frame} {meth : Method} {c : Code} {D : va_G} {E : Nat → ClassId} {sz : Nat} {M : Nat → Nat → Nat → Int32} {a : AS} {ρ : YR} {w : Nat} {r0 : Int32} (C : cx p s m args meth c D E (Aof (mx M a, ρ) [] s.heap.size) cL_part 3 "TradeLineLaw") (hr : meth.sig.returnType = (some .int)) (hz : s.heap.size = sz) (hρ : rsh ρ) {x0 : Int64} {x2 : Int32}    (h : f_L_part  w a x0 x2  = some r0) : G p l e ({ frames := 0, cells := 0, slots := 0, locals := 0 } : Room) s m args below meth c D E (Aof (mx M a, ρ) [] s.heap.size) 3 (MQ below (cQ D E sz (mx M a, ρ) [] (pI (fun r u => r = r0 ∧ u = ((mx M a, ρ), [])))) args s 0 0 (Aof (mx M a, ρ) [] s.heap.size)) (mx M a, ρ) [] 0 0 0 [(0, .long x0), (2, .int x2)] [] := by
  unfold f_L_part at h
  refine g_lload_n C dL_part_0 rfl 0 rfl ?_
  refine g_iload_n C dL_part_1 rfl 1 rfl ?_
  refine g_lshr C dL_part_2 ?_
  refine g_ldc2 (v := (255 : Int64)) C gw_1003 dL_part_3 ?_
  refine g_land C dL_part_6 ?_
  refine g_l2i C dL_part_7 ?_
  exact g_iret C hr rfl hz ⟨rfl, rfl, fun _ => rfl, fun _ => rfl⟩ ⟨Option.some.inj h, rfl⟩ (fun j x h => by simp at h) dL_part_8
theorem k_L_part (l : Launch) (M : Nat → Nat → Nat → Int32) (ρ : YR) (hρ : rsh ρ) (w : Nat) (a : AS) (x0 : Int64) (x2 : Int32) (r0 : Int32) (h : f_L_part w a x0 x2 = some r0) : ∀ D E sz, Met l yL_part gwL_part ({ frames := 0, cells := 0, slots := 0, locals := 0 } : Room) (cP D E sz (mx M a, ρ) [] [.long x0, .int x2]) (cQ D E sz (mx M a, ρ) [] (pI (fun r u => r = r0 ∧ u = ((mx M a, ρ), [])))) (0) (0) (Aof (mx M a, ρ) [] sz) := by
  intro D E sz
  refine g_of (cc := cL_part) (maxL := 3) (ret := (some .int)) (own := "TradeLineLaw") (by decide) rfl rfl (Nat.le_of_ble_eq_true rfl) ?_
  intro p e s m args below meth c C hr hin hz ha hwr
  refine g_lv [0, 1] rfl ?_
  exact lb_L_part_0 C hr hz hρ h
noncomputable def b_L_down_55 (k55 : AS → Int32 → Int32 → Option (AS × Int32)) (w : Nat) (a : AS) (x3 : Int32) (x4 : Int32)  : Option (AS × Int32) := (if (64 : Int32) ≤ x4 then (some (a, x3)) else (bif ixB x4 64 then yl (up2 a 6 x4.toNatClampNeg (0 : Int32)) (fun a7 => yl (up2 a7 7 x4.toNatClampNeg (0 : Int32)) (fun a8 => yl (x4 + (1 : Int32)) (fun t9 => k55 a8 x3 t9))) else none))
set_option maxHeartbeats 4000000 in
set_option maxRecDepth 100000 in
theorem lb_L_down_55 {p : Program} {l : Launch} {e : Env} {s : State} {m : MethodId} {args : Array Value} {below : List Frame} {meth : Method} {c : Code} {D : va_G} {E : Nat → ClassId} {sz : Nat} {M : Nat → Nat → Nat → Int32} {a0 : AS} {ρ : YR} {w : Nat} {r0 : AS × Int32} (C : cx p s m args meth c D E (Aof (mx M a0, ρ) [] s.heap.size) cL_down 5 "TradeLineLaw") (hr : meth.sig.returnType = (some .int)) (hz : s.heap.size = sz) (hρ : rsh ρ) {a : AS} {x3 : Int32} {x4 : Int32}  {k55 : AS → Int32 → Int32 → Option (AS × Int32)} (hk55 : ∀ (a1 : AS) (z3 : Int32) (z4 : Int32), k55 a1 z3 z4 = some r0 → G p l e ({ frames := 0, cells := 0, slots := 0, locals := 0 } : Room) s m args below meth c D E (Aof (mx M a0, ρ) [] s.heap.size) 5 (MQ below (cQ D E sz (mx M a0, ρ) [] (pI (fun r u => r = r0.2 ∧ u = ((mx M r0.1, ρ), [])))) args s 0 0 (Aof (mx M a0, ρ) [] s.heap.size)) (mx M a1, ρ) [] 0 0 55 [(1, .ref (ρ.2.2.2 (40 + 6) 0)), (2, .ref (ρ.2.2.2 (40 + 7) 0)), (3, .int z3), (4, .int z4)] []) (h : b_L_down_55 k55 w a x3 x4  = some r0) : G p l e ({ frames := 0, cells := 0, slots := 0, locals := 0 } : Room) s m args below meth c D E (Aof (mx M a0, ρ) [] s.heap.size) 5 (MQ below (cQ D E sz (mx M a0, ρ) [] (pI (fun r u => r = r0.2 ∧ u = ((mx M r0.1, ρ), [])))) args s 0 0 (Aof (mx M a0, ρ) [] s.heap.size)) (mx M a, ρ) [] 0 0 55 [(1, .ref (ρ.2.2.2 (40 + 6) 0)), (2, .ref (ρ.2.2.2 (40 + 7) 0)), (3, .int x3), (4, .int x4)] [] := by
  unfold b_L_down_55 at h
  refine g_iload C dL_down_55 3 rfl ?_
  refine g_bipush (v := (64 : Int32)) C dL_down_57 (by decide) ?_
  refine g_icmp_ge (tgt := 78) C dL_down_59 (by decide) (fun c59 => ?_) (fun c59 => ?_)
  · replace h := (if_pos c59).symm.trans h
    refine g_iload_n C dL_down_78 rfl 2 rfl ?_
    obtain rfl := Option.some.inj h
    exact g_iret C hr rfl hz ⟨rfl, rfl, fun _ => rfl, fun _ => rfl⟩ ⟨rfl, rfl⟩ (fun j x h => by simp at h) dL_down_79
  · replace h := (if_neg c59).symm.trans h
    refine g_aload_n C dL_down_62 rfl 0 rfl ?_
    refine g_iload C dL_down_63 3 rfl ?_
    refine g_iconst (v := (0 : Int32)) C dL_down_65 (by decide) ?_
    obtain ⟨g6, h⟩ := of_guard h
    refine q_iast C hρ (j := 6) (N := 64) (by decide) rfl g6 dL_down_66 (fun a7 ea7 => ?_)
    replace h := yl_of h ea7
    refine g_aload_n C dL_down_67 rfl 1 rfl ?_
    refine g_iload C dL_down_68 3 rfl ?_
    refine g_iconst (v := (0 : Int32)) C dL_down_70 (by decide) ?_
    refine q_iast C hρ (j := 7) (N := 64) (by decide) rfl g6 dL_down_71 (fun a8 ea8 => ?_)
    replace h := yl_of h ea8
    obtain ⟨t9, et9⟩ : ∃ y : Int32, x4 + (1 : Int32) = y := ⟨_, rfl⟩
    replace h := yl_of h et9
    refine g_iinc (v := t9) (lv' := [(4, .int t9), (1, .ref (ρ.2.2.2 (40 + 6) 0)), (2, .ref (ρ.2.2.2 (40 + 7) 0)), (3, .int x3)]) C dL_down_72 3 rfl (by rw [← et9]; rfl) (by decide) rfl ?_
    refine g_goto (tgt := 55) C dL_down_75 (by decide) ?_
    refine g_lv [1, 2, 3, 0] rfl ?_
    exact hk55 _ _ _ h
noncomputable def l_L_down_55  (w : Nat) : Nat → AS → Int32 → Int32 → Option (AS × Int32)
  | 0 => fun _ _ _ => none
  | n + 1 => fun a x3 x4 => b_L_down_55  (l_L_down_55  w n) w a x3 x4
theorem ll_L_down_55 {p : Program} {l : Launch} {e : Env} {s : State} {m : MethodId} {args : Array Value} {below : List Frame} {meth : Method} {c : Code} {D : va_G} {E : Nat → ClassId} {sz : Nat} {M : Nat → Nat → Nat → Int32} {a0 : AS} {ρ : YR} {w : Nat} {r0 : AS × Int32} (C : cx p s m args meth c D E (Aof (mx M a0, ρ) [] s.heap.size) cL_down 5 "TradeLineLaw") (hr : meth.sig.returnType = (some .int)) (hz : s.heap.size = sz) (hρ : rsh ρ)   : ∀ (n : Nat) (a : AS) (x3 : Int32) (x4 : Int32), l_L_down_55  w n a x3 x4 = some r0 → G p l e ({ frames := 0, cells := 0, slots := 0, locals := 0 } : Room) s m args below meth c D E (Aof (mx M a0, ρ) [] s.heap.size) 5 (MQ below (cQ D E sz (mx M a0, ρ) [] (pI (fun r u => r = r0.2 ∧ u = ((mx M r0.1, ρ), [])))) args s 0 0 (Aof (mx M a0, ρ) [] s.heap.size)) (mx M a, ρ) [] 0 0 55 [(1, .ref (ρ.2.2.2 (40 + 6) 0)), (2, .ref (ρ.2.2.2 (40 + 7) 0)), (3, .int x3), (4, .int x4)] [] := by
  intro n
  induction n with
  | zero => exact fun a x3 x4 h => absurd (show (none : Option (AS × Int32)) = some r0 from h) (by simp)
  | succ n ih => exact fun a x3 x4 h => lb_L_down_55 (w := w) C hr hz hρ  ih h
noncomputable def b_L_down_17 (k17 : AS → Int32 → Int32 → Option (AS × Int32)) (w : Nat) (a : AS) (x3 : Int32) (x4 : Int32)  : Option (AS × Int32) := (if (2 : Int32) ≤ x4 then (l_L_down_55  w w a x3 (0 : Int32)) else (bif ixB ((2 : Int32) + x4) 22 then yl (up2 a 1 ((2 : Int32) + x4).toNatClampNeg (0 : Int32)) (fun a11 => bif ixB ((8 : Int32) + x4) 22 then yl (up2 a11 1 ((8 : Int32) + x4).toNatClampNeg (0 : Int32)) (fun a13 => bif ixB ((16 : Int32) + x4) 22 then yl (up2 a13 1 ((16 : Int32) + x4).toNatClampNeg (0 : Int32)) (fun a15 => yl (x4 + (1 : Int32)) (fun t16 => k17 a15 x3 t16)) else none) else none) else none))
set_option maxHeartbeats 4000000 in
set_option maxRecDepth 100000 in
theorem lb_L_down_17 {p : Program} {l : Launch} {e : Env} {s : State} {m : MethodId} {args : Array Value} {below : List Frame} {meth : Method} {c : Code} {D : va_G} {E : Nat → ClassId} {sz : Nat} {M : Nat → Nat → Nat → Int32} {a0 : AS} {ρ : YR} {w : Nat} {r0 : AS × Int32} (C : cx p s m args meth c D E (Aof (mx M a0, ρ) [] s.heap.size) cL_down 5 "TradeLineLaw") (hr : meth.sig.returnType = (some .int)) (hz : s.heap.size = sz) (hρ : rsh ρ) {a : AS} {x3 : Int32} {x4 : Int32}  {k17 : AS → Int32 → Int32 → Option (AS × Int32)} (hk17 : ∀ (a1 : AS) (z3 : Int32) (z4 : Int32), k17 a1 z3 z4 = some r0 → G p l e ({ frames := 0, cells := 0, slots := 0, locals := 0 } : Room) s m args below meth c D E (Aof (mx M a0, ρ) [] s.heap.size) 5 (MQ below (cQ D E sz (mx M a0, ρ) [] (pI (fun r u => r = r0.2 ∧ u = ((mx M r0.1, ρ), [])))) args s 0 0 (Aof (mx M a0, ρ) [] s.heap.size)) (mx M a1, ρ) [] 0 0 17 [(0, .ref (ρ.2.2.2 (40 + 1) 0)), (1, .ref (ρ.2.2.2 (40 + 6) 0)), (2, .ref (ρ.2.2.2 (40 + 7) 0)), (3, .int z3), (4, .int z4)] []) (h : b_L_down_17 k17 w a x3 x4  = some r0) : G p l e ({ frames := 0, cells := 0, slots := 0, locals := 0 } : Room) s m args below meth c D E (Aof (mx M a0, ρ) [] s.heap.size) 5 (MQ below (cQ D E sz (mx M a0, ρ) [] (pI (fun r u => r = r0.2 ∧ u = ((mx M r0.1, ρ), [])))) args s 0 0 (Aof (mx M a0, ρ) [] s.heap.size)) (mx M a, ρ) [] 0 0 17 [(0, .ref (ρ.2.2.2 (40 + 1) 0)), (1, .ref (ρ.2.2.2 (40 + 6) 0)), (2, .ref (ρ.2.2.2 (40 + 7) 0)), (3, .int x3), (4, .int x4)] [] := by
  unfold b_L_down_17 at h
  refine g_iload C dL_down_17 4 rfl ?_
  refine g_iconst (v := (2 : Int32)) C dL_down_19 (by decide) ?_
  refine g_icmp_ge (tgt := 52) C dL_down_20 (by decide) (fun c20 => ?_) (fun c20 => ?_)
  · replace h := (if_pos c20).symm.trans h
    refine g_iconst (v := (0 : Int32)) C dL_down_52 (by decide) ?_
    refine g_istore (lv' := [(4, .int (0 : Int32)), (0, .ref (ρ.2.2.2 (40 + 1) 0)), (1, .ref (ρ.2.2.2 (40 + 6) 0)), (2, .ref (ρ.2.2.2 (40 + 7) 0)), (3, .int x3)]) C dL_down_53 (by decide) rfl ?_
    refine g_lv [2, 3, 4, 0] rfl ?_
    exact ll_L_down_55 C hr hz hρ  w _ _ _ h
  · replace h := (if_neg c20).symm.trans h
    refine g_aload_n C dL_down_23 rfl 0 rfl ?_
    refine g_iconst (v := (2 : Int32)) C dL_down_24 (by decide) ?_
    refine g_iload C dL_down_25 4 rfl ?_
    refine g_iadd C dL_down_27 ?_
    refine g_iconst (v := (0 : Int32)) C dL_down_28 (by decide) ?_
    obtain ⟨g10, h⟩ := of_guard h
    refine q_iast C hρ (j := 1) (N := 22) (by decide) rfl g10 dL_down_29 (fun a11 ea11 => ?_)
    replace h := yl_of h ea11
    refine g_aload_n C dL_down_30 rfl 0 rfl ?_
    refine g_bipush (v := (8 : Int32)) C dL_down_31 (by decide) ?_
    refine g_iload C dL_down_33 4 rfl ?_
    refine g_iadd C dL_down_35 ?_
    refine g_iconst (v := (0 : Int32)) C dL_down_36 (by decide) ?_
    obtain ⟨g12, h⟩ := of_guard h
    refine q_iast C hρ (j := 1) (N := 22) (by decide) rfl g12 dL_down_37 (fun a13 ea13 => ?_)
    replace h := yl_of h ea13
    refine g_aload_n C dL_down_38 rfl 0 rfl ?_
    refine g_bipush (v := (16 : Int32)) C dL_down_39 (by decide) ?_
    refine g_iload C dL_down_41 4 rfl ?_
    refine g_iadd C dL_down_43 ?_
    refine g_iconst (v := (0 : Int32)) C dL_down_44 (by decide) ?_
    obtain ⟨g14, h⟩ := of_guard h
    refine q_iast C hρ (j := 1) (N := 22) (by decide) rfl g14 dL_down_45 (fun a15 ea15 => ?_)
    replace h := yl_of h ea15
    obtain ⟨t16, et16⟩ : ∃ y : Int32, x4 + (1 : Int32) = y := ⟨_, rfl⟩
    replace h := yl_of h et16
    refine g_iinc (v := t16) (lv' := [(4, .int t16), (0, .ref (ρ.2.2.2 (40 + 1) 0)), (1, .ref (ρ.2.2.2 (40 + 6) 0)), (2, .ref (ρ.2.2.2 (40 + 7) 0)), (3, .int x3)]) C dL_down_46 4 rfl (by rw [← et16]; rfl) (by decide) rfl ?_
    refine g_goto (tgt := 17) C dL_down_49 (by decide) ?_
    refine g_lv [1, 2, 3, 4, 0] rfl ?_
    exact hk17 _ _ _ h
noncomputable def l_L_down_17  (w : Nat) : Nat → AS → Int32 → Int32 → Option (AS × Int32)
  | 0 => fun _ _ _ => none
  | n + 1 => fun a x3 x4 => b_L_down_17  (l_L_down_17  w n) w a x3 x4
theorem ll_L_down_17 {p : Program} {l : Launch} {e : Env} {s : State} {m : MethodId} {args : Array Value} {below : List Frame} {meth : Method} {c : Code} {D : va_G} {E : Nat → ClassId} {sz : Nat} {M : Nat → Nat → Nat → Int32} {a0 : AS} {ρ : YR} {w : Nat} {r0 : AS × Int32} (C : cx p s m args meth c D E (Aof (mx M a0, ρ) [] s.heap.size) cL_down 5 "TradeLineLaw") (hr : meth.sig.returnType = (some .int)) (hz : s.heap.size = sz) (hρ : rsh ρ)   : ∀ (n : Nat) (a : AS) (x3 : Int32) (x4 : Int32), l_L_down_17  w n a x3 x4 = some r0 → G p l e ({ frames := 0, cells := 0, slots := 0, locals := 0 } : Room) s m args below meth c D E (Aof (mx M a0, ρ) [] s.heap.size) 5 (MQ below (cQ D E sz (mx M a0, ρ) [] (pI (fun r u => r = r0.2 ∧ u = ((mx M r0.1, ρ), [])))) args s 0 0 (Aof (mx M a0, ρ) [] s.heap.size)) (mx M a, ρ) [] 0 0 17 [(0, .ref (ρ.2.2.2 (40 + 1) 0)), (1, .ref (ρ.2.2.2 (40 + 6) 0)), (2, .ref (ρ.2.2.2 (40 + 7) 0)), (3, .int x3), (4, .int x4)] [] := by
  intro n
  induction n with
  | zero => exact fun a x3 x4 h => absurd (show (none : Option (AS × Int32)) = some r0 from h) (by simp)
  | succ n ih => exact fun a x3 x4 h => lb_L_down_17 (w := w) C hr hz hρ  ih h
noncomputable def f_L_down  (w : Nat) (a : AS)   : Option (AS × Int32) := bif ixB (16 : Int32) 22 then bif ixB (17 : Int32) 22 then yl (((a 1 (16 : Int32).toNatClampNeg) + (a 1 (17 : Int32).toNatClampNeg))) (fun t3 => bif ixB (1 : Int32) 22 then yl (up2 a 1 (1 : Int32).toNatClampNeg (0 : Int32)) (fun a5 => l_L_down_17  w w a5 t3 (0 : Int32)) else none) else none else none
set_option maxHeartbeats 4000000 in
set_option maxRecDepth 100000 in
theorem lb_L_down_0 {p : Program} {l : Launch} {e : Env} {s : State} {m : MethodId} {args : Array Value} {below : List Frame} {meth : Method} {c : Code} {D : va_G} {E : Nat → ClassId} {sz : Nat} {M : Nat → Nat → Nat → Int32} {a0 : AS} {ρ : YR} {w : Nat} {r0 : AS × Int32} (C : cx p s m args meth c D E (Aof (mx M a0, ρ) [] s.heap.size) cL_down 5 "TradeLineLaw") (hr : meth.sig.returnType = (some .int)) (hz : s.heap.size = sz) (hρ : rsh ρ) {a : AS}     (h : f_L_down  w a   = some r0) : G p l e ({ frames := 0, cells := 0, slots := 0, locals := 0 } : Room) s m args below meth c D E (Aof (mx M a0, ρ) [] s.heap.size) 5 (MQ below (cQ D E sz (mx M a0, ρ) [] (pI (fun r u => r = r0.2 ∧ u = ((mx M r0.1, ρ), [])))) args s 0 0 (Aof (mx M a0, ρ) [] s.heap.size)) (mx M a, ρ) [] 0 0 0 [(0, .ref (ρ.2.2.2 (40 + 1) 0)), (1, .ref (ρ.2.2.2 (40 + 6) 0)), (2, .ref (ρ.2.2.2 (40 + 7) 0))] [] := by
  unfold f_L_down at h
  refine g_aload_n C dL_down_0 rfl 0 rfl ?_
  refine g_bipush (v := (16 : Int32)) C dL_down_1 (by decide) ?_
  obtain ⟨g1, h⟩ := of_guard h
  refine q_iald C hρ (j := 1) (N := 22) (by decide) rfl g1 dL_down_3 ?_
  refine g_aload_n C dL_down_4 rfl 0 rfl ?_
  refine g_bipush (v := (17 : Int32)) C dL_down_5 (by decide) ?_
  obtain ⟨g2, h⟩ := of_guard h
  refine q_iald C hρ (j := 1) (N := 22) (by decide) rfl g2 dL_down_7 ?_
  refine g_iadd C dL_down_8 ?_
  refine q_topi (fun t3 et3 => ?_)
  replace h := yl_of h et3
  refine g_istore_n (lv' := [(3, .int t3), (0, .ref (ρ.2.2.2 (40 + 1) 0)), (1, .ref (ρ.2.2.2 (40 + 6) 0)), (2, .ref (ρ.2.2.2 (40 + 7) 0))]) C dL_down_9 rfl (by decide) rfl ?_
  refine g_aload_n C dL_down_10 rfl 1 rfl ?_
  refine g_iconst (v := (1 : Int32)) C dL_down_11 (by decide) ?_
  refine g_iconst (v := (0 : Int32)) C dL_down_12 (by decide) ?_
  obtain ⟨g4, h⟩ := of_guard h
  refine q_iast C hρ (j := 1) (N := 22) (by decide) rfl g4 dL_down_13 (fun a5 ea5 => ?_)
  replace h := yl_of h ea5
  refine g_iconst (v := (0 : Int32)) C dL_down_14 (by decide) ?_
  refine g_istore (lv' := [(4, .int (0 : Int32)), (3, .int t3), (0, .ref (ρ.2.2.2 (40 + 1) 0)), (1, .ref (ρ.2.2.2 (40 + 6) 0)), (2, .ref (ρ.2.2.2 (40 + 7) 0))]) C dL_down_15 (by decide) rfl ?_
  refine g_lv [2, 3, 4, 1, 0] rfl ?_
  exact ll_L_down_17 C hr hz hρ  w _ _ _ h
theorem k_L_down (l : Launch) (M : Nat → Nat → Nat → Int32) (ρ : YR) (hρ : rsh ρ) (w : Nat) (a : AS)  (r0 : AS × Int32) (h : f_L_down w a  = some r0) : ∀ D E sz, Met l yL_down gwL_down ({ frames := 0, cells := 0, slots := 0, locals := 0 } : Room) (cP D E sz (mx M a, ρ) [] [.ref (ρ.2.2.2 (40 + 1) 0), .ref (ρ.2.2.2 (40 + 6) 0), .ref (ρ.2.2.2 (40 + 7) 0)]) (cQ D E sz (mx M a, ρ) [] (pI (fun r u => r = r0.2 ∧ u = ((mx M r0.1, ρ), [])))) (0) (0) (Aof (mx M a, ρ) [] sz) := by
  intro D E sz
  refine g_of (cc := cL_down) (maxL := 5) (ret := (some .int)) (own := "TradeLineLaw") (by decide) rfl rfl (Nat.le_of_ble_eq_true rfl) ?_
  intro p e s m args below meth c C hr hin hz ha hwr
  refine g_lv [0, 1, 2] rfl ?_
  exact lb_L_down_0 C hr hz hρ h
noncomputable def b_L_up_33 (k7 : AS → Int32 → Int32 → Option (AS × Int32)) (w : Nat) (a : AS) (x5 : Int32) (x6 : Int32)  : Option (AS × Int32) := bif ixB (0 : Int32) 22 then bif ixB ((14 : Int32) + x6) 22 then yl (up2 a 1 ((14 : Int32) + x6).toNatClampNeg (a 1 (0 : Int32).toNatClampNeg)) (fun a7 => yl (x6 + (1 : Int32)) (fun t8 => k7 a7 x5 t8)) else none else none
set_option maxHeartbeats 4000000 in
set_option maxRecDepth 100000 in
theorem lb_L_up_33 {p : Program} {l : Launch} {e : Env} {s : State} {m : MethodId} {args : Array Value} {below : List Frame} {meth : Method} {c : Code} {D : va_G} {E : Nat → ClassId} {sz : Nat} {M : Nat → Nat → Nat → Int32} {a0 : AS} {ρ : YR} {w : Nat} {r0 : AS × Int32} (C : cx p s m args meth c D E (Aof (mx M a0, ρ) [] s.heap.size) cL_up 7 "TradeLineLaw") (hr : meth.sig.returnType = none) (hz : s.heap.size = sz) (hρ : rsh ρ) {a : AS} {x5 : Int32} {x6 : Int32}  {k7 : AS → Int32 → Int32 → Option (AS × Int32)} (hk7 : ∀ (a1 : AS) (z5 : Int32) (z6 : Int32), k7 a1 z5 z6 = some r0 → G p l e ({ frames := 3, cells := 0, slots := 0, locals := 78 } : Room) s m args below meth c D E (Aof (mx M a0, ρ) [] s.heap.size) 7 (MQ below (cQ D E sz (mx M a0, ρ) [] (pV (fun u => u = ((mx M r0.1, ρ), [])))) args s 0 0 (Aof (mx M a0, ρ) [] s.heap.size)) (mx M a1, ρ) [] 0 0 7 [(0, .ref (ρ.2.2.2 (40 + 1) 0)), (1, .ref (ρ.2.2.2 (40 + 2) 0)), (2, .ref (ρ.2.2.2 (40 + 3) 0)), (3, .ref (ρ.2.2.2 (40 + 4) 0)), (4, .ref (ρ.2.2.2 (40 + 5) 0)), (5, .int z5), (6, .int z6)] []) (h : b_L_up_33 k7 w a x5 x6  = some r0) : G p l e ({ frames := 3, cells := 0, slots := 0, locals := 78 } : Room) s m args below meth c D E (Aof (mx M a0, ρ) [] s.heap.size) 7 (MQ below (cQ D E sz (mx M a0, ρ) [] (pV (fun u => u = ((mx M r0.1, ρ), [])))) args s 0 0 (Aof (mx M a0, ρ) [] s.heap.size)) (mx M a, ρ) [] 0 0 33 [(0, .ref (ρ.2.2.2 (40 + 1) 0)), (1, .ref (ρ.2.2.2 (40 + 2) 0)), (2, .ref (ρ.2.2.2 (40 + 3) 0)), (3, .ref (ρ.2.2.2 (40 + 4) 0)), (4, .ref (ρ.2.2.2 (40 + 5) 0)), (5, .int x5), (6, .int x6)] [] := by
  unfold b_L_up_33 at h
  refine g_aload_n C dL_up_33 rfl 0 rfl ?_
  refine g_bipush (v := (14 : Int32)) C dL_up_34 (by decide) ?_
  refine g_iload C dL_up_36 6 rfl ?_
  refine g_iadd C dL_up_38 ?_
  refine g_aload_n C dL_up_39 rfl 0 rfl ?_
  refine g_iconst (v := (0 : Int32)) C dL_up_40 (by decide) ?_
  obtain ⟨g5, h⟩ := of_guard h
  refine q_iald C hρ (j := 1) (N := 22) (by decide) rfl g5 dL_up_41 ?_
  obtain ⟨g6, h⟩ := of_guard h
  refine q_iast C hρ (j := 1) (N := 22) (by decide) rfl g6 dL_up_42 (fun a7 ea7 => ?_)
  replace h := yl_of h ea7
  obtain ⟨t8, et8⟩ : ∃ y : Int32, x6 + (1 : Int32) = y := ⟨_, rfl⟩
  replace h := yl_of h et8
  refine g_iinc (v := t8) (lv' := [(6, .int t8), (0, .ref (ρ.2.2.2 (40 + 1) 0)), (1, .ref (ρ.2.2.2 (40 + 2) 0)), (2, .ref (ρ.2.2.2 (40 + 3) 0)), (3, .ref (ρ.2.2.2 (40 + 4) 0)), (4, .ref (ρ.2.2.2 (40 + 5) 0)), (5, .int x5)]) C dL_up_43 6 rfl (by rw [← et8]; rfl) (by decide) rfl ?_
  refine g_goto (tgt := 7) C dL_up_46 (by decide) ?_
  refine g_lv [1, 2, 3, 4, 5, 6, 0] rfl ?_
  exact hk7 _ _ _ h
noncomputable def b_L_up_7 (k7 : AS → Int32 → Int32 → Option (AS × Int32)) (w : Nat) (a : AS) (x5 : Int32) (x6 : Int32)  : Option (AS × Int32) := (if (2 : Int32) ≤ x6 then ((f_L_send w a (0 : Int32) (0 : Int32) (0 : Int32) (0 : Int32) (0 : Int32) (0 : Int32)).bind (fun v3 => (f_L_send w v3.1 (1 : Int32) (0 : Int32) (0 : Int32) (0 : Int32) (0 : Int32) (0 : Int32)).bind (fun v4 => some (v4.1, (0 : Int32))))) else ((if x5 = (0 : Int32) then (b_L_up_33 k7 w a x5 x6) else (bif ixB ((4 : Int32) + x6) 22 then yl (up2 a 1 ((4 : Int32) + x6).toNatClampNeg (0 : Int32)) (fun a10 => bif ixB ((6 : Int32) + x6) 22 then yl (up2 a10 1 ((6 : Int32) + x6).toNatClampNeg (1 : Int32)) (fun a12 => b_L_up_33 k7 w a12 x5 x6) else none) else none))))
set_option maxHeartbeats 4000000 in
set_option maxRecDepth 100000 in
theorem lb_L_up_7 {p : Program} {l : Launch} {e : Env} {s : State} {m : MethodId} {args : Array Value} {below : List Frame} {meth : Method} {c : Code} {D : va_G} {E : Nat → ClassId} {sz : Nat} {M : Nat → Nat → Nat → Int32} {a0 : AS} {ρ : YR} {w : Nat} {r0 : AS × Int32} (C : cx p s m args meth c D E (Aof (mx M a0, ρ) [] s.heap.size) cL_up 7 "TradeLineLaw") (hr : meth.sig.returnType = none) (hz : s.heap.size = sz) (hρ : rsh ρ) {a : AS} {x5 : Int32} {x6 : Int32}  {k7 : AS → Int32 → Int32 → Option (AS × Int32)} (hk7 : ∀ (a1 : AS) (z5 : Int32) (z6 : Int32), k7 a1 z5 z6 = some r0 → G p l e ({ frames := 3, cells := 0, slots := 0, locals := 78 } : Room) s m args below meth c D E (Aof (mx M a0, ρ) [] s.heap.size) 7 (MQ below (cQ D E sz (mx M a0, ρ) [] (pV (fun u => u = ((mx M r0.1, ρ), [])))) args s 0 0 (Aof (mx M a0, ρ) [] s.heap.size)) (mx M a1, ρ) [] 0 0 7 [(0, .ref (ρ.2.2.2 (40 + 1) 0)), (1, .ref (ρ.2.2.2 (40 + 2) 0)), (2, .ref (ρ.2.2.2 (40 + 3) 0)), (3, .ref (ρ.2.2.2 (40 + 4) 0)), (4, .ref (ρ.2.2.2 (40 + 5) 0)), (5, .int z5), (6, .int z6)] []) (h : b_L_up_7 k7 w a x5 x6  = some r0) : G p l e ({ frames := 3, cells := 0, slots := 0, locals := 78 } : Room) s m args below meth c D E (Aof (mx M a0, ρ) [] s.heap.size) 7 (MQ below (cQ D E sz (mx M a0, ρ) [] (pV (fun u => u = ((mx M r0.1, ρ), [])))) args s 0 0 (Aof (mx M a0, ρ) [] s.heap.size)) (mx M a, ρ) [] 0 0 7 [(0, .ref (ρ.2.2.2 (40 + 1) 0)), (1, .ref (ρ.2.2.2 (40 + 2) 0)), (2, .ref (ρ.2.2.2 (40 + 3) 0)), (3, .ref (ρ.2.2.2 (40 + 4) 0)), (4, .ref (ρ.2.2.2 (40 + 5) 0)), (5, .int x5), (6, .int x6)] [] := by
  unfold b_L_up_7 at h
  refine g_iload C dL_up_7 6 rfl ?_
  refine g_iconst (v := (2 : Int32)) C dL_up_9 (by decide) ?_
  refine g_icmp_ge (tgt := 49) C dL_up_10 (by decide) (fun c10 => ?_) (fun c10 => ?_)
  · replace h := (if_pos c10).symm.trans h
    refine g_aload_n C dL_up_49 rfl 0 rfl ?_
    refine g_aload_n C dL_up_50 rfl 1 rfl ?_
    refine g_aload_n C dL_up_51 rfl 2 rfl ?_
    refine g_aload_n C dL_up_52 rfl 3 rfl ?_
    refine g_aload C dL_up_53 4 rfl ?_
    refine g_iconst (v := (0 : Int32)) C dL_up_55 (by decide) ?_
    refine g_iconst (v := (0 : Int32)) C dL_up_56 (by decide) ?_
    refine g_iconst (v := (0 : Int32)) C dL_up_57 (by decide) ?_
    refine g_iconst (v := (0 : Int32)) C dL_up_58 (by decide) ?_
    refine g_iconst (v := (0 : Int32)) C dL_up_59 (by decide) ?_
    refine g_iconst (v := (0 : Int32)) C dL_up_60 (by decide) ?_
    obtain ⟨v3, hv3, h⟩ := bind_of h
    refine g_cSv (n := 11) (exc := []) (exr := []) C [_, _, _, _, _, _, _, _, _, _, _] _ rfl rfl [] [] rfl rfl rfl rfl (fun _ h => absurd h (by simp)) (fun _ h => absurd h (by simp)) (fun _ h => absurd h (by simp)) (fun sz => k_L_send l M ρ hρ w _ _ _ _ _ _ _ _ hv3 D E sz) rfl gw_458 gw_0 gw_456 gw_457 ⟨by decide +kernel, by decide +kernel, by decide +kernel⟩ ⟨rfl, rfl⟩ ⟨Nat.le_of_ble_eq_true rfl, Nat.le_of_ble_eq_true rfl⟩ (Nat.le_of_ble_eq_true rfl) dL_up_61 ⟨by decide, by decide⟩ (fun u hp hx => ?_)
    obtain rfl := hp
    try dsimp only [List.append_nil]
    refine g_aload_n C dL_up_64 rfl 0 rfl ?_
    refine g_aload_n C dL_up_65 rfl 1 rfl ?_
    refine g_aload_n C dL_up_66 rfl 2 rfl ?_
    refine g_aload_n C dL_up_67 rfl 3 rfl ?_
    refine g_aload C dL_up_68 4 rfl ?_
    refine g_iconst (v := (1 : Int32)) C dL_up_70 (by decide) ?_
    refine g_iconst (v := (0 : Int32)) C dL_up_71 (by decide) ?_
    refine g_iconst (v := (0 : Int32)) C dL_up_72 (by decide) ?_
    refine g_iconst (v := (0 : Int32)) C dL_up_73 (by decide) ?_
    refine g_iconst (v := (0 : Int32)) C dL_up_74 (by decide) ?_
    refine g_iconst (v := (0 : Int32)) C dL_up_75 (by decide) ?_
    obtain ⟨v4, hv4, h⟩ := bind_of h
    refine g_cSv (n := 11) (exc := []) (exr := []) C [_, _, _, _, _, _, _, _, _, _, _] _ rfl rfl [] [] rfl rfl rfl rfl (fun _ h => absurd h (by simp)) (fun _ h => absurd h (by simp)) (fun _ h => absurd h (by simp)) (fun sz => k_L_send l M ρ hρ w _ _ _ _ _ _ _ _ hv4 D E sz) rfl gw_458 gw_0 gw_456 gw_457 ⟨by decide +kernel, by decide +kernel, by decide +kernel⟩ ⟨rfl, rfl⟩ ⟨Nat.le_of_ble_eq_true rfl, Nat.le_of_ble_eq_true rfl⟩ (Nat.le_of_ble_eq_true rfl) dL_up_76 ⟨by decide, by decide⟩ (fun u hp hx => ?_)
    obtain rfl := hp
    try dsimp only [List.append_nil]
    obtain rfl := Option.some.inj h
    exact g_vret C hr hz ⟨rfl, rfl, fun _ => rfl, fun _ => rfl⟩ rfl (fun j x h => by simp at h) dL_up_79
  · replace h := (if_neg c10).symm.trans h
    refine g_iload C dL_up_13 5 rfl ?_
    refine g_if_eq (tgt := 33) C dL_up_15 (by decide) (fun c15 => ?_) (fun c15 => ?_)
    · replace h := (if_pos c15).symm.trans h
      refine g_lv [0, 1, 2, 3, 4, 5, 6] rfl ?_
      exact lb_L_up_33 C hr hz hρ hk7 h
    · replace h := (if_neg c15).symm.trans h
      refine g_aload_n C dL_up_18 rfl 0 rfl ?_
      refine g_iconst (v := (4 : Int32)) C dL_up_19 (by decide) ?_
      refine g_iload C dL_up_20 6 rfl ?_
      refine g_iadd C dL_up_22 ?_
      refine g_iconst (v := (0 : Int32)) C dL_up_23 (by decide) ?_
      obtain ⟨g9, h⟩ := of_guard h
      refine q_iast C hρ (j := 1) (N := 22) (by decide) rfl g9 dL_up_24 (fun a10 ea10 => ?_)
      replace h := yl_of h ea10
      refine g_aload_n C dL_up_25 rfl 0 rfl ?_
      refine g_bipush (v := (6 : Int32)) C dL_up_26 (by decide) ?_
      refine g_iload C dL_up_28 6 rfl ?_
      refine g_iadd C dL_up_30 ?_
      refine g_iconst (v := (1 : Int32)) C dL_up_31 (by decide) ?_
      obtain ⟨g11, h⟩ := of_guard h
      refine q_iast C hρ (j := 1) (N := 22) (by decide) rfl g11 dL_up_32 (fun a12 ea12 => ?_)
      replace h := yl_of h ea12
      refine g_lv [0, 1, 2, 3, 4, 5, 6] rfl ?_
      exact lb_L_up_33 C hr hz hρ hk7 h
noncomputable def l_L_up_7  (w : Nat) : Nat → AS → Int32 → Int32 → Option (AS × Int32)
  | 0 => fun _ _ _ => none
  | n + 1 => fun a x5 x6 => b_L_up_7  (l_L_up_7  w n) w a x5 x6
theorem ll_L_up_7 {p : Program} {l : Launch} {e : Env} {s : State} {m : MethodId} {args : Array Value} {below : List Frame} {meth : Method} {c : Code} {D : va_G} {E : Nat → ClassId} {sz : Nat} {M : Nat → Nat → Nat → Int32} {a0 : AS} {ρ : YR} {w : Nat} {r0 : AS × Int32} (C : cx p s m args meth c D E (Aof (mx M a0, ρ) [] s.heap.size) cL_up 7 "TradeLineLaw") (hr : meth.sig.returnType = none) (hz : s.heap.size = sz) (hρ : rsh ρ)   : ∀ (n : Nat) (a : AS) (x5 : Int32) (x6 : Int32), l_L_up_7  w n a x5 x6 = some r0 → G p l e ({ frames := 3, cells := 0, slots := 0, locals := 78 } : Room) s m args below meth c D E (Aof (mx M a0, ρ) [] s.heap.size) 7 (MQ below (cQ D E sz (mx M a0, ρ) [] (pV (fun u => u = ((mx M r0.1, ρ), [])))) args s 0 0 (Aof (mx M a0, ρ) [] s.heap.size)) (mx M a, ρ) [] 0 0 7 [(0, .ref (ρ.2.2.2 (40 + 1) 0)), (1, .ref (ρ.2.2.2 (40 + 2) 0)), (2, .ref (ρ.2.2.2 (40 + 3) 0)), (3, .ref (ρ.2.2.2 (40 + 4) 0)), (4, .ref (ρ.2.2.2 (40 + 5) 0)), (5, .int x5), (6, .int x6)] [] := by
  intro n
  induction n with
  | zero => exact fun a x5 x6 h => absurd (show (none : Option (AS × Int32)) = some r0 from h) (by simp)
  | succ n ih => exact fun a x5 x6 h => lb_L_up_7 (w := w) C hr hz hρ  ih h
noncomputable def f_L_up  (w : Nat) (a : AS) (x5 : Int32)  : Option (AS × Int32) := bif ixB (1 : Int32) 22 then yl (up2 a 1 (1 : Int32).toNatClampNeg (1 : Int32)) (fun a2 => l_L_up_7  w w a2 x5 (0 : Int32)) else none
set_option maxHeartbeats 4000000 in
set_option maxRecDepth 100000 in
theorem lb_L_up_0 {p : Program} {l : Launch} {e : Env} {s : State} {m : MethodId} {args : Array Value} {below : List Frame} {meth : Method} {c : Code} {D : va_G} {E : Nat → ClassId} {sz : Nat} {M : Nat → Nat → Nat → Int32} {a0 : AS} {ρ : YR} {w : Nat} {r0 : AS × Int32} (C : cx p s m args meth c D E (Aof (mx M a0, ρ) [] s.heap.size) cL_up 7 "TradeLineLaw") (hr : meth.sig.returnType = none) (hz : s.heap.size = sz) (hρ : rsh ρ) {a : AS} {x5 : Int32}    (h : f_L_up  w a x5  = some r0) : G p l e ({ frames := 3, cells := 0, slots := 0, locals := 78 } : Room) s m args below meth c D E (Aof (mx M a0, ρ) [] s.heap.size) 7 (MQ below (cQ D E sz (mx M a0, ρ) [] (pV (fun u => u = ((mx M r0.1, ρ), [])))) args s 0 0 (Aof (mx M a0, ρ) [] s.heap.size)) (mx M a, ρ) [] 0 0 0 [(0, .ref (ρ.2.2.2 (40 + 1) 0)), (1, .ref (ρ.2.2.2 (40 + 2) 0)), (2, .ref (ρ.2.2.2 (40 + 3) 0)), (3, .ref (ρ.2.2.2 (40 + 4) 0)), (4, .ref (ρ.2.2.2 (40 + 5) 0)), (5, .int x5)] [] := by
  unfold f_L_up at h
  refine g_aload_n C dL_up_0 rfl 0 rfl ?_
  refine g_iconst (v := (1 : Int32)) C dL_up_1 (by decide) ?_
  refine g_iconst (v := (1 : Int32)) C dL_up_2 (by decide) ?_
  obtain ⟨g1, h⟩ := of_guard h
  refine q_iast C hρ (j := 1) (N := 22) (by decide) rfl g1 dL_up_3 (fun a2 ea2 => ?_)
  replace h := yl_of h ea2
  refine g_iconst (v := (0 : Int32)) C dL_up_4 (by decide) ?_
  refine g_istore (lv' := [(6, .int (0 : Int32)), (0, .ref (ρ.2.2.2 (40 + 1) 0)), (1, .ref (ρ.2.2.2 (40 + 2) 0)), (2, .ref (ρ.2.2.2 (40 + 3) 0)), (3, .ref (ρ.2.2.2 (40 + 4) 0)), (4, .ref (ρ.2.2.2 (40 + 5) 0)), (5, .int x5)]) C dL_up_5 (by decide) rfl ?_
  refine g_lv [1, 2, 3, 4, 5, 6, 0] rfl ?_
  exact ll_L_up_7 C hr hz hρ  w _ _ _ h
theorem k_L_up (l : Launch) (M : Nat → Nat → Nat → Int32) (ρ : YR) (hρ : rsh ρ) (w : Nat) (a : AS) (x5 : Int32) (r0 : AS × Int32) (h : f_L_up w a x5 = some r0) : ∀ D E sz, Met l yL_up gwL_up ({ frames := 3, cells := 0, slots := 0, locals := 78 } : Room) (cP D E sz (mx M a, ρ) [] [.ref (ρ.2.2.2 (40 + 1) 0), .ref (ρ.2.2.2 (40 + 2) 0), .ref (ρ.2.2.2 (40 + 3) 0), .ref (ρ.2.2.2 (40 + 4) 0), .ref (ρ.2.2.2 (40 + 5) 0), .int x5]) (cQ D E sz (mx M a, ρ) [] (pV (fun u => u = ((mx M r0.1, ρ), [])))) (0) (0) (Aof (mx M a, ρ) [] sz) := by
  intro D E sz
  refine g_of (cc := cL_up) (maxL := 7) (ret := none) (own := "TradeLineLaw") (by decide) rfl rfl (Nat.le_of_ble_eq_true rfl) ?_
  intro p e s m args below meth c C hr hin hz ha hwr
  refine g_lv [0, 1, 2, 3, 4, 5] rfl ?_
  exact lb_L_up_0 C hr hz hρ h
noncomputable def b_L_answer_184 (k15 : AS → Int32 → Int32 → Int32 → Int32 → Option (AS × Int32)) (w : Nat) (a : AS) (x6 : Int32) (x8 : Int32) (x9 : Int32) (x10 : Int32)  : Option (AS × Int32) := yl (x10 + (1 : Int32)) (fun t8 => k15 a x6 x8 x9 t8)
set_option maxHeartbeats 4000000 in
set_option maxRecDepth 100000 in
theorem lb_L_answer_184 {p : Program} {l : Launch} {e : Env} {s : State} {m : MethodId} {args : Array Value} {below : List Frame} {meth : Method} {c : Code} {D : va_G} {E : Nat → ClassId} {sz : Nat} {M : Nat → Nat → Nat → Int32} {a0 : AS} {ρ : YR} {w : Nat} {r0 : AS × Int32} (C : cx p s m args meth c D E (Aof (mx M a0, ρ) [] s.heap.size) cL_answer 15 "TradeLineLaw") (hr : meth.sig.returnType = none) (hz : s.heap.size = sz) (hρ : rsh ρ) {a : AS} {x6 : Int32} {x8 : Int32} {x9 : Int32} {x10 : Int32}  {k15 : AS → Int32 → Int32 → Int32 → Int32 → Option (AS × Int32)} (hk15 : ∀ (a1 : AS) (z6 : Int32) (z8 : Int32) (z9 : Int32) (z10 : Int32), k15 a1 z6 z8 z9 z10 = some r0 → G p l e ({ frames := 2, cells := 0, slots := 0, locals := 48 } : Room) s m args below meth c D E (Aof (mx M a0, ρ) [] s.heap.size) 15 (MQ below (cQ D E sz (mx M a0, ρ) [] (pV (fun u => u = ((mx M r0.1, ρ), [])))) args s 0 0 (Aof (mx M a0, ρ) [] s.heap.size)) (mx M a1, ρ) [] 0 0 15 [(0, .ref (ρ.2.2.2 (40 + 1) 0)), (1, .ref (ρ.2.2.2 (40 + 2) 0)), (2, .ref (ρ.2.2.2 (40 + 3) 0)), (3, .ref (ρ.2.2.2 (40 + 4) 0)), (4, .ref (ρ.2.2.2 (40 + 5) 0)), (5, .ref (ρ.2.2.2 (40 + 12) 0)), (6, .int z6), (8, .int z8), (9, .int z9), (10, .int z10)] []) (h : b_L_answer_184 k15 w a x6 x8 x9 x10  = some r0) : G p l e ({ frames := 2, cells := 0, slots := 0, locals := 48 } : Room) s m args below meth c D E (Aof (mx M a0, ρ) [] s.heap.size) 15 (MQ below (cQ D E sz (mx M a0, ρ) [] (pV (fun u => u = ((mx M r0.1, ρ), [])))) args s 0 0 (Aof (mx M a0, ρ) [] s.heap.size)) (mx M a, ρ) [] 0 0 184 [(0, .ref (ρ.2.2.2 (40 + 1) 0)), (1, .ref (ρ.2.2.2 (40 + 2) 0)), (2, .ref (ρ.2.2.2 (40 + 3) 0)), (3, .ref (ρ.2.2.2 (40 + 4) 0)), (4, .ref (ρ.2.2.2 (40 + 5) 0)), (5, .ref (ρ.2.2.2 (40 + 12) 0)), (6, .int x6), (8, .int x8), (9, .int x9), (10, .int x10)] [] := by
  unfold b_L_answer_184 at h
  obtain ⟨t8, et8⟩ : ∃ y : Int32, x10 + (1 : Int32) = y := ⟨_, rfl⟩
  replace h := yl_of h et8
  refine g_iinc (v := t8) (lv' := [(10, .int t8), (0, .ref (ρ.2.2.2 (40 + 1) 0)), (1, .ref (ρ.2.2.2 (40 + 2) 0)), (2, .ref (ρ.2.2.2 (40 + 3) 0)), (3, .ref (ρ.2.2.2 (40 + 4) 0)), (4, .ref (ρ.2.2.2 (40 + 5) 0)), (5, .ref (ρ.2.2.2 (40 + 12) 0)), (6, .int x6), (8, .int x8), (9, .int x9)]) C dL_answer_184 9 rfl (by rw [← et8]; rfl) (by decide) rfl ?_
  refine g_goto (tgt := 15) C dL_answer_187 (by decide) ?_
  refine g_lv [1, 2, 3, 4, 5, 6, 7, 8, 9, 0] rfl ?_
  exact hk15 _ _ _ _ _ h
noncomputable def b_L_answer_128 (k15 : AS → Int32 → Int32 → Int32 → Int32 → Option (AS × Int32)) (w : Nat) (a : AS) (x6 : Int32) (x9 : Int32) (x10 : Int32) (s0 : Int32) : Option (AS × Int32) := b_L_answer_184 k15 w a x6 s0 x9 x10
set_option maxHeartbeats 4000000 in
set_option maxRecDepth 100000 in
theorem lb_L_answer_128 {p : Program} {l : Launch} {e : Env} {s : State} {m : MethodId} {args : Array Value} {below : List Frame} {meth : Method} {c : Code} {D : va_G} {E : Nat → ClassId} {sz : Nat} {M : Nat → Nat → Nat → Int32} {a0 : AS} {ρ : YR} {w : Nat} {r0 : AS × Int32} (C : cx p s m args meth c D E (Aof (mx M a0, ρ) [] s.heap.size) cL_answer 15 "TradeLineLaw") (hr : meth.sig.returnType = none) (hz : s.heap.size = sz) (hρ : rsh ρ) {a : AS} {x6 : Int32} {x9 : Int32} {x10 : Int32} {s0 : Int32} {k15 : AS → Int32 → Int32 → Int32 → Int32 → Option (AS × Int32)} (hk15 : ∀ (a1 : AS) (z6 : Int32) (z8 : Int32) (z9 : Int32) (z10 : Int32), k15 a1 z6 z8 z9 z10 = some r0 → G p l e ({ frames := 2, cells := 0, slots := 0, locals := 48 } : Room) s m args below meth c D E (Aof (mx M a0, ρ) [] s.heap.size) 15 (MQ below (cQ D E sz (mx M a0, ρ) [] (pV (fun u => u = ((mx M r0.1, ρ), [])))) args s 0 0 (Aof (mx M a0, ρ) [] s.heap.size)) (mx M a1, ρ) [] 0 0 15 [(0, .ref (ρ.2.2.2 (40 + 1) 0)), (1, .ref (ρ.2.2.2 (40 + 2) 0)), (2, .ref (ρ.2.2.2 (40 + 3) 0)), (3, .ref (ρ.2.2.2 (40 + 4) 0)), (4, .ref (ρ.2.2.2 (40 + 5) 0)), (5, .ref (ρ.2.2.2 (40 + 12) 0)), (6, .int z6), (8, .int z8), (9, .int z9), (10, .int z10)] []) (h : b_L_answer_128 k15 w a x6 x9 x10 s0 = some r0) : G p l e ({ frames := 2, cells := 0, slots := 0, locals := 48 } : Room) s m args below meth c D E (Aof (mx M a0, ρ) [] s.heap.size) 15 (MQ below (cQ D E sz (mx M a0, ρ) [] (pV (fun u => u = ((mx M r0.1, ρ), [])))) args s 0 0 (Aof (mx M a0, ρ) [] s.heap.size)) (mx M a, ρ) [] 0 0 128 [(0, .ref (ρ.2.2.2 (40 + 1) 0)), (1, .ref (ρ.2.2.2 (40 + 2) 0)), (2, .ref (ρ.2.2.2 (40 + 3) 0)), (3, .ref (ρ.2.2.2 (40 + 4) 0)), (4, .ref (ρ.2.2.2 (40 + 5) 0)), (5, .ref (ρ.2.2.2 (40 + 12) 0)), (6, .int x6), (9, .int x9), (10, .int x10)] [.int s0] := by
  unfold b_L_answer_128 at h
  refine g_istore (lv' := [(8, .int s0), (0, .ref (ρ.2.2.2 (40 + 1) 0)), (1, .ref (ρ.2.2.2 (40 + 2) 0)), (2, .ref (ρ.2.2.2 (40 + 3) 0)), (3, .ref (ρ.2.2.2 (40 + 4) 0)), (4, .ref (ρ.2.2.2 (40 + 5) 0)), (5, .ref (ρ.2.2.2 (40 + 12) 0)), (6, .int x6), (9, .int x9), (10, .int x10)]) C dL_answer_128 (by decide) rfl ?_
  refine g_goto (tgt := 184) C dL_answer_130 (by decide) ?_
  refine g_lv [1, 2, 3, 4, 5, 6, 7, 0, 8, 9] rfl ?_
  exact lb_L_answer_184 C hr hz hρ hk15 h
noncomputable def b_L_answer_116 (k15 : AS → Int32 → Int32 → Int32 → Int32 → Option (AS × Int32)) (w : Nat) (a : AS) (x6 : Int32) (x8 : Int32) (x9 : Int32) (x10 : Int32)  : Option (AS × Int32) := (if x8 = (0 : Int32) then (b_L_answer_128 k15 w a x6 x9 x10 x10) else (b_L_answer_128 k15 w a x6 x9 x10 x8))
set_option maxHeartbeats 4000000 in
set_option maxRecDepth 100000 in
theorem lb_L_answer_116 {p : Program} {l : Launch} {e : Env} {s : State} {m : MethodId} {args : Array Value} {below : List Frame} {meth : Method} {c : Code} {D : va_G} {E : Nat → ClassId} {sz : Nat} {M : Nat → Nat → Nat → Int32} {a0 : AS} {ρ : YR} {w : Nat} {r0 : AS × Int32} (C : cx p s m args meth c D E (Aof (mx M a0, ρ) [] s.heap.size) cL_answer 15 "TradeLineLaw") (hr : meth.sig.returnType = none) (hz : s.heap.size = sz) (hρ : rsh ρ) {a : AS} {x6 : Int32} {x8 : Int32} {x9 : Int32} {x10 : Int32}  {k15 : AS → Int32 → Int32 → Int32 → Int32 → Option (AS × Int32)} (hk15 : ∀ (a1 : AS) (z6 : Int32) (z8 : Int32) (z9 : Int32) (z10 : Int32), k15 a1 z6 z8 z9 z10 = some r0 → G p l e ({ frames := 2, cells := 0, slots := 0, locals := 48 } : Room) s m args below meth c D E (Aof (mx M a0, ρ) [] s.heap.size) 15 (MQ below (cQ D E sz (mx M a0, ρ) [] (pV (fun u => u = ((mx M r0.1, ρ), [])))) args s 0 0 (Aof (mx M a0, ρ) [] s.heap.size)) (mx M a1, ρ) [] 0 0 15 [(0, .ref (ρ.2.2.2 (40 + 1) 0)), (1, .ref (ρ.2.2.2 (40 + 2) 0)), (2, .ref (ρ.2.2.2 (40 + 3) 0)), (3, .ref (ρ.2.2.2 (40 + 4) 0)), (4, .ref (ρ.2.2.2 (40 + 5) 0)), (5, .ref (ρ.2.2.2 (40 + 12) 0)), (6, .int z6), (8, .int z8), (9, .int z9), (10, .int z10)] []) (h : b_L_answer_116 k15 w a x6 x8 x9 x10  = some r0) : G p l e ({ frames := 2, cells := 0, slots := 0, locals := 48 } : Room) s m args below meth c D E (Aof (mx M a0, ρ) [] s.heap.size) 15 (MQ below (cQ D E sz (mx M a0, ρ) [] (pV (fun u => u = ((mx M r0.1, ρ), [])))) args s 0 0 (Aof (mx M a0, ρ) [] s.heap.size)) (mx M a, ρ) [] 0 0 116 [(0, .ref (ρ.2.2.2 (40 + 1) 0)), (1, .ref (ρ.2.2.2 (40 + 2) 0)), (2, .ref (ρ.2.2.2 (40 + 3) 0)), (3, .ref (ρ.2.2.2 (40 + 4) 0)), (4, .ref (ρ.2.2.2 (40 + 5) 0)), (5, .ref (ρ.2.2.2 (40 + 12) 0)), (6, .int x6), (8, .int x8), (9, .int x9), (10, .int x10)] [] := by
  unfold b_L_answer_116 at h
  refine g_iload C dL_answer_116 7 rfl ?_
  refine g_if_ne (tgt := 126) C dL_answer_118 (by decide) (fun c118 => ?_) (fun c118 => ?_)
  · replace h := (if_neg c118).symm.trans h
    refine g_iload C dL_answer_126 7 rfl ?_
    refine g_lv [0, 1, 2, 3, 4, 5, 6, 8, 9] rfl ?_
    exact lb_L_answer_128 C hr hz hρ hk15 h
  · replace h := (if_pos c118).symm.trans h
    refine g_iload C dL_answer_121 9 rfl ?_
    refine g_goto (tgt := 128) C dL_answer_123 (by decide) ?_
    refine g_lv [0, 1, 2, 3, 4, 5, 6, 8, 9] rfl ?_
    exact lb_L_answer_128 C hr hz hρ hk15 h
noncomputable def b_L_answer_164 (k15 : AS → Int32 → Int32 → Int32 → Int32 → Option (AS × Int32)) (w : Nat) (a : AS) (x6 : Int32) (x8 : Int32) (x9 : Int32) (x10 : Int32) (s0 : Nat) : Option (AS × Int32) := bif lnB s0 64 then bif ixB x10 64 then yl (wLg a s0 x10.toNatClampNeg ((lgA a s0 x10.toNatClampNeg) ||| (16 : Int64))) (fun a11 => (f_L_go w a11 x6 x10 (0 : Int32)).bind (fun v12 => b_L_answer_184 k15 w v12.1 x6 x8 x9 x10)) else none else none
set_option maxHeartbeats 4000000 in
set_option maxRecDepth 100000 in
theorem lb_L_answer_164 {p : Program} {l : Launch} {e : Env} {s : State} {m : MethodId} {args : Array Value} {below : List Frame} {meth : Method} {c : Code} {D : va_G} {E : Nat → ClassId} {sz : Nat} {M : Nat → Nat → Nat → Int32} {a0 : AS} {ρ : YR} {w : Nat} {r0 : AS × Int32} (C : cx p s m args meth c D E (Aof (mx M a0, ρ) [] s.heap.size) cL_answer 15 "TradeLineLaw") (hr : meth.sig.returnType = none) (hz : s.heap.size = sz) (hρ : rsh ρ) {a : AS} {x6 : Int32} {x8 : Int32} {x9 : Int32} {x10 : Int32} {s0 : Nat} {k15 : AS → Int32 → Int32 → Int32 → Int32 → Option (AS × Int32)} (hk15 : ∀ (a1 : AS) (z6 : Int32) (z8 : Int32) (z9 : Int32) (z10 : Int32), k15 a1 z6 z8 z9 z10 = some r0 → G p l e ({ frames := 2, cells := 0, slots := 0, locals := 48 } : Room) s m args below meth c D E (Aof (mx M a0, ρ) [] s.heap.size) 15 (MQ below (cQ D E sz (mx M a0, ρ) [] (pV (fun u => u = ((mx M r0.1, ρ), [])))) args s 0 0 (Aof (mx M a0, ρ) [] s.heap.size)) (mx M a1, ρ) [] 0 0 15 [(0, .ref (ρ.2.2.2 (40 + 1) 0)), (1, .ref (ρ.2.2.2 (40 + 2) 0)), (2, .ref (ρ.2.2.2 (40 + 3) 0)), (3, .ref (ρ.2.2.2 (40 + 4) 0)), (4, .ref (ρ.2.2.2 (40 + 5) 0)), (5, .ref (ρ.2.2.2 (40 + 12) 0)), (6, .int z6), (8, .int z8), (9, .int z9), (10, .int z10)] []) (h : b_L_answer_164 k15 w a x6 x8 x9 x10 s0 = some r0) : G p l e ({ frames := 2, cells := 0, slots := 0, locals := 48 } : Room) s m args below meth c D E (Aof (mx M a0, ρ) [] s.heap.size) 15 (MQ below (cQ D E sz (mx M a0, ρ) [] (pV (fun u => u = ((mx M r0.1, ρ), [])))) args s 0 0 (Aof (mx M a0, ρ) [] s.heap.size)) (mx M a, ρ) [] 0 0 164 [(0, .ref (ρ.2.2.2 (40 + 1) 0)), (1, .ref (ρ.2.2.2 (40 + 2) 0)), (2, .ref (ρ.2.2.2 (40 + 3) 0)), (3, .ref (ρ.2.2.2 (40 + 4) 0)), (4, .ref (ρ.2.2.2 (40 + 5) 0)), (5, .ref (ρ.2.2.2 (40 + 12) 0)), (6, .int x6), (8, .int x8), (9, .int x9), (10, .int x10)] [.ref (ρ.2.2.2 (40 + s0) 0)] := by
  unfold b_L_answer_164 at h
  refine g_iload C dL_answer_164 9 rfl ?_
  refine g_dup2 C dL_answer_166 rfl rfl ?_
  obtain ⟨g9, h⟩ := of_guard h
  obtain ⟨g10, h⟩ := of_guard h
  refine q_lald C hρ (j := s0) (N := 64) g9 rfl g10 dL_answer_167 ?_
  refine g_ldc2 (v := (16 : Int64)) C gw_1007 dL_answer_168 ?_
  refine g_lor C dL_answer_171 ?_
  refine q_last C hρ (j := s0) (N := 64) g9 rfl g10 dL_answer_172 (fun a11 ea11 => ?_)
  replace h := yl_of h ea11
  refine g_aload_n C dL_answer_173 rfl 0 rfl ?_
  refine g_aload_n C dL_answer_174 rfl 1 rfl ?_
  refine g_aload_n C dL_answer_175 rfl 2 rfl ?_
  refine g_iload C dL_answer_176 6 rfl ?_
  refine g_iload C dL_answer_178 9 rfl ?_
  refine g_iconst (v := (0 : Int32)) C dL_answer_180 (by decide) ?_
  obtain ⟨v12, hv12, h⟩ := bind_of h
  refine g_cSv (n := 6) (exc := []) (exr := []) C [_, _, _, _, _, _] _ rfl rfl [] [] rfl rfl rfl rfl (fun _ h => absurd h (by simp)) (fun _ h => absurd h (by simp)) (fun _ h => absurd h (by simp)) (fun sz => k_L_go l M ρ hρ w _ _ _ _ _ hv12 D E sz) rfl gw_461 gw_0 gw_459 gw_460 ⟨by decide +kernel, by decide +kernel, by decide +kernel⟩ ⟨rfl, rfl⟩ ⟨Nat.le_of_ble_eq_true rfl, Nat.le_of_ble_eq_true rfl⟩ (Nat.le_of_ble_eq_true rfl) dL_answer_181 ⟨by decide, by decide⟩ (fun u hp hx => ?_)
  obtain rfl := hp
  try dsimp only [List.append_nil]
  refine g_lv [0, 1, 2, 3, 4, 5, 6, 7, 8, 9] rfl ?_
  exact lb_L_answer_184 C hr hz hρ hk15 h
noncomputable def b_L_answer_150 (k15 : AS → Int32 → Int32 → Int32 → Int32 → Option (AS × Int32)) (w : Nat) (a : AS) (x6 : Int32) (x9 : Int32) (x10 : Int32)  : Option (AS × Int32) := (if x6 = (0 : Int32) then (b_L_answer_164 k15 w a x6 (0 : Int32) x9 x10 4) else (b_L_answer_164 k15 w a x6 (0 : Int32) x9 x10 5))
set_option maxHeartbeats 4000000 in
set_option maxRecDepth 100000 in
theorem lb_L_answer_150 {p : Program} {l : Launch} {e : Env} {s : State} {m : MethodId} {args : Array Value} {below : List Frame} {meth : Method} {c : Code} {D : va_G} {E : Nat → ClassId} {sz : Nat} {M : Nat → Nat → Nat → Int32} {a0 : AS} {ρ : YR} {w : Nat} {r0 : AS × Int32} (C : cx p s m args meth c D E (Aof (mx M a0, ρ) [] s.heap.size) cL_answer 15 "TradeLineLaw") (hr : meth.sig.returnType = none) (hz : s.heap.size = sz) (hρ : rsh ρ) {a : AS} {x6 : Int32} {x9 : Int32} {x10 : Int32}  {k15 : AS → Int32 → Int32 → Int32 → Int32 → Option (AS × Int32)} (hk15 : ∀ (a1 : AS) (z6 : Int32) (z8 : Int32) (z9 : Int32) (z10 : Int32), k15 a1 z6 z8 z9 z10 = some r0 → G p l e ({ frames := 2, cells := 0, slots := 0, locals := 48 } : Room) s m args below meth c D E (Aof (mx M a0, ρ) [] s.heap.size) 15 (MQ below (cQ D E sz (mx M a0, ρ) [] (pV (fun u => u = ((mx M r0.1, ρ), [])))) args s 0 0 (Aof (mx M a0, ρ) [] s.heap.size)) (mx M a1, ρ) [] 0 0 15 [(0, .ref (ρ.2.2.2 (40 + 1) 0)), (1, .ref (ρ.2.2.2 (40 + 2) 0)), (2, .ref (ρ.2.2.2 (40 + 3) 0)), (3, .ref (ρ.2.2.2 (40 + 4) 0)), (4, .ref (ρ.2.2.2 (40 + 5) 0)), (5, .ref (ρ.2.2.2 (40 + 12) 0)), (6, .int z6), (8, .int z8), (9, .int z9), (10, .int z10)] []) (h : b_L_answer_150 k15 w a x6 x9 x10  = some r0) : G p l e ({ frames := 2, cells := 0, slots := 0, locals := 48 } : Room) s m args below meth c D E (Aof (mx M a0, ρ) [] s.heap.size) 15 (MQ below (cQ D E sz (mx M a0, ρ) [] (pV (fun u => u = ((mx M r0.1, ρ), [])))) args s 0 0 (Aof (mx M a0, ρ) [] s.heap.size)) (mx M a, ρ) [] 0 0 150 [(0, .ref (ρ.2.2.2 (40 + 1) 0)), (1, .ref (ρ.2.2.2 (40 + 2) 0)), (2, .ref (ρ.2.2.2 (40 + 3) 0)), (3, .ref (ρ.2.2.2 (40 + 4) 0)), (4, .ref (ρ.2.2.2 (40 + 5) 0)), (5, .ref (ρ.2.2.2 (40 + 12) 0)), (6, .int x6), (9, .int x9), (10, .int x10)] [] := by
  unfold b_L_answer_150 at h
  refine g_iconst (v := (0 : Int32)) C dL_answer_150 (by decide) ?_
  refine g_istore (lv' := [(8, .int (0 : Int32)), (0, .ref (ρ.2.2.2 (40 + 1) 0)), (1, .ref (ρ.2.2.2 (40 + 2) 0)), (2, .ref (ρ.2.2.2 (40 + 3) 0)), (3, .ref (ρ.2.2.2 (40 + 4) 0)), (4, .ref (ρ.2.2.2 (40 + 5) 0)), (5, .ref (ρ.2.2.2 (40 + 12) 0)), (6, .int x6), (9, .int x9), (10, .int x10)]) C dL_answer_151 (by decide) rfl ?_
  refine g_iload C dL_answer_153 7 rfl ?_
  refine g_if_ne (tgt := 162) C dL_answer_155 (by decide) (fun c155 => ?_) (fun c155 => ?_)
  · replace h := (if_neg c155).symm.trans h
    refine g_aload C dL_answer_162 5 rfl ?_
    refine g_lv [1, 2, 3, 4, 5, 6, 7, 0, 8, 9] rfl ?_
    exact lb_L_answer_164 C hr hz hρ hk15 h
  · replace h := (if_pos c155).symm.trans h
    refine g_aload_n C dL_answer_158 rfl 4 rfl ?_
    refine g_goto (tgt := 164) C dL_answer_159 (by decide) ?_
    refine g_lv [1, 2, 3, 4, 5, 6, 7, 0, 8, 9] rfl ?_
    exact lb_L_answer_164 C hr hz hρ hk15 h
noncomputable def b_L_answer_105 (k15 : AS → Int32 → Int32 → Int32 → Int32 → Option (AS × Int32)) (w : Nat) (a : AS) (x6 : Int32) (x8 : Int32) (x9 : Int32) (x10 : Int32) (x13 : Int32) (x14 : Int32)  : Option (AS × Int32) := (if x14 = (0 : Int32) then ((if (5 : Int32) ≤ x13 then ((if x8 ≤ (0 : Int32) then (b_L_answer_150 k15 w a x6 x9 x10) else ((f_L_go w a x6 x8 x10).bind (fun v13 => b_L_answer_150 k15 w v13.1 x6 x9 x10)))) else (b_L_answer_116 k15 w a x6 x8 x9 x10))) else (b_L_answer_116 k15 w a x6 x8 x9 x10))
set_option maxHeartbeats 4000000 in
set_option maxRecDepth 100000 in
theorem lb_L_answer_105 {p : Program} {l : Launch} {e : Env} {s : State} {m : MethodId} {args : Array Value} {below : List Frame} {meth : Method} {c : Code} {D : va_G} {E : Nat → ClassId} {sz : Nat} {M : Nat → Nat → Nat → Int32} {a0 : AS} {ρ : YR} {w : Nat} {r0 : AS × Int32} (C : cx p s m args meth c D E (Aof (mx M a0, ρ) [] s.heap.size) cL_answer 15 "TradeLineLaw") (hr : meth.sig.returnType = none) (hz : s.heap.size = sz) (hρ : rsh ρ) {a : AS} {x6 : Int32} {x8 : Int32} {x9 : Int32} {x10 : Int32} {x13 : Int32} {x14 : Int32}  {k15 : AS → Int32 → Int32 → Int32 → Int32 → Option (AS × Int32)} (hk15 : ∀ (a1 : AS) (z6 : Int32) (z8 : Int32) (z9 : Int32) (z10 : Int32), k15 a1 z6 z8 z9 z10 = some r0 → G p l e ({ frames := 2, cells := 0, slots := 0, locals := 48 } : Room) s m args below meth c D E (Aof (mx M a0, ρ) [] s.heap.size) 15 (MQ below (cQ D E sz (mx M a0, ρ) [] (pV (fun u => u = ((mx M r0.1, ρ), [])))) args s 0 0 (Aof (mx M a0, ρ) [] s.heap.size)) (mx M a1, ρ) [] 0 0 15 [(0, .ref (ρ.2.2.2 (40 + 1) 0)), (1, .ref (ρ.2.2.2 (40 + 2) 0)), (2, .ref (ρ.2.2.2 (40 + 3) 0)), (3, .ref (ρ.2.2.2 (40 + 4) 0)), (4, .ref (ρ.2.2.2 (40 + 5) 0)), (5, .ref (ρ.2.2.2 (40 + 12) 0)), (6, .int z6), (8, .int z8), (9, .int z9), (10, .int z10)] []) (h : b_L_answer_105 k15 w a x6 x8 x9 x10 x13 x14  = some r0) : G p l e ({ frames := 2, cells := 0, slots := 0, locals := 48 } : Room) s m args below meth c D E (Aof (mx M a0, ρ) [] s.heap.size) 15 (MQ below (cQ D E sz (mx M a0, ρ) [] (pV (fun u => u = ((mx M r0.1, ρ), [])))) args s 0 0 (Aof (mx M a0, ρ) [] s.heap.size)) (mx M a, ρ) [] 0 0 105 [(0, .ref (ρ.2.2.2 (40 + 1) 0)), (1, .ref (ρ.2.2.2 (40 + 2) 0)), (2, .ref (ρ.2.2.2 (40 + 3) 0)), (3, .ref (ρ.2.2.2 (40 + 4) 0)), (4, .ref (ρ.2.2.2 (40 + 5) 0)), (5, .ref (ρ.2.2.2 (40 + 12) 0)), (6, .int x6), (8, .int x8), (9, .int x9), (10, .int x10), (13, .int x13), (14, .int x14)] [] := by
  unfold b_L_answer_105 at h
  refine g_iload C dL_answer_105 11 rfl ?_
  refine g_if_ne (tgt := 116) C dL_answer_107 (by decide) (fun c107 => ?_) (fun c107 => ?_)
  · replace h := (if_neg c107).symm.trans h
    refine g_lv [0, 1, 2, 3, 4, 5, 6, 7, 8, 9] rfl ?_
    exact lb_L_answer_116 C hr hz hρ hk15 h
  · replace h := (if_pos c107).symm.trans h
    refine g_iload C dL_answer_110 10 rfl ?_
    refine g_iconst (v := (5 : Int32)) C dL_answer_112 (by decide) ?_
    refine g_icmp_ge (tgt := 133) C dL_answer_113 (by decide) (fun c113 => ?_) (fun c113 => ?_)
    · replace h := (if_pos c113).symm.trans h
      refine g_iload C dL_answer_133 7 rfl ?_
      refine g_if_le (tgt := 150) C dL_answer_135 (by decide) (fun c135 => ?_) (fun c135 => ?_)
      · replace h := (if_pos c135).symm.trans h
        refine g_lv [0, 1, 2, 3, 4, 5, 6, 8, 9] rfl ?_
        exact lb_L_answer_150 C hr hz hρ hk15 h
      · replace h := (if_neg c135).symm.trans h
        refine g_aload_n C dL_answer_138 rfl 0 rfl ?_
        refine g_aload_n C dL_answer_139 rfl 1 rfl ?_
        refine g_aload_n C dL_answer_140 rfl 2 rfl ?_
        refine g_iload C dL_answer_141 6 rfl ?_
        refine g_iload C dL_answer_143 7 rfl ?_
        refine g_iload C dL_answer_145 9 rfl ?_
        obtain ⟨v13, hv13, h⟩ := bind_of h
        refine g_cSv (n := 6) (exc := []) (exr := []) C [_, _, _, _, _, _] _ rfl rfl [] [] rfl rfl rfl rfl (fun _ h => absurd h (by simp)) (fun _ h => absurd h (by simp)) (fun _ h => absurd h (by simp)) (fun sz => k_L_go l M ρ hρ w _ _ _ _ _ hv13 D E sz) rfl gw_461 gw_0 gw_459 gw_460 ⟨by decide +kernel, by decide +kernel, by decide +kernel⟩ ⟨rfl, rfl⟩ ⟨Nat.le_of_ble_eq_true rfl, Nat.le_of_ble_eq_true rfl⟩ (Nat.le_of_ble_eq_true rfl) dL_answer_147 ⟨by decide, by decide⟩ (fun u hp hx => ?_)
        obtain rfl := hp
        try dsimp only [List.append_nil]
        refine g_lv [0, 1, 2, 3, 4, 5, 6, 8, 9] rfl ?_
        exact lb_L_answer_150 C hr hz hρ hk15 h
    · replace h := (if_neg c113).symm.trans h
      refine g_lv [0, 1, 2, 3, 4, 5, 6, 7, 8, 9] rfl ?_
      exact lb_L_answer_116 C hr hz hρ hk15 h
noncomputable def b_L_answer_84 (k15 : AS → Int32 → Int32 → Int32 → Int32 → Option (AS × Int32)) (w : Nat) (a : AS) (x6 : Int32) (x8 : Int32) (x9 : Int32) (x10 : Int32) (x11 : Int64) (x13 : Int32) (s0 : Int32) : Option (AS × Int32) := (if s0 = (0 : Int32) then (b_L_answer_105 k15 w a x6 x8 x9 x10 x13 s0) else ((f_L_part w a x11 (5 : Int32)).bind (fun v14 => bif ixB v14 10 then yl (up2 a 12 v14.toNatClampNeg ((a 12 v14.toNatClampNeg) ||| (8 : Int32))) (fun a16 => b_L_answer_105 k15 w a16 x6 x8 x9 x10 x13 s0) else none)))
set_option maxHeartbeats 4000000 in
set_option maxRecDepth 100000 in
theorem lb_L_answer_84 {p : Program} {l : Launch} {e : Env} {s : State} {m : MethodId} {args : Array Value} {below : List Frame} {meth : Method} {c : Code} {D : va_G} {E : Nat → ClassId} {sz : Nat} {M : Nat → Nat → Nat → Int32} {a0 : AS} {ρ : YR} {w : Nat} {r0 : AS × Int32} (C : cx p s m args meth c D E (Aof (mx M a0, ρ) [] s.heap.size) cL_answer 15 "TradeLineLaw") (hr : meth.sig.returnType = none) (hz : s.heap.size = sz) (hρ : rsh ρ) {a : AS} {x6 : Int32} {x8 : Int32} {x9 : Int32} {x10 : Int32} {x11 : Int64} {x13 : Int32} {s0 : Int32} {k15 : AS → Int32 → Int32 → Int32 → Int32 → Option (AS × Int32)} (hk15 : ∀ (a1 : AS) (z6 : Int32) (z8 : Int32) (z9 : Int32) (z10 : Int32), k15 a1 z6 z8 z9 z10 = some r0 → G p l e ({ frames := 2, cells := 0, slots := 0, locals := 48 } : Room) s m args below meth c D E (Aof (mx M a0, ρ) [] s.heap.size) 15 (MQ below (cQ D E sz (mx M a0, ρ) [] (pV (fun u => u = ((mx M r0.1, ρ), [])))) args s 0 0 (Aof (mx M a0, ρ) [] s.heap.size)) (mx M a1, ρ) [] 0 0 15 [(0, .ref (ρ.2.2.2 (40 + 1) 0)), (1, .ref (ρ.2.2.2 (40 + 2) 0)), (2, .ref (ρ.2.2.2 (40 + 3) 0)), (3, .ref (ρ.2.2.2 (40 + 4) 0)), (4, .ref (ρ.2.2.2 (40 + 5) 0)), (5, .ref (ρ.2.2.2 (40 + 12) 0)), (6, .int z6), (8, .int z8), (9, .int z9), (10, .int z10)] []) (h : b_L_answer_84 k15 w a x6 x8 x9 x10 x11 x13 s0 = some r0) : G p l e ({ frames := 2, cells := 0, slots := 0, locals := 48 } : Room) s m args below meth c D E (Aof (mx M a0, ρ) [] s.heap.size) 15 (MQ below (cQ D E sz (mx M a0, ρ) [] (pV (fun u => u = ((mx M r0.1, ρ), [])))) args s 0 0 (Aof (mx M a0, ρ) [] s.heap.size)) (mx M a, ρ) [] 0 0 84 [(0, .ref (ρ.2.2.2 (40 + 1) 0)), (1, .ref (ρ.2.2.2 (40 + 2) 0)), (2, .ref (ρ.2.2.2 (40 + 3) 0)), (3, .ref (ρ.2.2.2 (40 + 4) 0)), (4, .ref (ρ.2.2.2 (40 + 5) 0)), (5, .ref (ρ.2.2.2 (40 + 12) 0)), (6, .int x6), (8, .int x8), (9, .int x9), (10, .int x10), (11, .long x11), (13, .int x13)] [.int s0] := by
  unfold b_L_answer_84 at h
  refine g_istore (lv' := [(14, .int s0), (0, .ref (ρ.2.2.2 (40 + 1) 0)), (1, .ref (ρ.2.2.2 (40 + 2) 0)), (2, .ref (ρ.2.2.2 (40 + 3) 0)), (3, .ref (ρ.2.2.2 (40 + 4) 0)), (4, .ref (ρ.2.2.2 (40 + 5) 0)), (5, .ref (ρ.2.2.2 (40 + 12) 0)), (6, .int x6), (8, .int x8), (9, .int x9), (10, .int x10), (11, .long x11), (13, .int x13)]) C dL_answer_84 (by decide) rfl ?_
  refine g_iload C dL_answer_86 0 rfl ?_
  refine g_if_eq (tgt := 105) C dL_answer_88 (by decide) (fun c88 => ?_) (fun c88 => ?_)
  · replace h := (if_pos c88).symm.trans h
    refine g_lv [1, 2, 3, 4, 5, 6, 7, 8, 9, 10, 12, 0] rfl ?_
    exact lb_L_answer_105 C hr hz hρ hk15 h
  · replace h := (if_neg c88).symm.trans h
    refine g_aload C dL_answer_91 6 rfl ?_
    refine g_lload C dL_answer_93 11 rfl ?_
    refine g_iconst (v := (5 : Int32)) C dL_answer_95 (by decide) ?_
    obtain ⟨v14, hv14, h⟩ := bind_of h
    refine g_cSi (n := 2) (exc := []) (exr := []) C [_, _] _ rfl rfl [] [] rfl rfl rfl rfl (fun _ h => absurd h (by simp)) (fun _ h => absurd h (by simp)) (fun _ h => absurd h (by simp)) (fun sz => k_L_part l M ρ hρ w _ _ _ _ hv14 D E sz) rfl gw_1002 gw_0 gw_1000 gw_1001 ⟨by decide +kernel, by decide +kernel, by decide +kernel⟩ ⟨rfl, rfl⟩ ⟨Nat.le_of_ble_eq_true rfl, Nat.le_of_ble_eq_true rfl⟩ (Nat.le_of_ble_eq_true rfl) dL_answer_96 ⟨by decide, by decide⟩ (fun r u hp hx => ?_)
    obtain ⟨er, rfl⟩ := hp
    rw [er]
    try dsimp only [List.append_nil]
    refine g_dup2 C dL_answer_99 rfl rfl ?_
    obtain ⟨g15, h⟩ := of_guard h
    refine q_iald C hρ (j := 12) (N := 10) (by decide) rfl g15 dL_answer_100 ?_
    refine g_bipush (v := (8 : Int32)) C dL_answer_101 (by decide) ?_
    refine g_ior C dL_answer_103 ?_
    refine q_iast C hρ (j := 12) (N := 10) (by decide) rfl g15 dL_answer_104 (fun a16 ea16 => ?_)
    replace h := yl_of h ea16
    refine g_lv [1, 2, 3, 4, 5, 6, 7, 8, 9, 10, 12, 0] rfl ?_
    exact lb_L_answer_105 C hr hz hρ hk15 h
noncomputable def b_L_answer_83 (k15 : AS → Int32 → Int32 → Int32 → Int32 → Option (AS × Int32)) (w : Nat) (a : AS) (x6 : Int32) (x8 : Int32) (x9 : Int32) (x10 : Int32) (x11 : Int64) (x13 : Int32)  : Option (AS × Int32) := b_L_answer_84 k15 w a x6 x8 x9 x10 x11 x13 (0 : Int32)
set_option maxHeartbeats 4000000 in
set_option maxRecDepth 100000 in
theorem lb_L_answer_83 {p : Program} {l : Launch} {e : Env} {s : State} {m : MethodId} {args : Array Value} {below : List Frame} {meth : Method} {c : Code} {D : va_G} {E : Nat → ClassId} {sz : Nat} {M : Nat → Nat → Nat → Int32} {a0 : AS} {ρ : YR} {w : Nat} {r0 : AS × Int32} (C : cx p s m args meth c D E (Aof (mx M a0, ρ) [] s.heap.size) cL_answer 15 "TradeLineLaw") (hr : meth.sig.returnType = none) (hz : s.heap.size = sz) (hρ : rsh ρ) {a : AS} {x6 : Int32} {x8 : Int32} {x9 : Int32} {x10 : Int32} {x11 : Int64} {x13 : Int32}  {k15 : AS → Int32 → Int32 → Int32 → Int32 → Option (AS × Int32)} (hk15 : ∀ (a1 : AS) (z6 : Int32) (z8 : Int32) (z9 : Int32) (z10 : Int32), k15 a1 z6 z8 z9 z10 = some r0 → G p l e ({ frames := 2, cells := 0, slots := 0, locals := 48 } : Room) s m args below meth c D E (Aof (mx M a0, ρ) [] s.heap.size) 15 (MQ below (cQ D E sz (mx M a0, ρ) [] (pV (fun u => u = ((mx M r0.1, ρ), [])))) args s 0 0 (Aof (mx M a0, ρ) [] s.heap.size)) (mx M a1, ρ) [] 0 0 15 [(0, .ref (ρ.2.2.2 (40 + 1) 0)), (1, .ref (ρ.2.2.2 (40 + 2) 0)), (2, .ref (ρ.2.2.2 (40 + 3) 0)), (3, .ref (ρ.2.2.2 (40 + 4) 0)), (4, .ref (ρ.2.2.2 (40 + 5) 0)), (5, .ref (ρ.2.2.2 (40 + 12) 0)), (6, .int z6), (8, .int z8), (9, .int z9), (10, .int z10)] []) (h : b_L_answer_83 k15 w a x6 x8 x9 x10 x11 x13  = some r0) : G p l e ({ frames := 2, cells := 0, slots := 0, locals := 48 } : Room) s m args below meth c D E (Aof (mx M a0, ρ) [] s.heap.size) 15 (MQ below (cQ D E sz (mx M a0, ρ) [] (pV (fun u => u = ((mx M r0.1, ρ), [])))) args s 0 0 (Aof (mx M a0, ρ) [] s.heap.size)) (mx M a, ρ) [] 0 0 83 [(0, .ref (ρ.2.2.2 (40 + 1) 0)), (1, .ref (ρ.2.2.2 (40 + 2) 0)), (2, .ref (ρ.2.2.2 (40 + 3) 0)), (3, .ref (ρ.2.2.2 (40 + 4) 0)), (4, .ref (ρ.2.2.2 (40 + 5) 0)), (5, .ref (ρ.2.2.2 (40 + 12) 0)), (6, .int x6), (8, .int x8), (9, .int x9), (10, .int x10), (11, .long x11), (13, .int x13)] [] := by
  unfold b_L_answer_83 at h
  refine g_iconst (v := (0 : Int32)) C dL_answer_83 (by decide) ?_
  refine g_lv [0, 1, 2, 3, 4, 5, 6, 7, 8, 9, 10, 11] rfl ?_
  exact lb_L_answer_84 C hr hz hρ hk15 h
noncomputable def b_L_answer_33 (k15 : AS → Int32 → Int32 → Int32 → Int32 → Option (AS × Int32)) (w : Nat) (a : AS) (x6 : Int32) (x8 : Int32) (x9 : Int32) (x10 : Int32) (s0 : Nat) : Option (AS × Int32) := bif lnB s0 64 then bif ixB x10 64 then yl ((lgA a s0 x10.toNatClampNeg)) (fun t6 => yl ((Int64.toInt32 (t6 &&& (15 : Int64)))) (fun t7 => (if t7 = (5 : Int32) then (bif ixB (0 : Int32) 22 then (if ((a 1 (0 : Int32).toNatClampNeg) - (Int64.toInt32 (t6 >>> (Int32.toInt64 (37 : Int32) &&& 63)))) ≤ (20 : Int32) then (b_L_answer_83 k15 w a x6 x8 x9 x10 t6 t7) else ((if (lcv ((t6 >>> (Int32.toInt64 (4 : Int32) &&& 63)) &&& (1 : Int64)) (0 : Int64)) = (0 : Int32) then (b_L_answer_84 k15 w a x6 x8 x9 x10 t6 t7 (1 : Int32)) else (b_L_answer_83 k15 w a x6 x8 x9 x10 t6 t7)))) else none) else (b_L_answer_83 k15 w a x6 x8 x9 x10 t6 t7)))) else none else none
set_option maxHeartbeats 4000000 in
set_option maxRecDepth 100000 in
theorem lb_L_answer_33 {p : Program} {l : Launch} {e : Env} {s : State} {m : MethodId} {args : Array Value} {below : List Frame} {meth : Method} {c : Code} {D : va_G} {E : Nat → ClassId} {sz : Nat} {M : Nat → Nat → Nat → Int32} {a0 : AS} {ρ : YR} {w : Nat} {r0 : AS × Int32} (C : cx p s m args meth c D E (Aof (mx M a0, ρ) [] s.heap.size) cL_answer 15 "TradeLineLaw") (hr : meth.sig.returnType = none) (hz : s.heap.size = sz) (hρ : rsh ρ) {a : AS} {x6 : Int32} {x8 : Int32} {x9 : Int32} {x10 : Int32} {s0 : Nat} {k15 : AS → Int32 → Int32 → Int32 → Int32 → Option (AS × Int32)} (hk15 : ∀ (a1 : AS) (z6 : Int32) (z8 : Int32) (z9 : Int32) (z10 : Int32), k15 a1 z6 z8 z9 z10 = some r0 → G p l e ({ frames := 2, cells := 0, slots := 0, locals := 48 } : Room) s m args below meth c D E (Aof (mx M a0, ρ) [] s.heap.size) 15 (MQ below (cQ D E sz (mx M a0, ρ) [] (pV (fun u => u = ((mx M r0.1, ρ), [])))) args s 0 0 (Aof (mx M a0, ρ) [] s.heap.size)) (mx M a1, ρ) [] 0 0 15 [(0, .ref (ρ.2.2.2 (40 + 1) 0)), (1, .ref (ρ.2.2.2 (40 + 2) 0)), (2, .ref (ρ.2.2.2 (40 + 3) 0)), (3, .ref (ρ.2.2.2 (40 + 4) 0)), (4, .ref (ρ.2.2.2 (40 + 5) 0)), (5, .ref (ρ.2.2.2 (40 + 12) 0)), (6, .int z6), (8, .int z8), (9, .int z9), (10, .int z10)] []) (h : b_L_answer_33 k15 w a x6 x8 x9 x10 s0 = some r0) : G p l e ({ frames := 2, cells := 0, slots := 0, locals := 48 } : Room) s m args below meth c D E (Aof (mx M a0, ρ) [] s.heap.size) 15 (MQ below (cQ D E sz (mx M a0, ρ) [] (pV (fun u => u = ((mx M r0.1, ρ), [])))) args s 0 0 (Aof (mx M a0, ρ) [] s.heap.size)) (mx M a, ρ) [] 0 0 33 [(0, .ref (ρ.2.2.2 (40 + 1) 0)), (1, .ref (ρ.2.2.2 (40 + 2) 0)), (2, .ref (ρ.2.2.2 (40 + 3) 0)), (3, .ref (ρ.2.2.2 (40 + 4) 0)), (4, .ref (ρ.2.2.2 (40 + 5) 0)), (5, .ref (ρ.2.2.2 (40 + 12) 0)), (6, .int x6), (8, .int x8), (9, .int x9), (10, .int x10)] [.ref (ρ.2.2.2 (40 + s0) 0)] := by
  unfold b_L_answer_33 at h
  refine g_iload C dL_answer_33 9 rfl ?_
  obtain ⟨g4, h⟩ := of_guard h
  obtain ⟨g5, h⟩ := of_guard h
  refine q_lald C hρ (j := s0) (N := 64) g4 rfl g5 dL_answer_35 ?_
  refine q_topl (fun t6 et6 => ?_)
  replace h := yl_of h et6
  refine g_lstore (lv' := [(11, .long t6), (0, .ref (ρ.2.2.2 (40 + 1) 0)), (1, .ref (ρ.2.2.2 (40 + 2) 0)), (2, .ref (ρ.2.2.2 (40 + 3) 0)), (3, .ref (ρ.2.2.2 (40 + 4) 0)), (4, .ref (ρ.2.2.2 (40 + 5) 0)), (5, .ref (ρ.2.2.2 (40 + 12) 0)), (6, .int x6), (8, .int x8), (9, .int x9), (10, .int x10)]) C dL_answer_36 (by decide) rfl ?_
  refine g_lload C dL_answer_38 0 rfl ?_
  refine g_ldc2 (v := (15 : Int64)) C gw_999 dL_answer_40 ?_
  refine g_land C dL_answer_43 ?_
  refine g_l2i C dL_answer_44 ?_
  refine q_topi (fun t7 et7 => ?_)
  replace h := yl_of h et7
  refine g_istore (lv' := [(13, .int t7), (11, .long t6), (0, .ref (ρ.2.2.2 (40 + 1) 0)), (1, .ref (ρ.2.2.2 (40 + 2) 0)), (2, .ref (ρ.2.2.2 (40 + 3) 0)), (3, .ref (ρ.2.2.2 (40 + 4) 0)), (4, .ref (ρ.2.2.2 (40 + 5) 0)), (5, .ref (ρ.2.2.2 (40 + 12) 0)), (6, .int x6), (8, .int x8), (9, .int x9), (10, .int x10)]) C dL_answer_45 (by decide) rfl ?_
  refine g_iload C dL_answer_47 0 rfl ?_
  refine g_iconst (v := (5 : Int32)) C dL_answer_49 (by decide) ?_
  refine g_icmp_ne (tgt := 83) C dL_answer_50 (by decide) (fun c50 => ?_) (fun c50 => ?_)
  · replace h := (if_neg c50).symm.trans h
    refine g_lv [2, 3, 4, 5, 6, 7, 8, 9, 10, 11, 1, 0] rfl ?_
    exact lb_L_answer_83 C hr hz hρ hk15 h
  · replace h := (if_pos c50).symm.trans h
    refine g_aload_n C dL_answer_53 rfl 2 rfl ?_
    refine g_iconst (v := (0 : Int32)) C dL_answer_54 (by decide) ?_
    obtain ⟨g17, h⟩ := of_guard h
    refine q_iald C hρ (j := 1) (N := 22) (by decide) rfl g17 dL_answer_55 ?_
    refine g_lload C dL_answer_56 1 rfl ?_
    refine g_bipush (v := (37 : Int32)) C dL_answer_58 (by decide) ?_
    refine g_lshr C dL_answer_60 ?_
    refine g_l2i C dL_answer_61 ?_
    refine g_isub C dL_answer_62 ?_
    refine g_bipush (v := (20 : Int32)) C dL_answer_63 (by decide) ?_
    refine g_icmp_le (tgt := 83) C dL_answer_65 (by decide) (fun c65 => ?_) (fun c65 => ?_)
    · replace h := (if_pos c65).symm.trans h
      refine g_lv [2, 3, 4, 5, 6, 7, 8, 9, 10, 11, 1, 0] rfl ?_
      exact lb_L_answer_83 C hr hz hρ hk15 h
    · replace h := (if_neg c65).symm.trans h
      refine g_lload C dL_answer_68 1 rfl ?_
      refine g_iconst (v := (4 : Int32)) C dL_answer_70 (by decide) ?_
      refine g_lshr C dL_answer_71 ?_
      refine g_lconst (v := (1 : Int64)) C dL_answer_72 (by decide) ?_
      refine g_land C dL_answer_73 ?_
      refine g_lconst (v := (0 : Int64)) C dL_answer_74 (by decide) ?_
      refine g_lcmp C dL_answer_75 ?_
      refine g_if_ne (tgt := 83) C dL_answer_76 (by decide) (fun c76 => ?_) (fun c76 => ?_)
      · replace h := (if_neg c76).symm.trans h
        refine g_lv [2, 3, 4, 5, 6, 7, 8, 9, 10, 11, 1, 0] rfl ?_
        exact lb_L_answer_83 C hr hz hρ hk15 h
      · replace h := (if_pos c76).symm.trans h
        refine g_iconst (v := (1 : Int32)) C dL_answer_79 (by decide) ?_
        refine g_goto (tgt := 84) C dL_answer_80 (by decide) ?_
        refine g_lv [2, 3, 4, 5, 6, 7, 8, 9, 10, 11, 1, 0] rfl ?_
        exact lb_L_answer_84 C hr hz hρ hk15 h
noncomputable def b_L_answer_15 (k15 : AS → Int32 → Int32 → Int32 → Int32 → Option (AS × Int32)) (w : Nat) (a : AS) (x6 : Int32) (x8 : Int32) (x9 : Int32) (x10 : Int32)  : Option (AS × Int32) := (if x9 < x10 then ((if x8 ≤ (0 : Int32) then (some (a, (0 : Int32))) else ((f_L_go w a x6 x8 (x9 + (1 : Int32))).bind (fun v3 => some (v3.1, (0 : Int32)))))) else ((if x6 = (0 : Int32) then (b_L_answer_33 k15 w a x6 x8 x9 x10 4) else (b_L_answer_33 k15 w a x6 x8 x9 x10 5))))
set_option maxHeartbeats 4000000 in
set_option maxRecDepth 100000 in
theorem lb_L_answer_15 {p : Program} {l : Launch} {e : Env} {s : State} {m : MethodId} {args : Array Value} {below : List Frame} {meth : Method} {c : Code} {D : va_G} {E : Nat → ClassId} {sz : Nat} {M : Nat → Nat → Nat → Int32} {a0 : AS} {ρ : YR} {w : Nat} {r0 : AS × Int32} (C : cx p s m args meth c D E (Aof (mx M a0, ρ) [] s.heap.size) cL_answer 15 "TradeLineLaw") (hr : meth.sig.returnType = none) (hz : s.heap.size = sz) (hρ : rsh ρ) {a : AS} {x6 : Int32} {x8 : Int32} {x9 : Int32} {x10 : Int32}  {k15 : AS → Int32 → Int32 → Int32 → Int32 → Option (AS × Int32)} (hk15 : ∀ (a1 : AS) (z6 : Int32) (z8 : Int32) (z9 : Int32) (z10 : Int32), k15 a1 z6 z8 z9 z10 = some r0 → G p l e ({ frames := 2, cells := 0, slots := 0, locals := 48 } : Room) s m args below meth c D E (Aof (mx M a0, ρ) [] s.heap.size) 15 (MQ below (cQ D E sz (mx M a0, ρ) [] (pV (fun u => u = ((mx M r0.1, ρ), [])))) args s 0 0 (Aof (mx M a0, ρ) [] s.heap.size)) (mx M a1, ρ) [] 0 0 15 [(0, .ref (ρ.2.2.2 (40 + 1) 0)), (1, .ref (ρ.2.2.2 (40 + 2) 0)), (2, .ref (ρ.2.2.2 (40 + 3) 0)), (3, .ref (ρ.2.2.2 (40 + 4) 0)), (4, .ref (ρ.2.2.2 (40 + 5) 0)), (5, .ref (ρ.2.2.2 (40 + 12) 0)), (6, .int z6), (8, .int z8), (9, .int z9), (10, .int z10)] []) (h : b_L_answer_15 k15 w a x6 x8 x9 x10  = some r0) : G p l e ({ frames := 2, cells := 0, slots := 0, locals := 48 } : Room) s m args below meth c D E (Aof (mx M a0, ρ) [] s.heap.size) 15 (MQ below (cQ D E sz (mx M a0, ρ) [] (pV (fun u => u = ((mx M r0.1, ρ), [])))) args s 0 0 (Aof (mx M a0, ρ) [] s.heap.size)) (mx M a, ρ) [] 0 0 15 [(0, .ref (ρ.2.2.2 (40 + 1) 0)), (1, .ref (ρ.2.2.2 (40 + 2) 0)), (2, .ref (ρ.2.2.2 (40 + 3) 0)), (3, .ref (ρ.2.2.2 (40 + 4) 0)), (4, .ref (ρ.2.2.2 (40 + 5) 0)), (5, .ref (ρ.2.2.2 (40 + 12) 0)), (6, .int x6), (8, .int x8), (9, .int x9), (10, .int x10)] [] := by
  unfold b_L_answer_15 at h
  refine g_iload C dL_answer_15 9 rfl ?_
  refine g_iload C dL_answer_17 8 rfl ?_
  refine g_icmp_gt (tgt := 190) C dL_answer_19 (by decide) (fun c19 => ?_) (fun c19 => ?_)
  · replace h := (if_pos c19).symm.trans h
    refine g_iload C dL_answer_190 7 rfl ?_
    refine g_if_le (tgt := 209) C dL_answer_192 (by decide) (fun c192 => ?_) (fun c192 => ?_)
    · replace h := (if_pos c192).symm.trans h
      obtain rfl := Option.some.inj h
      exact g_vret C hr hz ⟨rfl, rfl, fun _ => rfl, fun _ => rfl⟩ rfl (fun j x h => by simp at h) dL_answer_209
    · replace h := (if_neg c192).symm.trans h
      refine g_aload_n C dL_answer_195 rfl 0 rfl ?_
      refine g_aload_n C dL_answer_196 rfl 1 rfl ?_
      refine g_aload_n C dL_answer_197 rfl 2 rfl ?_
      refine g_iload C dL_answer_198 6 rfl ?_
      refine g_iload C dL_answer_200 7 rfl ?_
      refine g_iload C dL_answer_202 8 rfl ?_
      refine g_iconst (v := (1 : Int32)) C dL_answer_204 (by decide) ?_
      refine g_iadd C dL_answer_205 ?_
      obtain ⟨v3, hv3, h⟩ := bind_of h
      refine g_cSv (n := 6) (exc := []) (exr := []) C [_, _, _, _, _, _] _ rfl rfl [] [] rfl rfl rfl rfl (fun _ h => absurd h (by simp)) (fun _ h => absurd h (by simp)) (fun _ h => absurd h (by simp)) (fun sz => k_L_go l M ρ hρ w _ _ _ _ _ hv3 D E sz) rfl gw_461 gw_0 gw_459 gw_460 ⟨by decide +kernel, by decide +kernel, by decide +kernel⟩ ⟨rfl, rfl⟩ ⟨Nat.le_of_ble_eq_true rfl, Nat.le_of_ble_eq_true rfl⟩ (Nat.le_of_ble_eq_true rfl) dL_answer_206 ⟨by decide, by decide⟩ (fun u hp hx => ?_)
      obtain rfl := hp
      try dsimp only [List.append_nil]
      obtain rfl := Option.some.inj h
      exact g_vret C hr hz ⟨rfl, rfl, fun _ => rfl, fun _ => rfl⟩ rfl (fun j x h => by simp at h) dL_answer_209
  · replace h := (if_neg c19).symm.trans h
    refine g_iload C dL_answer_22 6 rfl ?_
    refine g_if_ne (tgt := 31) C dL_answer_24 (by decide) (fun c24 => ?_) (fun c24 => ?_)
    · replace h := (if_neg c24).symm.trans h
      refine g_aload C dL_answer_31 4 rfl ?_
      refine g_lv [0, 1, 2, 3, 4, 5, 6, 7, 8, 9] rfl ?_
      exact lb_L_answer_33 C hr hz hρ hk15 h
    · replace h := (if_pos c24).symm.trans h
      refine g_aload_n C dL_answer_27 rfl 3 rfl ?_
      refine g_goto (tgt := 33) C dL_answer_28 (by decide) ?_
      refine g_lv [0, 1, 2, 3, 4, 5, 6, 7, 8, 9] rfl ?_
      exact lb_L_answer_33 C hr hz hρ hk15 h
noncomputable def l_L_answer_15  (w : Nat) : Nat → AS → Int32 → Int32 → Int32 → Int32 → Option (AS × Int32)
  | 0 => fun _ _ _ _ _ => none
  | n + 1 => fun a x6 x8 x9 x10 => b_L_answer_15  (l_L_answer_15  w n) w a x6 x8 x9 x10
theorem ll_L_answer_15 {p : Program} {l : Launch} {e : Env} {s : State} {m : MethodId} {args : Array Value} {below : List Frame} {meth : Method} {c : Code} {D : va_G} {E : Nat → ClassId} {sz : Nat} {M : Nat → Nat → Nat → Int32} {a0 : AS} {ρ : YR} {w : Nat} {r0 : AS × Int32} (C : cx p s m args meth c D E (Aof (mx M a0, ρ) [] s.heap.size) cL_answer 15 "TradeLineLaw") (hr : meth.sig.returnType = none) (hz : s.heap.size = sz) (hρ : rsh ρ)   : ∀ (n : Nat) (a : AS) (x6 : Int32) (x8 : Int32) (x9 : Int32) (x10 : Int32), l_L_answer_15  w n a x6 x8 x9 x10 = some r0 → G p l e ({ frames := 2, cells := 0, slots := 0, locals := 48 } : Room) s m args below meth c D E (Aof (mx M a0, ρ) [] s.heap.size) 15 (MQ below (cQ D E sz (mx M a0, ρ) [] (pV (fun u => u = ((mx M r0.1, ρ), [])))) args s 0 0 (Aof (mx M a0, ρ) [] s.heap.size)) (mx M a, ρ) [] 0 0 15 [(0, .ref (ρ.2.2.2 (40 + 1) 0)), (1, .ref (ρ.2.2.2 (40 + 2) 0)), (2, .ref (ρ.2.2.2 (40 + 3) 0)), (3, .ref (ρ.2.2.2 (40 + 4) 0)), (4, .ref (ρ.2.2.2 (40 + 5) 0)), (5, .ref (ρ.2.2.2 (40 + 12) 0)), (6, .int x6), (8, .int x8), (9, .int x9), (10, .int x10)] [] := by
  intro n
  induction n with
  | zero => exact fun a x6 x8 x9 x10 h => absurd (show (none : Option (AS × Int32)) = some r0 from h) (by simp)
  | succ n ih => exact fun a x6 x8 x9 x10 h => lb_L_answer_15 (w := w) C hr hz hρ  ih h
noncomputable def f_L_answer  (w : Nat) (a : AS) (x6 : Int32) (x7 : Int32)  : Option (AS × Int32) := bif ixB ((4 : Int32) + x6) 22 then yl ((a 1 ((4 : Int32) + x6).toNatClampNeg)) (fun t2 => l_L_answer_15  w w a x6 (0 : Int32) t2 x7) else none
set_option maxHeartbeats 4000000 in
set_option maxRecDepth 100000 in
theorem lb_L_answer_0 {p : Program} {l : Launch} {e : Env} {s : State} {m : MethodId} {args : Array Value} {below : List Frame} {meth : Method} {c : Code} {D : va_G} {E : Nat → ClassId} {sz : Nat} {M : Nat → Nat → Nat → Int32} {a0 : AS} {ρ : YR} {w : Nat} {r0 : AS × Int32} (C : cx p s m args meth c D E (Aof (mx M a0, ρ) [] s.heap.size) cL_answer 15 "TradeLineLaw") (hr : meth.sig.returnType = none) (hz : s.heap.size = sz) (hρ : rsh ρ) {a : AS} {x6 : Int32} {x7 : Int32}    (h : f_L_answer  w a x6 x7  = some r0) : G p l e ({ frames := 2, cells := 0, slots := 0, locals := 48 } : Room) s m args below meth c D E (Aof (mx M a0, ρ) [] s.heap.size) 15 (MQ below (cQ D E sz (mx M a0, ρ) [] (pV (fun u => u = ((mx M r0.1, ρ), [])))) args s 0 0 (Aof (mx M a0, ρ) [] s.heap.size)) (mx M a, ρ) [] 0 0 0 [(0, .ref (ρ.2.2.2 (40 + 1) 0)), (1, .ref (ρ.2.2.2 (40 + 2) 0)), (2, .ref (ρ.2.2.2 (40 + 3) 0)), (3, .ref (ρ.2.2.2 (40 + 4) 0)), (4, .ref (ρ.2.2.2 (40 + 5) 0)), (5, .ref (ρ.2.2.2 (40 + 12) 0)), (6, .int x6), (7, .int x7)] [] := by
  unfold f_L_answer at h
  refine g_iconst (v := (0 : Int32)) C dL_answer_0 (by decide) ?_
  refine g_istore (lv' := [(8, .int (0 : Int32)), (0, .ref (ρ.2.2.2 (40 + 1) 0)), (1, .ref (ρ.2.2.2 (40 + 2) 0)), (2, .ref (ρ.2.2.2 (40 + 3) 0)), (3, .ref (ρ.2.2.2 (40 + 4) 0)), (4, .ref (ρ.2.2.2 (40 + 5) 0)), (5, .ref (ρ.2.2.2 (40 + 12) 0)), (6, .int x6), (7, .int x7)]) C dL_answer_1 (by decide) rfl ?_
  refine g_aload_n C dL_answer_3 rfl 1 rfl ?_
  refine g_iconst (v := (4 : Int32)) C dL_answer_4 (by decide) ?_
  refine g_iload C dL_answer_5 7 rfl ?_
  refine g_iadd C dL_answer_7 ?_
  obtain ⟨g1, h⟩ := of_guard h
  refine q_iald C hρ (j := 1) (N := 22) (by decide) rfl g1 dL_answer_8 ?_
  refine q_topi (fun t2 et2 => ?_)
  replace h := yl_of h et2
  refine g_istore (lv' := [(9, .int t2), (8, .int (0 : Int32)), (0, .ref (ρ.2.2.2 (40 + 1) 0)), (1, .ref (ρ.2.2.2 (40 + 2) 0)), (2, .ref (ρ.2.2.2 (40 + 3) 0)), (3, .ref (ρ.2.2.2 (40 + 4) 0)), (4, .ref (ρ.2.2.2 (40 + 5) 0)), (5, .ref (ρ.2.2.2 (40 + 12) 0)), (6, .int x6), (7, .int x7)]) C dL_answer_9 (by decide) rfl ?_
  refine g_iload C dL_answer_11 9 rfl ?_
  refine g_istore (lv' := [(10, .int x7), (9, .int t2), (8, .int (0 : Int32)), (0, .ref (ρ.2.2.2 (40 + 1) 0)), (1, .ref (ρ.2.2.2 (40 + 2) 0)), (2, .ref (ρ.2.2.2 (40 + 3) 0)), (3, .ref (ρ.2.2.2 (40 + 4) 0)), (4, .ref (ρ.2.2.2 (40 + 5) 0)), (5, .ref (ρ.2.2.2 (40 + 12) 0)), (6, .int x6), (7, .int x7)]) C dL_answer_13 (by decide) rfl ?_
  refine g_lv [3, 4, 5, 6, 7, 8, 9, 2, 1, 0] rfl ?_
  exact ll_L_answer_15 C hr hz hρ  w _ _ _ _ _ h
theorem k_L_answer (l : Launch) (M : Nat → Nat → Nat → Int32) (ρ : YR) (hρ : rsh ρ) (w : Nat) (a : AS) (x6 : Int32) (x7 : Int32) (r0 : AS × Int32) (h : f_L_answer w a x6 x7 = some r0) : ∀ D E sz, Met l yL_answer gwL_answer ({ frames := 2, cells := 0, slots := 0, locals := 48 } : Room) (cP D E sz (mx M a, ρ) [] [.ref (ρ.2.2.2 (40 + 1) 0), .ref (ρ.2.2.2 (40 + 2) 0), .ref (ρ.2.2.2 (40 + 3) 0), .ref (ρ.2.2.2 (40 + 4) 0), .ref (ρ.2.2.2 (40 + 5) 0), .ref (ρ.2.2.2 (40 + 12) 0), .int x6, .int x7]) (cQ D E sz (mx M a, ρ) [] (pV (fun u => u = ((mx M r0.1, ρ), [])))) (0) (0) (Aof (mx M a, ρ) [] sz) := by
  intro D E sz
  refine g_of (cc := cL_answer) (maxL := 15) (ret := none) (own := "TradeLineLaw") (by decide) rfl rfl (Nat.le_of_ble_eq_true rfl) ?_
  intro p e s m args below meth c C hr hin hz ha hwr
  refine g_lv [0, 1, 2, 3, 4, 5, 6, 7] rfl ?_
  exact lb_L_answer_0 C hr hz hρ h
