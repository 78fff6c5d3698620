noncomputable def b_X9_order_118  (w : Nat) (a : AS) (x2 x3 s0 s1 s2 s3 : Int32) : Option (AS × Int32) := (f_X9_sends w a s3 s2 s1 s0 x2 x3).bind (fun v10 => some (v10.1, ((v10.1 0 22) - (1 : Int32))))
set_option maxHeartbeats 4000000 in
set_option maxRecDepth 100000 in
theorem lb_X9_order_118 {p : Program} {l : Launch} {e : Env} {s : State} {m : MethodId} {args : Array Value} {below : List Frame} {meth : Method} {c : Code} {D : va_G} {E : Nat → ClassId} {sz : Nat} {M : Nat → Nat → Nat → Int32} {a0 : AS} {ρ : YR} {w : Nat} {r0 : AS × Int32} (C : cx p s m args meth c D E (Aof (mx M a0, ρ) [] s.heap.size) cX9_order 4 "TradeLineModel") (hr : meth.sig.returnType = (some .int)) (hz : s.heap.size = sz) (hρ : rsh ρ) {a : AS} {x2 x3 s0 s1 s2 s3 : Int32}   (h : b_X9_order_118  w a x2 x3 s0 s1 s2 s3 = some r0) : G p l e ({ frames := 3, cells := 0, slots := 0, locals := 73 } : Room) s m args below meth c D E (Aof (mx M a0, ρ) [] s.heap.size) 4 (MQ below (cQ D E sz (mx M a0, ρ) [] (pI (fun r u => r = r0.2 ∧ u = ((mx M r0.1, ρ), [])))) args s 0 0 (Aof (mx M a0, ρ) [] s.heap.size)) (mx M a, ρ) [] 0 0 118 [(0, .ref (ρ.2.2.2 40 0)), (2, .int x2), (3, .int x3)] [.int s0, .int s1, .int s2, .int s3, .ref (ρ.2.2.2 40 0)] := by
  unfold b_X9_order_118 at h
  refine g_iload_n C dX9_order_118 rfl 1 rfl ?_
  refine g_iload_n C dX9_order_119 rfl 2 rfl ?_
  obtain ⟨v10, hv10, h⟩ := bind_of h
  refine g_cVv (n := 6) (exc := []) (exr := []) C [_, _, _, _, _, _] _ rfl rfl [] [] rfl rfl rfl rfl (fun _ h => absurd h (by simp)) (fun _ h => absurd h (by simp)) (fun _ h => absurd h (by simp)) (fun sz => k_X9_sends l M ρ hρ w _ _ _ _ _ _ _ _ hv10 D E sz) rfl gw_1476 gw_9 gw_1473 gw_1475 gs_41 ⟨by decide +kernel, by decide +kernel, by decide +kernel⟩ ⟨rfl, rfl⟩ ⟨Nat.le_of_ble_eq_true rfl, Nat.le_of_ble_eq_true rfl⟩ (rcvT (lvY0 hρ) rfl rfl rfl) (Nat.le_of_ble_eq_true rfl) dX9_order_120 ⟨by decide, by decide⟩ (fun u hp hx => ?_)
  obtain rfl := hp
  try dsimp only [List.append_nil]
  refine g_aload_n C dX9_order_123 rfl 0 rfl ?_
  refine g_get (k := 40) (i := 0) (ref := "TradeLineModel") (v := .int (v10.1 0 22)) C rfl (lvY0 hρ) rfl rfl inGX9 22 (by decide) gw_1351 (fun _ h => h) rfl dX9_order_124 ?_
  refine g_iconst (v := (1 : Int32)) C dX9_order_127 (by decide) ?_
  refine g_isub C dX9_order_128 ?_
  obtain rfl := Option.some.inj h
  exact g_iret C hr rfl hz ⟨rfl, rfl, fun _ => rfl, fun _ => rfl⟩ ⟨rfl, rfl⟩ (fun j x h => by simp at h) dX9_order_129
noncomputable def b_X9_order_48  (w : Nat) (a : AS) (x1 x2 x3 s0 : Int32) : Option (AS × Int32) := yl (up2 a 0 0 s0) (fun a2 => (if (a2 0 0) ≤ (0 : Int32) then (bif ixB (a2 0 22) 40 then yl (up2 a2 23 (a2 0 22).toNatClampNeg (vp_nar .boolean x1)) (fun a4 => bif ixB (a4 0 22) 80 then yl (up2 a4 25 (a4 0 22).toNatClampNeg x2) (fun a6 => bif ixB (a6 0 22) 80 then yl (up2 a6 26 (a6 0 22).toNatClampNeg x3) (fun a8 => yl (up2 a8 0 22 ((a8 0 22) + (1 : Int32))) (fun a9 => (if x1 = (0 : Int32) then (b_X9_order_118  w a9 x2 x3 (0 : Int32) ((a9 0 22) - (1 : Int32)) (5 : Int32) (0 : Int32)) else (b_X9_order_118  w a9 x2 x3 (1 : Int32) ((a9 0 22) - (1 : Int32)) (5 : Int32) (0 : Int32))))) else none) else none) else none) else (some (a2, (0 : Int32)))))
set_option maxHeartbeats 4000000 in
set_option maxRecDepth 100000 in
theorem lb_X9_order_48 {p : Program} {l : Launch} {e : Env} {s : State} {m : MethodId} {args : Array Value} {below : List Frame} {meth : Method} {c : Code} {D : va_G} {E : Nat → ClassId} {sz : Nat} {M : Nat → Nat → Nat → Int32} {a0 : AS} {ρ : YR} {w : Nat} {r0 : AS × Int32} (C : cx p s m args meth c D E (Aof (mx M a0, ρ) [] s.heap.size) cX9_order 4 "TradeLineModel") (hr : meth.sig.returnType = (some .int)) (hz : s.heap.size = sz) (hρ : rsh ρ) {a : AS} {x1 x2 x3 s0 : Int32}   (h : b_X9_order_48  w a x1 x2 x3 s0 = some r0) : G p l e ({ frames := 3, cells := 0, slots := 0, locals := 73 } : Room) s m args below meth c D E (Aof (mx M a0, ρ) [] s.heap.size) 4 (MQ below (cQ D E sz (mx M a0, ρ) [] (pI (fun r u => r = r0.2 ∧ u = ((mx M r0.1, ρ), [])))) args s 0 0 (Aof (mx M a0, ρ) [] s.heap.size)) (mx M a, ρ) [] 0 0 48 [(0, .ref (ρ.2.2.2 40 0)), (1, .int x1), (2, .int x2), (3, .int x3)] [.int s0, .ref (ρ.2.2.2 40 0)] := by
  unfold b_X9_order_48 at h
  refine q_put C hρ (j := 0) (by decide) gw_1329 rfl rfl (tyX9_ok 0 (by decide)) rfl rfl (by simp [fvs, up1]) dX9_order_48 (fun a2 ea2 => ?_)
  replace h := yl_of h ea2
  refine g_aload_n C dX9_order_51 rfl 0 rfl ?_
  refine g_get (k := 40) (i := 0) (ref := "TradeLineModel") (v := .int (a2 0 0)) C rfl (lvY0 hρ) rfl rfl inGX9 0 (by decide) gw_1329 (fun _ h => h) rfl dX9_order_52 ?_
  refine g_if_le (tgt := 60) C dX9_order_55 (by decide) (fun c55 => ?_) (fun c55 => ?_)
  · replace h := (if_pos c55).symm.trans h
    refine g_aload_n C dX9_order_60 rfl 0 rfl ?_
    refine g_get (k := 40) (i := 0) (ref := "TradeLineModel") (v := .ref (ρ.2.2.2 (40 + 23) 0)) C rfl (lvY0 hρ) rfl rfl inGX9 23 (by decide) gw_1352 (fun _ h => h) rfl dX9_order_61 ?_
    refine g_aload_n C dX9_order_64 rfl 0 rfl ?_
    refine g_get (k := 40) (i := 0) (ref := "TradeLineModel") (v := .int (a2 0 22)) C rfl (lvY0 hρ) rfl rfl inGX9 22 (by decide) gw_1351 (fun _ h => h) rfl dX9_order_65 ?_
    refine g_iload_n C dX9_order_68 rfl 1 rfl ?_
    obtain ⟨g3, h⟩ := of_guard h
    refine q_zast C hρ (j := 23) (N := 40) (List.mem_of_getElem? (i := 19) rfl) rfl rfl g3 dX9_order_69 (fun a4 ea4 => ?_)
    replace h := yl_of h ea4
    refine g_aload_n C dX9_order_70 rfl 0 rfl ?_
    refine g_get (k := 40) (i := 0) (ref := "TradeLineModel") (v := .ref (ρ.2.2.2 (40 + 25) 0)) C rfl (lvY0 hρ) rfl rfl inGX9 25 (by decide) gw_1354 (fun _ h => h) rfl dX9_order_71 ?_
    refine g_aload_n C dX9_order_74 rfl 0 rfl ?_
    refine g_get (k := 40) (i := 0) (ref := "TradeLineModel") (v := .int (a4 0 22)) C rfl (lvY0 hρ) rfl rfl inGX9 22 (by decide) gw_1351 (fun _ h => h) rfl dX9_order_75 ?_
    refine g_iload_n C dX9_order_78 rfl 2 rfl ?_
    obtain ⟨g5, h⟩ := of_guard h
    refine q_iast C hρ (j := 25) (N := 80) (List.mem_of_getElem? (i := 21) rfl) rfl rfl g5 dX9_order_79 (fun a6 ea6 => ?_)
    replace h := yl_of h ea6
    refine g_aload_n C dX9_order_80 rfl 0 rfl ?_
    refine g_get (k := 40) (i := 0) (ref := "TradeLineModel") (v := .ref (ρ.2.2.2 (40 + 26) 0)) C rfl (lvY0 hρ) rfl rfl inGX9 26 (by decide) gw_1355 (fun _ h => h) rfl dX9_order_81 ?_
    refine g_aload_n C dX9_order_84 rfl 0 rfl ?_
    refine g_get (k := 40) (i := 0) (ref := "TradeLineModel") (v := .int (a6 0 22)) C rfl (lvY0 hρ) rfl rfl inGX9 22 (by decide) gw_1351 (fun _ h => h) rfl dX9_order_85 ?_
    refine g_iload_n C dX9_order_88 rfl 3 rfl ?_
    obtain ⟨g7, h⟩ := of_guard h
    refine q_iast C hρ (j := 26) (N := 80) (List.mem_of_getElem? (i := 22) rfl) rfl rfl g7 dX9_order_89 (fun a8 ea8 => ?_)
    replace h := yl_of h ea8
    refine g_aload_n C dX9_order_90 rfl 0 rfl ?_
    refine g_dup C dX9_order_91 rfl ?_
    refine g_get (k := 40) (i := 0) (ref := "TradeLineModel") (v := .int (a8 0 22)) C rfl (lvY0 hρ) rfl rfl inGX9 22 (by decide) gw_1351 (fun _ h => h) rfl dX9_order_92 ?_
    refine g_iconst (v := (1 : Int32)) C dX9_order_95 (by decide) ?_
    refine g_iadd C dX9_order_96 ?_
    refine q_put C hρ (j := 22) (by decide) gw_1351 rfl rfl (tyX9_ok 22 (by decide)) rfl rfl (by simp [fvs, up1]) dX9_order_97 (fun a9 ea9 => ?_)
    replace h := yl_of h ea9
    refine g_aload_n C dX9_order_100 rfl 0 rfl ?_
    refine g_iconst (v := (0 : Int32)) C dX9_order_101 (by decide) ?_
    refine g_iconst (v := (5 : Int32)) C dX9_order_102 (by decide) ?_
    refine g_aload_n C dX9_order_103 rfl 0 rfl ?_
    refine g_get (k := 40) (i := 0) (ref := "TradeLineModel") (v := .int (a9 0 22)) C rfl (lvY0 hρ) rfl rfl inGX9 22 (by decide) gw_1351 (fun _ h => h) rfl dX9_order_104 ?_
    refine g_iconst (v := (1 : Int32)) C dX9_order_107 (by decide) ?_
    refine g_isub C dX9_order_108 ?_
    refine g_iload_n C dX9_order_109 rfl 1 rfl ?_
    refine g_if_eq (tgt := 117) C dX9_order_110 (by decide) (fun c110 => ?_) (fun c110 => ?_)
    · replace h := (if_pos c110).symm.trans h
      refine g_iconst (v := (0 : Int32)) C dX9_order_117 (by decide) ?_
      refine g_lv [0, 2, 3] rfl ?_
      exact lb_X9_order_118 C hr hz hρ  h
    · replace h := (if_neg c110).symm.trans h
      refine g_iconst (v := (1 : Int32)) C dX9_order_113 (by decide) ?_
      refine g_goto (tgt := 118) C dX9_order_114 (by decide) ?_
      refine g_lv [0, 2, 3] rfl ?_
      exact lb_X9_order_118 C hr hz hρ  h
  · replace h := (if_neg c55).symm.trans h
    refine g_iconst (v := (0 : Int32)) C dX9_order_58 (by decide) ?_
    obtain rfl := Option.some.inj h
    exact g_iret C hr rfl hz ⟨rfl, rfl, fun _ => rfl, fun _ => rfl⟩ ⟨rfl, rfl⟩ (fun j x h => by simp at h) dX9_order_59
noncomputable def b_X9_order_21  (w : Nat) (a : AS) (x1 x2 x3 : Int32) : Option (AS × Int32) := b_X9_order_48  w a x1 x2 x3 (1 : Int32)
set_option maxHeartbeats 4000000 in
set_option maxRecDepth 100000 in
theorem lb_X9_order_21 {p : Program} {l : Launch} {e : Env} {s : State} {m : MethodId} {args : Array Value} {below : List Frame} {meth : Method} {c : Code} {D : va_G} {E : Nat → ClassId} {sz : Nat} {M : Nat → Nat → Nat → Int32} {a0 : AS} {ρ : YR} {w : Nat} {r0 : AS × Int32} (C : cx p s m args meth c D E (Aof (mx M a0, ρ) [] s.heap.size) cX9_order 4 "TradeLineModel") (hr : meth.sig.returnType = (some .int)) (hz : s.heap.size = sz) (hρ : rsh ρ) {a : AS} {x1 x2 x3 : Int32}   (h : b_X9_order_21  w a x1 x2 x3 = some r0) : G p l e ({ frames := 3, cells := 0, slots := 0, locals := 73 } : Room) s m args below meth c D E (Aof (mx M a0, ρ) [] s.heap.size) 4 (MQ below (cQ D E sz (mx M a0, ρ) [] (pI (fun r u => r = r0.2 ∧ u = ((mx M r0.1, ρ), [])))) args s 0 0 (Aof (mx M a0, ρ) [] s.heap.size)) (mx M a, ρ) [] 0 0 21 [(0, .ref (ρ.2.2.2 40 0)), (1, .int x1), (2, .int x2), (3, .int x3)] [.ref (ρ.2.2.2 40 0)] := by
  unfold b_X9_order_21 at h
  refine g_iconst (v := (1 : Int32)) C dX9_order_21 (by decide) ?_
  refine g_goto (tgt := 48) C dX9_order_22 (by decide) ?_
  refine g_lv [0, 1, 2, 3] rfl ?_
  exact lb_X9_order_48 C hr hz hρ  h
noncomputable def b_X9_order_43  (w : Nat) (a : AS) (x1 x2 x3 : Int32) : Option (AS × Int32) := b_X9_order_48  w a x1 x2 x3 (2 : Int32)
set_option maxHeartbeats 4000000 in
set_option maxRecDepth 100000 in
theorem lb_X9_order_43 {p : Program} {l : Launch} {e : Env} {s : State} {m : MethodId} {args : Array Value} {below : List Frame} {meth : Method} {c : Code} {D : va_G} {E : Nat → ClassId} {sz : Nat} {M : Nat → Nat → Nat → Int32} {a0 : AS} {ρ : YR} {w : Nat} {r0 : AS × Int32} (C : cx p s m args meth c D E (Aof (mx M a0, ρ) [] s.heap.size) cX9_order 4 "TradeLineModel") (hr : meth.sig.returnType = (some .int)) (hz : s.heap.size = sz) (hρ : rsh ρ) {a : AS} {x1 x2 x3 : Int32}   (h : b_X9_order_43  w a x1 x2 x3 = some r0) : G p l e ({ frames := 3, cells := 0, slots := 0, locals := 73 } : Room) s m args below meth c D E (Aof (mx M a0, ρ) [] s.heap.size) 4 (MQ below (cQ D E sz (mx M a0, ρ) [] (pI (fun r u => r = r0.2 ∧ u = ((mx M r0.1, ρ), [])))) args s 0 0 (Aof (mx M a0, ρ) [] s.heap.size)) (mx M a, ρ) [] 0 0 43 [(0, .ref (ρ.2.2.2 40 0)), (1, .int x1), (2, .int x2), (3, .int x3)] [.ref (ρ.2.2.2 40 0)] := by
  unfold b_X9_order_43 at h
  refine g_iconst (v := (2 : Int32)) C dX9_order_43 (by decide) ?_
  refine g_goto (tgt := 48) C dX9_order_44 (by decide) ?_
  refine g_lv [0, 1, 2, 3] rfl ?_
  exact lb_X9_order_48 C hr hz hρ  h
noncomputable def f_X9_order  (w : Nat) (a : AS) (x1 x2 x3 : Int32) : Option (AS × Int32) := (f_X9_in w a x2 (1 : Int32) (100 : Int32)).bind (fun v1 => (if v1 = (0 : Int32) then (b_X9_order_21  w a x1 x2 x3) else ((f_X9_in w a x3 (1 : Int32) (100 : Int32)).bind (fun v11 => (if v11 = (0 : Int32) then (b_X9_order_21  w a x1 x2 x3) else (bif ixB (0 : Int32) 2 then (if (a 3 (0 : Int32).toNatClampNeg) = (0 : Int32) then (b_X9_order_43  w a x1 x2 x3) else ((if (a 0 22) = (40 : Int32) then (b_X9_order_43  w a x1 x2 x3) else (b_X9_order_48  w a x1 x2 x3 (0 : Int32))))) else none))))))
set_option maxHeartbeats 4000000 in
set_option maxRecDepth 100000 in
theorem lb_X9_order_0 {p : Program} {l : Launch} {e : Env} {s : State} {m : MethodId} {args : Array Value} {below : List Frame} {meth : Method} {c : Code} {D : va_G} {E : Nat → ClassId} {sz : Nat} {M : Nat → Nat → Nat → Int32} {a0 : AS} {ρ : YR} {w : Nat} {r0 : AS × Int32} (C : cx p s m args meth c D E (Aof (mx M a0, ρ) [] s.heap.size) cX9_order 4 "TradeLineModel") (hr : meth.sig.returnType = (some .int)) (hz : s.heap.size = sz) (hρ : rsh ρ) {a : AS} {x1 x2 x3 : Int32}   (h : f_X9_order  w a x1 x2 x3 = some r0) : G p l e ({ frames := 3, cells := 0, slots := 0, locals := 73 } : Room) s m args below meth c D E (Aof (mx M a0, ρ) [] s.heap.size) 4 (MQ below (cQ D E sz (mx M a0, ρ) [] (pI (fun r u => r = r0.2 ∧ u = ((mx M r0.1, ρ), [])))) args s 0 0 (Aof (mx M a0, ρ) [] s.heap.size)) (mx M a, ρ) [] 0 0 0 [(0, .ref (ρ.2.2.2 40 0)), (1, .int x1), (2, .int x2), (3, .int x3)] [] := by
  unfold f_X9_order at h
  refine g_aload_n C dX9_order_0 rfl 0 rfl ?_
  refine g_iload_n C dX9_order_1 rfl 2 rfl ?_
  refine g_iconst (v := (1 : Int32)) C dX9_order_2 (by decide) ?_
  refine g_bipush (v := (100 : Int32)) C dX9_order_3 (by decide) ?_
  obtain ⟨v1, hv1, h⟩ := bind_of h
  refine g_cSi (n := 3) (exc := []) (exr := []) C [_, _, _] _ rfl rfl [] [] rfl rfl rfl rfl (fun _ h => absurd h (by simp)) (fun _ h => absurd h (by simp)) (fun _ h => absurd h (by simp)) (fun sz => k_X9_in l M ρ hρ w _ _ _ _ _ hv1 D E sz) rfl gw_1507 gw_9 gw_1505 gw_1506 ⟨by decide +kernel, by decide +kernel, by decide +kernel⟩ ⟨rfl, rfl⟩ ⟨Nat.le_of_ble_eq_true rfl, Nat.le_of_ble_eq_true rfl⟩ (Nat.le_of_ble_eq_true rfl) dX9_order_5 ⟨by decide, by decide⟩ (fun r u hp hx => ?_)
  obtain ⟨er, rfl⟩ := hp
  rw [er]
  try dsimp only [List.append_nil]
  refine g_if_eq (tgt := 21) C dX9_order_8 (by decide) (fun c8 => ?_) (fun c8 => ?_)
  · replace h := (if_pos c8).symm.trans h
    refine g_lv [0, 1, 2, 3] rfl ?_
    exact lb_X9_order_21 C hr hz hρ  h
  · replace h := (if_neg c8).symm.trans h
    refine g_iload_n C dX9_order_11 rfl 3 rfl ?_
    refine g_iconst (v := (1 : Int32)) C dX9_order_12 (by decide) ?_
    refine g_bipush (v := (100 : Int32)) C dX9_order_13 (by decide) ?_
    obtain ⟨v11, hv11, h⟩ := bind_of h
    refine g_cSi (n := 3) (exc := []) (exr := []) C [_, _, _] _ rfl rfl [] [] rfl rfl rfl rfl (fun _ h => absurd h (by simp)) (fun _ h => absurd h (by simp)) (fun _ h => absurd h (by simp)) (fun sz => k_X9_in l M ρ hρ w _ _ _ _ _ hv11 D E sz) rfl gw_1507 gw_9 gw_1505 gw_1506 ⟨by decide +kernel, by decide +kernel, by decide +kernel⟩ ⟨rfl, rfl⟩ ⟨Nat.le_of_ble_eq_true rfl, Nat.le_of_ble_eq_true rfl⟩ (Nat.le_of_ble_eq_true rfl) dX9_order_15 ⟨by decide, by decide⟩ (fun r u hp hx => ?_)
    obtain ⟨er, rfl⟩ := hp
    rw [er]
    try dsimp only [List.append_nil]
    refine g_if_ne (tgt := 25) C dX9_order_18 (by decide) (fun c18 => ?_) (fun c18 => ?_)
    · replace h := (if_neg c18).symm.trans h
      refine g_aload_n C dX9_order_25 rfl 0 rfl ?_
      refine g_get (k := 40) (i := 0) (ref := "TradeLineModel") (v := .ref (ρ.2.2.2 (40 + 3) 0)) C rfl (lvY0 hρ) rfl rfl inGX9 3 (by decide) gw_1332 (fun _ h => h) rfl dX9_order_26 ?_
      refine g_iconst (v := (0 : Int32)) C dX9_order_29 (by decide) ?_
      obtain ⟨g12, h⟩ := of_guard h
      refine q_zald C hρ (j := 3) (N := 2) (List.mem_of_getElem? (i := 0) rfl) rfl rfl g12 dX9_order_30 ?_
      refine g_if_eq (tgt := 43) C dX9_order_31 (by decide) (fun c31 => ?_) (fun c31 => ?_)
      · replace h := (if_pos c31).symm.trans h
        refine g_lv [0, 1, 2, 3] rfl ?_
        exact lb_X9_order_43 C hr hz hρ  h
      · replace h := (if_neg c31).symm.trans h
        refine g_aload_n C dX9_order_34 rfl 0 rfl ?_
        refine g_get (k := 40) (i := 0) (ref := "TradeLineModel") (v := .int (a 0 22)) C rfl (lvY0 hρ) rfl rfl inGX9 22 (by decide) gw_1351 (fun _ h => h) rfl dX9_order_35 ?_
        refine g_bipush (v := (40 : Int32)) C dX9_order_38 (by decide) ?_
        refine g_icmp_ne (tgt := 47) C dX9_order_40 (by decide) (fun c40 => ?_) (fun c40 => ?_)
        · replace h := (if_neg c40).symm.trans h
          refine g_iconst (v := (0 : Int32)) C dX9_order_47 (by decide) ?_
          refine g_lv [0, 1, 2, 3] rfl ?_
          exact lb_X9_order_48 C hr hz hρ  h
        · replace h := (if_pos c40).symm.trans h
          refine g_lv [0, 1, 2, 3] rfl ?_
          exact lb_X9_order_43 C hr hz hρ  h
    · replace h := (if_pos c18).symm.trans h
      refine g_lv [0, 1, 2, 3] rfl ?_
      exact lb_X9_order_21 C hr hz hρ  h
theorem k_X9_order (l : Launch) (M : Nat → Nat → Nat → Int32) (ρ : YR) (hρ : rsh ρ) (w : Nat) (a : AS) (x1 x2 x3 : Int32) (r0 : AS × Int32) (h : f_X9_order w a x1 x2 x3 = some r0) : ∀ D E sz, Met l yX9_order gwX9_order ({ frames := 3, cells := 0, slots := 0, locals := 73 } : Room) (cP D E sz (mx M a, ρ) [] [.ref (ρ.2.2.2 40 0), .int x1, .int x2, .int x3]) (cQ D E sz (mx M a, ρ) [] (pI (fun r u => r = r0.2 ∧ u = ((mx M r0.1, ρ), [])))) (0) (0) (Aof (mx M a, ρ) [] sz) := by
  intro D E sz
  refine g_of (cc := cX9_order) (maxL := 4) (ret := (some .int)) (own := "TradeLineModel") (by decide) rfl rfl (Nat.le_of_ble_eq_true rfl) ?_
  intro p e s m args below meth c C hr hin hz ha hwr
  refine g_lv [0, 1, 2, 3] rfl ?_
  exact lb_X9_order_0 C hr hz hρ h
noncomputable def f_X9_canAsk  (w : Nat) (a : AS) (x1 : Int32) : Option (Int32) := bif ixB (0 : Int32) 2 then (if (a 3 (0 : Int32).toNatClampNeg) = (0 : Int32) then (some (0 : Int32)) else ((f_X9_stateIn w a x1).bind (fun v2 => (if v2 = (2 : Int32) then (some (0 : Int32)) else (bif ixB x1 40 then (if (5 : Int32) ≤ (a 30 x1.toNatClampNeg) then (some (0 : Int32)) else (some (1 : Int32))) else none))))) else none
set_option maxHeartbeats 4000000 in
set_option maxRecDepth 100000 in
theorem lb_X9_canAsk_0 {p : Program} {l : Launch} {e : Env} {s : State} {m : MethodId} {args : Array Value} {below : List Frame} {meth : Method} {c : Code} {D : va_G} {E : Nat → ClassId} {sz : Nat} {M : Nat → Nat → Nat → Int32} {a : AS} {ρ : YR} {w : Nat} {r0 : Int32} (C : cx p s m args meth c D E (Aof (mx M a, ρ) [] s.heap.size) cX9_canAsk 2 "TradeLineModel") (hr : meth.sig.returnType = (some .boolean)) (hz : s.heap.size = sz) (hρ : rsh ρ) {x1 : Int32}   (h : f_X9_canAsk  w a x1 = some r0) : G p l e ({ frames := 2, cells := 0, slots := 0, locals := 42 } : Room) s m args below meth c D E (Aof (mx M a, ρ) [] s.heap.size) 2 (MQ below (cQ D E sz (mx M a, ρ) [] (pI (fun r u => r = r0 ∧ u = ((mx M a, ρ), [])))) args s 0 0 (Aof (mx M a, ρ) [] s.heap.size)) (mx M a, ρ) [] 0 0 0 [(0, .ref (ρ.2.2.2 40 0)), (1, .int x1)] [] := by
  unfold f_X9_canAsk at h
  refine g_aload_n C dX9_canAsk_0 rfl 0 rfl ?_
  refine g_get (k := 40) (i := 0) (ref := "TradeLineModel") (v := .ref (ρ.2.2.2 (40 + 3) 0)) C rfl (lvY0 hρ) rfl rfl inGX9 3 (by decide) gw_1332 (fun _ h => h) rfl dX9_canAsk_1 ?_
  refine g_iconst (v := (0 : Int32)) C dX9_canAsk_4 (by decide) ?_
  obtain ⟨g1, h⟩ := of_guard h
  refine q_zald C hρ (j := 3) (N := 2) (List.mem_of_getElem? (i := 0) rfl) rfl rfl g1 dX9_canAsk_5 ?_
  refine g_if_eq (tgt := 32) C dX9_canAsk_6 (by decide) (fun c6 => ?_) (fun c6 => ?_)
  · replace h := (if_pos c6).symm.trans h
    refine g_iconst (v := (0 : Int32)) C dX9_canAsk_32 (by decide) ?_
    exact g_iret C hr rfl hz ⟨rfl, rfl, fun _ => rfl, fun _ => rfl⟩ ⟨Option.some.inj h, rfl⟩ (fun j x h => by simp at h) dX9_canAsk_33
  · replace h := (if_neg c6).symm.trans h
    refine g_aload_n C dX9_canAsk_9 rfl 0 rfl ?_
    refine g_iload_n C dX9_canAsk_10 rfl 1 rfl ?_
    obtain ⟨v2, hv2, h⟩ := bind_of h
    refine g_cVi (n := 1) (exc := []) (exr := []) C [_] _ rfl rfl [] [] rfl rfl rfl rfl (fun _ h => absurd h (by simp)) (fun _ h => absurd h (by simp)) (fun _ h => absurd h (by simp)) (fun sz => k_X9_stateIn l M ρ hρ w _ _ _ hv2 D E sz) rfl gw_1683 gw_9 gw_1680 gw_1682 gs_76 ⟨by decide +kernel, by decide +kernel, by decide +kernel⟩ ⟨rfl, rfl⟩ ⟨Nat.le_of_ble_eq_true rfl, Nat.le_of_ble_eq_true rfl⟩ (rcvT (lvY0 hρ) rfl rfl rfl) (Nat.le_of_ble_eq_true rfl) dX9_canAsk_11 ⟨by decide, by decide⟩ (fun r u hp hx => ?_)
    obtain ⟨er, rfl⟩ := hp
    rw [er]
    try dsimp only [List.append_nil]
    refine g_iconst (v := (2 : Int32)) C dX9_canAsk_14 (by decide) ?_
    refine g_icmp_eq (tgt := 32) C dX9_canAsk_15 (by decide) (fun c15 => ?_) (fun c15 => ?_)
    · replace h := (if_pos c15).symm.trans h
      refine g_iconst (v := (0 : Int32)) C dX9_canAsk_32 (by decide) ?_
      exact g_iret C hr rfl hz ⟨rfl, rfl, fun _ => rfl, fun _ => rfl⟩ ⟨Option.some.inj h, rfl⟩ (fun j x h => by simp at h) dX9_canAsk_33
    · replace h := (if_neg c15).symm.trans h
      refine g_aload_n C dX9_canAsk_18 rfl 0 rfl ?_
      refine g_get (k := 40) (i := 0) (ref := "TradeLineModel") (v := .ref (ρ.2.2.2 (40 + 30) 0)) C rfl (lvY0 hρ) rfl rfl inGX9 30 (by decide) gw_1359 (fun _ h => h) rfl dX9_canAsk_19 ?_
      refine g_iload_n C dX9_canAsk_22 rfl 1 rfl ?_
      obtain ⟨g3, h⟩ := of_guard h
      refine q_iald C hρ (j := 30) (N := 40) (List.mem_of_getElem? (i := 26) rfl) rfl rfl g3 dX9_canAsk_23 ?_
      refine g_iconst (v := (5 : Int32)) C dX9_canAsk_24 (by decide) ?_
      refine g_icmp_ge (tgt := 32) C dX9_canAsk_25 (by decide) (fun c25 => ?_) (fun c25 => ?_)
      · replace h := (if_pos c25).symm.trans h
        refine g_iconst (v := (0 : Int32)) C dX9_canAsk_32 (by decide) ?_
        exact g_iret C hr rfl hz ⟨rfl, rfl, fun _ => rfl, fun _ => rfl⟩ ⟨Option.some.inj h, rfl⟩ (fun j x h => by simp at h) dX9_canAsk_33
      · replace h := (if_neg c25).symm.trans h
        refine g_iconst (v := (1 : Int32)) C dX9_canAsk_28 (by decide) ?_
        refine g_goto (tgt := 33) C dX9_canAsk_29 (by decide) ?_
        exact g_iret C hr rfl hz ⟨rfl, rfl, fun _ => rfl, fun _ => rfl⟩ ⟨Option.some.inj h, rfl⟩ (fun j x h => by simp at h) dX9_canAsk_33
theorem k_X9_canAsk (l : Launch) (M : Nat → Nat → Nat → Int32) (ρ : YR) (hρ : rsh ρ) (w : Nat) (a : AS) (x1 : Int32) (r0 : Int32) (h : f_X9_canAsk w a x1 = some r0) : ∀ D E sz, Met l yX9_canAsk gwX9_canAsk ({ frames := 2, cells := 0, slots := 0, locals := 42 } : Room) (cP D E sz (mx M a, ρ) [] [.ref (ρ.2.2.2 40 0), .int x1]) (cQ D E sz (mx M a, ρ) [] (pI (fun r u => r = r0 ∧ u = ((mx M a, ρ), [])))) (0) (0) (Aof (mx M a, ρ) [] sz) := by
  intro D E sz
  refine g_of (cc := cX9_canAsk) (maxL := 2) (ret := (some .boolean)) (own := "TradeLineModel") (by decide) rfl rfl (Nat.le_of_ble_eq_true rfl) ?_
  intro p e s m args below meth c C hr hin hz ha hwr
  refine g_lv [0, 1] rfl ?_
  exact lb_X9_canAsk_0 C hr hz hρ h
noncomputable def b_X9_cancel_26  (w : Nat) (a : AS) (x1 s0 : Int32) : Option (AS × Int32) := yl (up2 a 0 0 s0) (fun a3 => (if (a3 0 0) ≤ (0 : Int32) then (bif ixB x1 40 then yl (up2 a3 30 x1.toNatClampNeg ((a3 30 x1.toNatClampNeg) + (1 : Int32))) (fun a5 => (f_X9_sends w a5 (0 : Int32) (6 : Int32) x1 (0 : Int32) (0 : Int32) (0 : Int32)).bind (fun v6 => some (v6.1, (v6.1 30 x1.toNatClampNeg)))) else none) else (some (a3, (0 : Int32)))))
set_option maxHeartbeats 4000000 in
set_option maxRecDepth 100000 in
theorem lb_X9_cancel_26 {p : Program} {l : Launch} {e : Env} {s : State} {m : MethodId} {args : Array Value} {below : List Frame} {meth : Method} {c : Code} {D : va_G} {E : Nat → ClassId} {sz : Nat} {M : Nat → Nat → Nat → Int32} {a0 : AS} {ρ : YR} {w : Nat} {r0 : AS × Int32} (C : cx p s m args meth c D E (Aof (mx M a0, ρ) [] s.heap.size) cX9_cancel 2 "TradeLineModel") (hr : meth.sig.returnType = (some .int)) (hz : s.heap.size = sz) (hρ : rsh ρ) {a : AS} {x1 s0 : Int32}   (h : b_X9_cancel_26  w a x1 s0 = some r0) : G p l e ({ frames := 3, cells := 0, slots := 0, locals := 73 } : Room) s m args below meth c D E (Aof (mx M a0, ρ) [] s.heap.size) 2 (MQ below (cQ D E sz (mx M a0, ρ) [] (pI (fun r u => r = r0.2 ∧ u = ((mx M r0.1, ρ), [])))) args s 0 0 (Aof (mx M a0, ρ) [] s.heap.size)) (mx M a, ρ) [] 0 0 26 [(0, .ref (ρ.2.2.2 40 0)), (1, .int x1)] [.int s0, .ref (ρ.2.2.2 40 0)] := by
  unfold b_X9_cancel_26 at h
  refine q_put C hρ (j := 0) (by decide) gw_1329 rfl rfl (tyX9_ok 0 (by decide)) rfl rfl (by simp [fvs, up1]) dX9_cancel_26 (fun a3 ea3 => ?_)
  replace h := yl_of h ea3
  refine g_aload_n C dX9_cancel_29 rfl 0 rfl ?_
  refine g_get (k := 40) (i := 0) (ref := "TradeLineModel") (v := .int (a3 0 0)) C rfl (lvY0 hρ) rfl rfl inGX9 0 (by decide) gw_1329 (fun _ h => h) rfl dX9_cancel_30 ?_
  refine g_if_le (tgt := 38) C dX9_cancel_33 (by decide) (fun c33 => ?_) (fun c33 => ?_)
  · replace h := (if_pos c33).symm.trans h
    refine g_aload_n C dX9_cancel_38 rfl 0 rfl ?_
    refine g_get (k := 40) (i := 0) (ref := "TradeLineModel") (v := .ref (ρ.2.2.2 (40 + 30) 0)) C rfl (lvY0 hρ) rfl rfl inGX9 30 (by decide) gw_1359 (fun _ h => h) rfl dX9_cancel_39 ?_
    refine g_iload_n C dX9_cancel_42 rfl 1 rfl ?_
    refine g_dup2 C dX9_cancel_43 rfl rfl ?_
    obtain ⟨g4, h⟩ := of_guard h
    refine q_iald C hρ (j := 30) (N := 40) (List.mem_of_getElem? (i := 26) rfl) rfl rfl g4 dX9_cancel_44 ?_
    refine g_iconst (v := (1 : Int32)) C dX9_cancel_45 (by decide) ?_
    refine g_iadd C dX9_cancel_46 ?_
    refine q_iast C hρ (j := 30) (N := 40) (List.mem_of_getElem? (i := 26) rfl) rfl rfl g4 dX9_cancel_47 (fun a5 ea5 => ?_)
    replace h := yl_of h ea5
    refine g_aload_n C dX9_cancel_48 rfl 0 rfl ?_
    refine g_iconst (v := (0 : Int32)) C dX9_cancel_49 (by decide) ?_
    refine g_bipush (v := (6 : Int32)) C dX9_cancel_50 (by decide) ?_
    refine g_iload_n C dX9_cancel_52 rfl 1 rfl ?_
    refine g_iconst (v := (0 : Int32)) C dX9_cancel_53 (by decide) ?_
    refine g_iconst (v := (0 : Int32)) C dX9_cancel_54 (by decide) ?_
    refine g_iconst (v := (0 : Int32)) C dX9_cancel_55 (by decide) ?_
    obtain ⟨v6, hv6, h⟩ := bind_of h
    refine g_cVv (n := 6) (exc := []) (exr := []) C [_, _, _, _, _, _] _ rfl rfl [] [] rfl rfl rfl rfl (fun _ h => absurd h (by simp)) (fun _ h => absurd h (by simp)) (fun _ h => absurd h (by simp)) (fun sz => k_X9_sends l M ρ hρ w _ _ _ _ _ _ _ _ hv6 D E sz) rfl gw_1476 gw_9 gw_1473 gw_1475 gs_41 ⟨by decide +kernel, by decide +kernel, by decide +kernel⟩ ⟨rfl, rfl⟩ ⟨Nat.le_of_ble_eq_true rfl, Nat.le_of_ble_eq_true rfl⟩ (rcvT (lvY0 hρ) rfl rfl rfl) (Nat.le_of_ble_eq_true rfl) dX9_cancel_56 ⟨by decide, by decide⟩ (fun u hp hx => ?_)
    obtain rfl := hp
    try dsimp only [List.append_nil]
    refine g_aload_n C dX9_cancel_59 rfl 0 rfl ?_
    refine g_get (k := 40) (i := 0) (ref := "TradeLineModel") (v := .ref (ρ.2.2.2 (40 + 30) 0)) C rfl (lvY0 hρ) rfl rfl inGX9 30 (by decide) gw_1359 (fun _ h => h) rfl dX9_cancel_60 ?_
    refine g_iload_n C dX9_cancel_63 rfl 1 rfl ?_
    refine q_iald C hρ (j := 30) (N := 40) (List.mem_of_getElem? (i := 26) rfl) rfl rfl g4 dX9_cancel_64 ?_
    obtain rfl := Option.some.inj h
    exact g_iret C hr rfl hz ⟨rfl, rfl, fun _ => rfl, fun _ => rfl⟩ ⟨rfl, rfl⟩ (fun j x h => by simp at h) dX9_cancel_65
  · replace h := (if_neg c33).symm.trans h
    refine g_iconst (v := (0 : Int32)) C dX9_cancel_36 (by decide) ?_
    obtain rfl := Option.some.inj h
    exact g_iret C hr rfl hz ⟨rfl, rfl, fun _ => rfl, fun _ => rfl⟩ ⟨rfl, rfl⟩ (fun j x h => by simp at h) dX9_cancel_37
noncomputable def f_X9_cancel  (w : Nat) (a : AS) (x1 : Int32) : Option (AS × Int32) := (f_X9_isOrder w a x1).bind (fun v1 => (if v1 = (0 : Int32) then (b_X9_cancel_26  w a x1 (1 : Int32)) else ((f_X9_canAsk w a x1).bind (fun v2 => (if v2 = (0 : Int32) then (b_X9_cancel_26  w a x1 (2 : Int32)) else (b_X9_cancel_26  w a x1 (0 : Int32)))))))
set_option maxHeartbeats 4000000 in
set_option maxRecDepth 100000 in
theorem lb_X9_cancel_0 {p : Program} {l : Launch} {e : Env} {s : State} {m : MethodId} {args : Array Value} {below : List Frame} {meth : Method} {c : Code} {D : va_G} {E : Nat → ClassId} {sz : Nat} {M : Nat → Nat → Nat → Int32} {a0 : AS} {ρ : YR} {w : Nat} {r0 : AS × Int32} (C : cx p s m args meth c D E (Aof (mx M a0, ρ) [] s.heap.size) cX9_cancel 2 "TradeLineModel") (hr : meth.sig.returnType = (some .int)) (hz : s.heap.size = sz) (hρ : rsh ρ) {a : AS} {x1 : Int32}   (h : f_X9_cancel  w a x1 = some r0) : G p l e ({ frames := 3, cells := 0, slots := 0, locals := 73 } : Room) s m args below meth c D E (Aof (mx M a0, ρ) [] s.heap.size) 2 (MQ below (cQ D E sz (mx M a0, ρ) [] (pI (fun r u => r = r0.2 ∧ u = ((mx M r0.1, ρ), [])))) args s 0 0 (Aof (mx M a0, ρ) [] s.heap.size)) (mx M a, ρ) [] 0 0 0 [(0, .ref (ρ.2.2.2 40 0)), (1, .int x1)] [] := by
  unfold f_X9_cancel at h
  refine g_aload_n C dX9_cancel_0 rfl 0 rfl ?_
  refine g_aload_n C dX9_cancel_1 rfl 0 rfl ?_
  refine g_iload_n C dX9_cancel_2 rfl 1 rfl ?_
  obtain ⟨v1, hv1, h⟩ := bind_of h
  refine g_cVi (n := 1) (exc := []) (exr := []) C [_] _ rfl rfl [] [] rfl rfl rfl rfl (fun _ h => absurd h (by simp)) (fun _ h => absurd h (by simp)) (fun _ h => absurd h (by simp)) (fun sz => k_X9_isOrder l M ρ hρ w _ _ _ hv1 D E sz) rfl gw_1675 gw_9 gw_1672 gw_1674 gs_74 ⟨by decide +kernel, by decide +kernel, by decide +kernel⟩ ⟨rfl, rfl⟩ ⟨Nat.le_of_ble_eq_true rfl, Nat.le_of_ble_eq_true rfl⟩ (rcvT (lvY0 hρ) rfl rfl rfl) (Nat.le_of_ble_eq_true rfl) dX9_cancel_3 ⟨by decide, by decide⟩ (fun r u hp hx => ?_)
  obtain ⟨er, rfl⟩ := hp
  rw [er]
  try dsimp only [List.append_nil]
  refine g_if_ne (tgt := 13) C dX9_cancel_6 (by decide) (fun c6 => ?_) (fun c6 => ?_)
  · replace h := (if_neg c6).symm.trans h
    refine g_aload_n C dX9_cancel_13 rfl 0 rfl ?_
    refine g_iload_n C dX9_cancel_14 rfl 1 rfl ?_
    obtain ⟨v2, hv2, h⟩ := bind_of h
    refine g_cVi (n := 1) (exc := []) (exr := []) C [_] _ rfl rfl [] [] rfl rfl rfl rfl (fun _ h => absurd h (by simp)) (fun _ h => absurd h (by simp)) (fun _ h => absurd h (by simp)) (fun sz => k_X9_canAsk l M ρ hρ w _ _ _ hv2 D E sz) rfl gw_1679 gw_9 gw_1676 gw_1678 gs_75 ⟨by decide +kernel, by decide +kernel, by decide +kernel⟩ ⟨rfl, rfl⟩ ⟨Nat.le_of_ble_eq_true rfl, Nat.le_of_ble_eq_true rfl⟩ (rcvT (lvY0 hρ) rfl rfl rfl) (Nat.le_of_ble_eq_true rfl) dX9_cancel_15 ⟨by decide, by decide⟩ (fun r u hp hx => ?_)
    obtain ⟨er, rfl⟩ := hp
    rw [er]
    try dsimp only [List.append_nil]
    refine g_if_eq (tgt := 25) C dX9_cancel_18 (by decide) (fun c18 => ?_) (fun c18 => ?_)
    · replace h := (if_pos c18).symm.trans h
      refine g_iconst (v := (2 : Int32)) C dX9_cancel_25 (by decide) ?_
      refine g_lv [0, 1] rfl ?_
      exact lb_X9_cancel_26 C hr hz hρ  h
    · replace h := (if_neg c18).symm.trans h
      refine g_iconst (v := (0 : Int32)) C dX9_cancel_21 (by decide) ?_
      refine g_goto (tgt := 26) C dX9_cancel_22 (by decide) ?_
      refine g_lv [0, 1] rfl ?_
      exact lb_X9_cancel_26 C hr hz hρ  h
  · replace h := (if_pos c6).symm.trans h
    refine g_iconst (v := (1 : Int32)) C dX9_cancel_9 (by decide) ?_
    refine g_goto (tgt := 26) C dX9_cancel_10 (by decide) ?_
    refine g_lv [0, 1] rfl ?_
    exact lb_X9_cancel_26 C hr hz hρ  h
theorem k_X9_cancel (l : Launch) (M : Nat → Nat → Nat → Int32) (ρ : YR) (hρ : rsh ρ) (w : Nat) (a : AS) (x1 : Int32) (r0 : AS × Int32) (h : f_X9_cancel w a x1 = some r0) : ∀ D E sz, Met l yX9_cancel gwX9_cancel ({ frames := 3, cells := 0, slots := 0, locals := 73 } : Room) (cP D E sz (mx M a, ρ) [] [.ref (ρ.2.2.2 40 0), .int x1]) (cQ D E sz (mx M a, ρ) [] (pI (fun r u => r = r0.2 ∧ u = ((mx M r0.1, ρ), [])))) (0) (0) (Aof (mx M a, ρ) [] sz) := by
  intro D E sz
  refine g_of (cc := cX9_cancel) (maxL := 2) (ret := (some .int)) (own := "TradeLineModel") (by decide) rfl rfl (Nat.le_of_ble_eq_true rfl) ?_
  intro p e s m args below meth c C hr hin hz ha hwr
  refine g_lv [0, 1] rfl ?_
  exact lb_X9_cancel_0 C hr hz hρ h
noncomputable def b_X9_replace_50  (w : Nat) (a : AS) (x1 x2 x3 s0 : Int32) : Option (AS × Int32) := yl (up2 a 0 0 s0) (fun a3 => (if (a3 0 0) ≤ (0 : Int32) then (bif ixB x1 40 then yl (up2 a3 30 x1.toNatClampNeg ((a3 30 x1.toNatClampNeg) + (1 : Int32))) (fun a5 => (f_X9_sends w a5 (0 : Int32) (7 : Int32) x1 x2 x3 (0 : Int32)).bind (fun v6 => some (v6.1, (v6.1 30 x1.toNatClampNeg)))) else none) else (some (a3, (0 : Int32)))))
set_option maxHeartbeats 4000000 in
set_option maxRecDepth 100000 in
theorem lb_X9_replace_50 {p : Program} {l : Launch} {e : Env} {s : State} {m : MethodId} {args : Array Value} {below : List Frame} {meth : Method} {c : Code} {D : va_G} {E : Nat → ClassId} {sz : Nat} {M : Nat → Nat → Nat → Int32} {a0 : AS} {ρ : YR} {w : Nat} {r0 : AS × Int32} (C : cx p s m args meth c D E (Aof (mx M a0, ρ) [] s.heap.size) cX9_replace 4 "TradeLineModel") (hr : meth.sig.returnType = (some .int)) (hz : s.heap.size = sz) (hρ : rsh ρ) {a : AS} {x1 x2 x3 s0 : Int32}   (h : b_X9_replace_50  w a x1 x2 x3 s0 = some r0) : G p l e ({ frames := 3, cells := 0, slots := 0, locals := 73 } : Room) s m args below meth c D E (Aof (mx M a0, ρ) [] s.heap.size) 4 (MQ below (cQ D E sz (mx M a0, ρ) [] (pI (fun r u => r = r0.2 ∧ u = ((mx M r0.1, ρ), [])))) args s 0 0 (Aof (mx M a0, ρ) [] s.heap.size)) (mx M a, ρ) [] 0 0 50 [(0, .ref (ρ.2.2.2 40 0)), (1, .int x1), (2, .int x2), (3, .int x3)] [.int s0, .ref (ρ.2.2.2 40 0)] := by
  unfold b_X9_replace_50 at h
  refine q_put C hρ (j := 0) (by decide) gw_1329 rfl rfl (tyX9_ok 0 (by decide)) rfl rfl (by simp [fvs, up1]) dX9_replace_50 (fun a3 ea3 => ?_)
  replace h := yl_of h ea3
  refine g_aload_n C dX9_replace_53 rfl 0 rfl ?_
  refine g_get (k := 40) (i := 0) (ref := "TradeLineModel") (v := .int (a3 0 0)) C rfl (lvY0 hρ) rfl rfl inGX9 0 (by decide) gw_1329 (fun _ h => h) rfl dX9_replace_54 ?_
  refine g_if_le (tgt := 62) C dX9_replace_57 (by decide) (fun c57 => ?_) (fun c57 => ?_)
  · replace h := (if_pos c57).symm.trans h
    refine g_aload_n C dX9_replace_62 rfl 0 rfl ?_
    refine g_get (k := 40) (i := 0) (ref := "TradeLineModel") (v := .ref (ρ.2.2.2 (40 + 30) 0)) C rfl (lvY0 hρ) rfl rfl inGX9 30 (by decide) gw_1359 (fun _ h => h) rfl dX9_replace_63 ?_
    refine g_iload_n C dX9_replace_66 rfl 1 rfl ?_
    refine g_dup2 C dX9_replace_67 rfl rfl ?_
    obtain ⟨g4, h⟩ := of_guard h
    refine q_iald C hρ (j := 30) (N := 40) (List.mem_of_getElem? (i := 26) rfl) rfl rfl g4 dX9_replace_68 ?_
    refine g_iconst (v := (1 : Int32)) C dX9_replace_69 (by decide) ?_
    refine g_iadd C dX9_replace_70 ?_
    refine q_iast C hρ (j := 30) (N := 40) (List.mem_of_getElem? (i := 26) rfl) rfl rfl g4 dX9_replace_71 (fun a5 ea5 => ?_)
    replace h := yl_of h ea5
    refine g_aload_n C dX9_replace_72 rfl 0 rfl ?_
    refine g_iconst (v := (0 : Int32)) C dX9_replace_73 (by decide) ?_
    refine g_bipush (v := (7 : Int32)) C dX9_replace_74 (by decide) ?_
    refine g_iload_n C dX9_replace_76 rfl 1 rfl ?_
    refine g_iload_n C dX9_replace_77 rfl 2 rfl ?_
    refine g_iload_n C dX9_replace_78 rfl 3 rfl ?_
    refine g_iconst (v := (0 : Int32)) C dX9_replace_79 (by decide) ?_
    obtain ⟨v6, hv6, h⟩ := bind_of h
    refine g_cVv (n := 6) (exc := []) (exr := []) C [_, _, _, _, _, _] _ rfl rfl [] [] rfl rfl rfl rfl (fun _ h => absurd h (by simp)) (fun _ h => absurd h (by simp)) (fun _ h => absurd h (by simp)) (fun sz => k_X9_sends l M ρ hρ w _ _ _ _ _ _ _ _ hv6 D E sz) rfl gw_1476 gw_9 gw_1473 gw_1475 gs_41 ⟨by decide +kernel, by decide +kernel, by decide +kernel⟩ ⟨rfl, rfl⟩ ⟨Nat.le_of_ble_eq_true rfl, Nat.le_of_ble_eq_true rfl⟩ (rcvT (lvY0 hρ) rfl rfl rfl) (Nat.le_of_ble_eq_true rfl) dX9_replace_80 ⟨by decide, by decide⟩ (fun u hp hx => ?_)
    obtain rfl := hp
    try dsimp only [List.append_nil]
    refine g_aload_n C dX9_replace_83 rfl 0 rfl ?_
    refine g_get (k := 40) (i := 0) (ref := "TradeLineModel") (v := .ref (ρ.2.2.2 (40 + 30) 0)) C rfl (lvY0 hρ) rfl rfl inGX9 30 (by decide) gw_1359 (fun _ h => h) rfl dX9_replace_84 ?_
    refine g_iload_n C dX9_replace_87 rfl 1 rfl ?_
    refine q_iald C hρ (j := 30) (N := 40) (List.mem_of_getElem? (i := 26) rfl) rfl rfl g4 dX9_replace_88 ?_
    obtain rfl := Option.some.inj h
    exact g_iret C hr rfl hz ⟨rfl, rfl, fun _ => rfl, fun _ => rfl⟩ ⟨rfl, rfl⟩ (fun j x h => by simp at h) dX9_replace_89
  · replace h := (if_neg c57).symm.trans h
    refine g_iconst (v := (0 : Int32)) C dX9_replace_60 (by decide) ?_
    obtain rfl := Option.some.inj h
    exact g_iret C hr rfl hz ⟨rfl, rfl, fun _ => rfl, fun _ => rfl⟩ ⟨rfl, rfl⟩ (fun j x h => by simp at h) dX9_replace_61
noncomputable def b_X9_replace_33  (w : Nat) (a : AS) (x1 x2 x3 : Int32) : Option (AS × Int32) := b_X9_replace_50  w a x1 x2 x3 (2 : Int32)
set_option maxHeartbeats 4000000 in
set_option maxRecDepth 100000 in
theorem lb_X9_replace_33 {p : Program} {l : Launch} {e : Env} {s : State} {m : MethodId} {args : Array Value} {below : List Frame} {meth : Method} {c : Code} {D : va_G} {E : Nat → ClassId} {sz : Nat} {M : Nat → Nat → Nat → Int32} {a0 : AS} {ρ : YR} {w : Nat} {r0 : AS × Int32} (C : cx p s m args meth c D E (Aof (mx M a0, ρ) [] s.heap.size) cX9_replace 4 "TradeLineModel") (hr : meth.sig.returnType = (some .int)) (hz : s.heap.size = sz) (hρ : rsh ρ) {a : AS} {x1 x2 x3 : Int32}   (h : b_X9_replace_33  w a x1 x2 x3 = some r0) : G p l e ({ frames := 3, cells := 0, slots := 0, locals := 73 } : Room) s m args below meth c D E (Aof (mx M a0, ρ) [] s.heap.size) 4 (MQ below (cQ D E sz (mx M a0, ρ) [] (pI (fun r u => r = r0.2 ∧ u = ((mx M r0.1, ρ), [])))) args s 0 0 (Aof (mx M a0, ρ) [] s.heap.size)) (mx M a, ρ) [] 0 0 33 [(0, .ref (ρ.2.2.2 40 0)), (1, .int x1), (2, .int x2), (3, .int x3)] [.ref (ρ.2.2.2 40 0)] := by
  unfold b_X9_replace_33 at h
  refine g_iconst (v := (2 : Int32)) C dX9_replace_33 (by decide) ?_
  refine g_goto (tgt := 50) C dX9_replace_34 (by decide) ?_
  refine g_lv [0, 1, 2, 3] rfl ?_
  exact lb_X9_replace_50 C hr hz hρ  h
noncomputable def f_X9_replace  (w : Nat) (a : AS) (x1 x2 x3 : Int32) : Option (AS × Int32) := (f_X9_isOrder w a x1).bind (fun v1 => (if v1 = (0 : Int32) then (b_X9_replace_50  w a x1 x2 x3 (1 : Int32)) else ((f_X9_in w a x2 (1 : Int32) (100 : Int32)).bind (fun v2 => (if v2 = (0 : Int32) then (b_X9_replace_33  w a x1 x2 x3) else ((f_X9_in w a x3 (1 : Int32) (100 : Int32)).bind (fun v7 => (if v7 = (0 : Int32) then (b_X9_replace_33  w a x1 x2 x3) else ((f_X9_canAsk w a x1).bind (fun v8 => (if v8 = (0 : Int32) then (b_X9_replace_50  w a x1 x2 x3 (3 : Int32)) else (b_X9_replace_50  w a x1 x2 x3 (0 : Int32)))))))))))))
set_option maxHeartbeats 4000000 in
set_option maxRecDepth 100000 in
theorem lb_X9_replace_0 {p : Program} {l : Launch} {e : Env} {s : State} {m : MethodId} {args : Array Value} {below : List Frame} {meth : Method} {c : Code} {D : va_G} {E : Nat → ClassId} {sz : Nat} {M : Nat → Nat → Nat → Int32} {a0 : AS} {ρ : YR} {w : Nat} {r0 : AS × Int32} (C : cx p s m args meth c D E (Aof (mx M a0, ρ) [] s.heap.size) cX9_replace 4 "TradeLineModel") (hr : meth.sig.returnType = (some .int)) (hz : s.heap.size = sz) (hρ : rsh ρ) {a : AS} {x1 x2 x3 : Int32}   (h : f_X9_replace  w a x1 x2 x3 = some r0) : G p l e ({ frames := 3, cells := 0, slots := 0, locals := 73 } : Room) s m args below meth c D E (Aof (mx M a0, ρ) [] s.heap.size) 4 (MQ below (cQ D E sz (mx M a0, ρ) [] (pI (fun r u => r = r0.2 ∧ u = ((mx M r0.1, ρ), [])))) args s 0 0 (Aof (mx M a0, ρ) [] s.heap.size)) (mx M a, ρ) [] 0 0 0 [(0, .ref (ρ.2.2.2 40 0)), (1, .int x1), (2, .int x2), (3, .int x3)] [] := by
  unfold f_X9_replace at h
  refine g_aload_n C dX9_replace_0 rfl 0 rfl ?_
  refine g_aload_n C dX9_replace_1 rfl 0 rfl ?_
  refine g_iload_n C dX9_replace_2 rfl 1 rfl ?_
  obtain ⟨v1, hv1, h⟩ := bind_of h
  refine g_cVi (n := 1) (exc := []) (exr := []) C [_] _ rfl rfl [] [] rfl rfl rfl rfl (fun _ h => absurd h (by simp)) (fun _ h => absurd h (by simp)) (fun _ h => absurd h (by simp)) (fun sz => k_X9_isOrder l M ρ hρ w _ _ _ hv1 D E sz) rfl gw_1675 gw_9 gw_1672 gw_1674 gs_74 ⟨by decide +kernel, by decide +kernel, by decide +kernel⟩ ⟨rfl, rfl⟩ ⟨Nat.le_of_ble_eq_true rfl, Nat.le_of_ble_eq_true rfl⟩ (rcvT (lvY0 hρ) rfl rfl rfl) (Nat.le_of_ble_eq_true rfl) dX9_replace_3 ⟨by decide, by decide⟩ (fun r u hp hx => ?_)
  obtain ⟨er, rfl⟩ := hp
  rw [er]
  try dsimp only [List.append_nil]
  refine g_if_ne (tgt := 13) C dX9_replace_6 (by decide) (fun c6 => ?_) (fun c6 => ?_)
  · replace h := (if_neg c6).symm.trans h
    refine g_iload_n C dX9_replace_13 rfl 2 rfl ?_
    refine g_iconst (v := (1 : Int32)) C dX9_replace_14 (by decide) ?_
    refine g_bipush (v := (100 : Int32)) C dX9_replace_15 (by decide) ?_
    obtain ⟨v2, hv2, h⟩ := bind_of h
    refine g_cSi (n := 3) (exc := []) (exr := []) C [_, _, _] _ rfl rfl [] [] rfl rfl rfl rfl (fun _ h => absurd h (by simp)) (fun _ h => absurd h (by simp)) (fun _ h => absurd h (by simp)) (fun sz => k_X9_in l M ρ hρ w _ _ _ _ _ hv2 D E sz) rfl gw_1507 gw_9 gw_1505 gw_1506 ⟨by decide +kernel, by decide +kernel, by decide +kernel⟩ ⟨rfl, rfl⟩ ⟨Nat.le_of_ble_eq_true rfl, Nat.le_of_ble_eq_true rfl⟩ (Nat.le_of_ble_eq_true rfl) dX9_replace_17 ⟨by decide, by decide⟩ (fun r u hp hx => ?_)
    obtain ⟨er, rfl⟩ := hp
    rw [er]
    try dsimp only [List.append_nil]
    refine g_if_eq (tgt := 33) C dX9_replace_20 (by decide) (fun c20 => ?_) (fun c20 => ?_)
    · replace h := (if_pos c20).symm.trans h
      refine g_lv [0, 1, 2, 3] rfl ?_
      exact lb_X9_replace_33 C hr hz hρ  h
    · replace h := (if_neg c20).symm.trans h
      refine g_iload_n C dX9_replace_23 rfl 3 rfl ?_
      refine g_iconst (v := (1 : Int32)) C dX9_replace_24 (by decide) ?_
      refine g_bipush (v := (100 : Int32)) C dX9_replace_25 (by decide) ?_
      obtain ⟨v7, hv7, h⟩ := bind_of h
      refine g_cSi (n := 3) (exc := []) (exr := []) C [_, _, _] _ rfl rfl [] [] rfl rfl rfl rfl (fun _ h => absurd h (by simp)) (fun _ h => absurd h (by simp)) (fun _ h => absurd h (by simp)) (fun sz => k_X9_in l M ρ hρ w _ _ _ _ _ hv7 D E sz) rfl gw_1507 gw_9 gw_1505 gw_1506 ⟨by decide +kernel, by decide +kernel, by decide +kernel⟩ ⟨rfl, rfl⟩ ⟨Nat.le_of_ble_eq_true rfl, Nat.le_of_ble_eq_true rfl⟩ (Nat.le_of_ble_eq_true rfl) dX9_replace_27 ⟨by decide, by decide⟩ (fun r u hp hx => ?_)
      obtain ⟨er, rfl⟩ := hp
      rw [er]
      try dsimp only [List.append_nil]
      refine g_if_ne (tgt := 37) C dX9_replace_30 (by decide) (fun c30 => ?_) (fun c30 => ?_)
      · replace h := (if_neg c30).symm.trans h
        refine g_aload_n C dX9_replace_37 rfl 0 rfl ?_
        refine g_iload_n C dX9_replace_38 rfl 1 rfl ?_
        obtain ⟨v8, hv8, h⟩ := bind_of h
        refine g_cVi (n := 1) (exc := []) (exr := []) C [_] _ rfl rfl [] [] rfl rfl rfl rfl (fun _ h => absurd h (by simp)) (fun _ h => absurd h (by simp)) (fun _ h => absurd h (by simp)) (fun sz => k_X9_canAsk l M ρ hρ w _ _ _ hv8 D E sz) rfl gw_1679 gw_9 gw_1676 gw_1678 gs_75 ⟨by decide +kernel, by decide +kernel, by decide +kernel⟩ ⟨rfl, rfl⟩ ⟨Nat.le_of_ble_eq_true rfl, Nat.le_of_ble_eq_true rfl⟩ (rcvT (lvY0 hρ) rfl rfl rfl) (Nat.le_of_ble_eq_true rfl) dX9_replace_39 ⟨by decide, by decide⟩ (fun r u hp hx => ?_)
        obtain ⟨er, rfl⟩ := hp
        rw [er]
        try dsimp only [List.append_nil]
        refine g_if_eq (tgt := 49) C dX9_replace_42 (by decide) (fun c42 => ?_) (fun c42 => ?_)
        · replace h := (if_pos c42).symm.trans h
          refine g_iconst (v := (3 : Int32)) C dX9_replace_49 (by decide) ?_
          refine g_lv [0, 1, 2, 3] rfl ?_
          exact lb_X9_replace_50 C hr hz hρ  h
        · replace h := (if_neg c42).symm.trans h
          refine g_iconst (v := (0 : Int32)) C dX9_replace_45 (by decide) ?_
          refine g_goto (tgt := 50) C dX9_replace_46 (by decide) ?_
          refine g_lv [0, 1, 2, 3] rfl ?_
          exact lb_X9_replace_50 C hr hz hρ  h
      · replace h := (if_pos c30).symm.trans h
        refine g_lv [0, 1, 2, 3] rfl ?_
        exact lb_X9_replace_33 C hr hz hρ  h
  · replace h := (if_pos c6).symm.trans h
    refine g_iconst (v := (1 : Int32)) C dX9_replace_9 (by decide) ?_
    refine g_goto (tgt := 50) C dX9_replace_10 (by decide) ?_
    refine g_lv [0, 1, 2, 3] rfl ?_
    exact lb_X9_replace_50 C hr hz hρ  h
theorem k_X9_replace (l : Launch) (M : Nat → Nat → Nat → Int32) (ρ : YR) (hρ : rsh ρ) (w : Nat) (a : AS) (x1 x2 x3 : Int32) (r0 : AS × Int32) (h : f_X9_replace w a x1 x2 x3 = some r0) : ∀ D E sz, Met l yX9_replace gwX9_replace ({ frames := 3, cells := 0, slots := 0, locals := 73 } : Room) (cP D E sz (mx M a, ρ) [] [.ref (ρ.2.2.2 40 0), .int x1, .int x2, .int x3]) (cQ D E sz (mx M a, ρ) [] (pI (fun r u => r = r0.2 ∧ u = ((mx M r0.1, ρ), [])))) (0) (0) (Aof (mx M a, ρ) [] sz) := by
  intro D E sz
  refine g_of (cc := cX9_replace) (maxL := 4) (ret := (some .int)) (own := "TradeLineModel") (by decide) rfl rfl (Nat.le_of_ble_eq_true rfl) ?_
  intro p e s m args below meth c C hr hin hz ha hwr
  refine g_lv [0, 1, 2, 3] rfl ?_
  exact lb_X9_replace_0 C hr hz hρ h
noncomputable def b_X9_asksOrder_14  (w : Nat) (a : AS) (s0 : Int32) : Option (AS × Int32) := yl (up2 a 0 0 s0) (fun a2 => (if (a2 0 0) = (0 : Int32) then (some (a2, (1 : Int32))) else (some (a2, (0 : Int32)))))
set_option maxHeartbeats 4000000 in
set_option maxRecDepth 100000 in
theorem lb_X9_asksOrder_14 {p : Program} {l : Launch} {e : Env} {s : State} {m : MethodId} {args : Array Value} {below : List Frame} {meth : Method} {c : Code} {D : va_G} {E : Nat → ClassId} {sz : Nat} {M : Nat → Nat → Nat → Int32} {a0 : AS} {ρ : YR} {w : Nat} {r0 : AS × Int32} (C : cx p s m args meth c D E (Aof (mx M a0, ρ) [] s.heap.size) cX9_asksOrder 2 "TradeLineModel") (hr : meth.sig.returnType = (some .boolean)) (hz : s.heap.size = sz) (hρ : rsh ρ) {a : AS} {s0 : Int32}   (h : b_X9_asksOrder_14  w a s0 = some r0) : G p l e ({ frames := 2, cells := 0, slots := 0, locals := 43 } : Room) s m args below meth c D E (Aof (mx M a0, ρ) [] s.heap.size) 2 (MQ below (cQ D E sz (mx M a0, ρ) [] (pI (fun r u => r = r0.2 ∧ u = ((mx M r0.1, ρ), [])))) args s 0 0 (Aof (mx M a0, ρ) [] s.heap.size)) (mx M a, ρ) [] 0 0 14 [(0, .ref (ρ.2.2.2 40 0))] [.int s0, .ref (ρ.2.2.2 40 0)] := by
  unfold b_X9_asksOrder_14 at h
  refine q_put C hρ (j := 0) (by decide) gw_1329 rfl rfl (tyX9_ok 0 (by decide)) rfl rfl (by simp [fvs, up1]) dX9_asksOrder_14 (fun a2 ea2 => ?_)
  replace h := yl_of h ea2
  refine g_aload_n C dX9_asksOrder_17 rfl 0 rfl ?_
  refine g_get (k := 40) (i := 0) (ref := "TradeLineModel") (v := .int (a2 0 0)) C rfl (lvY0 hρ) rfl rfl inGX9 0 (by decide) gw_1329 (fun _ h => h) rfl dX9_asksOrder_18 ?_
  refine g_if_ne (tgt := 28) C dX9_asksOrder_21 (by decide) (fun c21 => ?_) (fun c21 => ?_)
  · replace h := (if_neg c21).symm.trans h
    refine g_iconst (v := (0 : Int32)) C dX9_asksOrder_28 (by decide) ?_
    obtain rfl := Option.some.inj h
    exact g_iret C hr rfl hz ⟨rfl, rfl, fun _ => rfl, fun _ => rfl⟩ ⟨rfl, rfl⟩ (fun j x h => by simp at h) dX9_asksOrder_29
  · replace h := (if_pos c21).symm.trans h
    refine g_iconst (v := (1 : Int32)) C dX9_asksOrder_24 (by decide) ?_
    refine g_goto (tgt := 29) C dX9_asksOrder_25 (by decide) ?_
    obtain rfl := Option.some.inj h
    exact g_iret C hr rfl hz ⟨rfl, rfl, fun _ => rfl, fun _ => rfl⟩ ⟨rfl, rfl⟩ (fun j x h => by simp at h) dX9_asksOrder_29
noncomputable def f_X9_asksOrder  (w : Nat) (a : AS) (x1 : Int32) : Option (AS × Int32) := (f_X9_isOrder w a x1).bind (fun v1 => (if v1 = (0 : Int32) then (b_X9_asksOrder_14  w a (1 : Int32)) else (b_X9_asksOrder_14  w a (0 : Int32))))
set_option maxHeartbeats 4000000 in
set_option maxRecDepth 100000 in
theorem lb_X9_asksOrder_0 {p : Program} {l : Launch} {e : Env} {s : State} {m : MethodId} {args : Array Value} {below : List Frame} {meth : Method} {c : Code} {D : va_G} {E : Nat → ClassId} {sz : Nat} {M : Nat → Nat → Nat → Int32} {a0 : AS} {ρ : YR} {w : Nat} {r0 : AS × Int32} (C : cx p s m args meth c D E (Aof (mx M a0, ρ) [] s.heap.size) cX9_asksOrder 2 "TradeLineModel") (hr : meth.sig.returnType = (some .boolean)) (hz : s.heap.size = sz) (hρ : rsh ρ) {a : AS} {x1 : Int32}   (h : f_X9_asksOrder  w a x1 = some r0) : G p l e ({ frames := 2, cells := 0, slots := 0, locals := 43 } : Room) s m args below meth c D E (Aof (mx M a0, ρ) [] s.heap.size) 2 (MQ below (cQ D E sz (mx M a0, ρ) [] (pI (fun r u => r = r0.2 ∧ u = ((mx M r0.1, ρ), [])))) args s 0 0 (Aof (mx M a0, ρ) [] s.heap.size)) (mx M a, ρ) [] 0 0 0 [(0, .ref (ρ.2.2.2 40 0)), (1, .int x1)] [] := by
  unfold f_X9_asksOrder at h
  refine g_aload_n C dX9_asksOrder_0 rfl 0 rfl ?_
  refine g_aload_n C dX9_asksOrder_1 rfl 0 rfl ?_
  refine g_iload_n C dX9_asksOrder_2 rfl 1 rfl ?_
  obtain ⟨v1, hv1, h⟩ := bind_of h
  refine g_cVi (n := 1) (exc := []) (exr := []) C [_] _ rfl rfl [] [] rfl rfl rfl rfl (fun _ h => absurd h (by simp)) (fun _ h => absurd h (by simp)) (fun _ h => absurd h (by simp)) (fun sz => k_X9_isOrder l M ρ hρ w _ _ _ hv1 D E sz) rfl gw_1675 gw_9 gw_1672 gw_1674 gs_74 ⟨by decide +kernel, by decide +kernel, by decide +kernel⟩ ⟨rfl, rfl⟩ ⟨Nat.le_of_ble_eq_true rfl, Nat.le_of_ble_eq_true rfl⟩ (rcvT (lvY0 hρ) rfl rfl rfl) (Nat.le_of_ble_eq_true rfl) dX9_asksOrder_3 ⟨by decide, by decide⟩ (fun r u hp hx => ?_)
  obtain ⟨er, rfl⟩ := hp
  rw [er]
  try dsimp only [List.append_nil]
  refine g_if_eq (tgt := 13) C dX9_asksOrder_6 (by decide) (fun c6 => ?_) (fun c6 => ?_)
  · replace h := (if_pos c6).symm.trans h
    refine g_iconst (v := (1 : Int32)) C dX9_asksOrder_13 (by decide) ?_
    refine g_lv [0] rfl ?_
    exact lb_X9_asksOrder_14 C hr hz hρ  h
  · replace h := (if_neg c6).symm.trans h
    refine g_iconst (v := (0 : Int32)) C dX9_asksOrder_9 (by decide) ?_
    refine g_goto (tgt := 14) C dX9_asksOrder_10 (by decide) ?_
    refine g_lv [0] rfl ?_
    exact lb_X9_asksOrder_14 C hr hz hρ  h
theorem k_X9_asksOrder (l : Launch) (M : Nat → Nat → Nat → Int32) (ρ : YR) (hρ : rsh ρ) (w : Nat) (a : AS) (x1 : Int32) (r0 : AS × Int32) (h : f_X9_asksOrder w a x1 = some r0) : ∀ D E sz, Met l yX9_asksOrder gwX9_asksOrder ({ frames := 2, cells := 0, slots := 0, locals := 43 } : Room) (cP D E sz (mx M a, ρ) [] [.ref (ρ.2.2.2 40 0), .int x1]) (cQ D E sz (mx M a, ρ) [] (pI (fun r u => r = r0.2 ∧ u = ((mx M r0.1, ρ), [])))) (0) (0) (Aof (mx M a, ρ) [] sz) := by
  intro D E sz
  refine g_of (cc := cX9_asksOrder) (maxL := 2) (ret := (some .boolean)) (own := "TradeLineModel") (by decide) rfl rfl (Nat.le_of_ble_eq_true rfl) ?_
  intro p e s m args below meth c C hr hin hz ha hwr
  refine g_lv [0, 1] rfl ?_
  exact lb_X9_asksOrder_0 C hr hz hρ h
noncomputable def f_X9_stateOf  (w : Nat) (a : AS) (x1 : Int32) : Option (AS × Int32) := (f_X9_asksOrder w a x1).bind (fun v1 => (if v1.2 = (0 : Int32) then (some (v1.1, (0 : Int32))) else ((f_X9_stateIn w v1.1 x1).bind (fun v2 => some (v1.1, v2)))))
set_option maxHeartbeats 4000000 in
set_option maxRecDepth 100000 in
theorem lb_X9_stateOf_0 {p : Program} {l : Launch} {e : Env} {s : State} {m : MethodId} {args : Array Value} {below : List Frame} {meth : Method} {c : Code} {D : va_G} {E : Nat → ClassId} {sz : Nat} {M : Nat → Nat → Nat → Int32} {a0 : AS} {ρ : YR} {w : Nat} {r0 : AS × Int32} (C : cx p s m args meth c D E (Aof (mx M a0, ρ) [] s.heap.size) cX9_stateOf 2 "TradeLineModel") (hr : meth.sig.returnType = (some .int)) (hz : s.heap.size = sz) (hρ : rsh ρ) {a : AS} {x1 : Int32}   (h : f_X9_stateOf  w a x1 = some r0) : G p l e ({ frames := 3, cells := 0, slots := 0, locals := 64 } : Room) s m args below meth c D E (Aof (mx M a0, ρ) [] s.heap.size) 2 (MQ below (cQ D E sz (mx M a0, ρ) [] (pI (fun r u => r = r0.2 ∧ u = ((mx M r0.1, ρ), [])))) args s 0 0 (Aof (mx M a0, ρ) [] s.heap.size)) (mx M a, ρ) [] 0 0 0 [(0, .ref (ρ.2.2.2 40 0)), (1, .int x1)] [] := by
  unfold f_X9_stateOf at h
  refine g_aload_n C dX9_stateOf_0 rfl 0 rfl ?_
  refine g_iload_n C dX9_stateOf_1 rfl 1 rfl ?_
  obtain ⟨v1, hv1, h⟩ := bind_of h
  refine g_cVi (n := 1) (exc := []) (exr := []) C [_] _ rfl rfl [] [] rfl rfl rfl rfl (fun _ h => absurd h (by simp)) (fun _ h => absurd h (by simp)) (fun _ h => absurd h (by simp)) (fun sz => k_X9_asksOrder l M ρ hρ w _ _ _ hv1 D E sz) rfl gw_1699 gw_9 gw_1696 gw_1698 gs_78 ⟨by decide +kernel, by decide +kernel, by decide +kernel⟩ ⟨rfl, rfl⟩ ⟨Nat.le_of_ble_eq_true rfl, Nat.le_of_ble_eq_true rfl⟩ (rcvT (lvY0 hρ) rfl rfl rfl) (Nat.le_of_ble_eq_true rfl) dX9_stateOf_2 ⟨by decide, by decide⟩ (fun r u hp hx => ?_)
  obtain ⟨er, rfl⟩ := hp
  rw [er]
  try dsimp only [List.append_nil]
  refine g_if_eq (tgt := 16) C dX9_stateOf_5 (by decide) (fun c5 => ?_) (fun c5 => ?_)
  · replace h := (if_pos c5).symm.trans h
    refine g_iconst (v := (0 : Int32)) C dX9_stateOf_16 (by decide) ?_
    obtain rfl := Option.some.inj h
    exact g_iret C hr rfl hz ⟨rfl, rfl, fun _ => rfl, fun _ => rfl⟩ ⟨rfl, rfl⟩ (fun j x h => by simp at h) dX9_stateOf_17
  · replace h := (if_neg c5).symm.trans h
    refine g_aload_n C dX9_stateOf_8 rfl 0 rfl ?_
    refine g_iload_n C dX9_stateOf_9 rfl 1 rfl ?_
    obtain ⟨v2, hv2, h⟩ := bind_of h
    refine g_cVi (n := 1) (exc := []) (exr := []) C [_] _ rfl rfl [] [] rfl rfl rfl rfl (fun _ h => absurd h (by simp)) (fun _ h => absurd h (by simp)) (fun _ h => absurd h (by simp)) (fun sz => k_X9_stateIn l M ρ hρ w _ _ _ hv2 D E sz) rfl gw_1683 gw_9 gw_1680 gw_1682 gs_76 ⟨by decide +kernel, by decide +kernel, by decide +kernel⟩ ⟨rfl, rfl⟩ ⟨Nat.le_of_ble_eq_true rfl, Nat.le_of_ble_eq_true rfl⟩ (rcvT (lvY0 hρ) rfl rfl rfl) (Nat.le_of_ble_eq_true rfl) dX9_stateOf_10 ⟨by decide, by decide⟩ (fun r u hp hx => ?_)
    obtain ⟨er, rfl⟩ := hp
    rw [er]
    try dsimp only [List.append_nil]
    refine g_goto (tgt := 17) C dX9_stateOf_13 (by decide) ?_
    obtain rfl := Option.some.inj h
    exact g_iret C hr rfl hz ⟨rfl, rfl, fun _ => rfl, fun _ => rfl⟩ ⟨rfl, rfl⟩ (fun j x h => by simp at h) dX9_stateOf_17
theorem k_X9_stateOf (l : Launch) (M : Nat → Nat → Nat → Int32) (ρ : YR) (hρ : rsh ρ) (w : Nat) (a : AS) (x1 : Int32) (r0 : AS × Int32) (h : f_X9_stateOf w a x1 = some r0) : ∀ D E sz, Met l yX9_stateOf gwX9_stateOf ({ frames := 3, cells := 0, slots := 0, locals := 64 } : Room) (cP D E sz (mx M a, ρ) [] [.ref (ρ.2.2.2 40 0), .int x1]) (cQ D E sz (mx M a, ρ) [] (pI (fun r u => r = r0.2 ∧ u = ((mx M r0.1, ρ), [])))) (0) (0) (Aof (mx M a, ρ) [] sz) := by
  intro D E sz
  refine g_of (cc := cX9_stateOf) (maxL := 2) (ret := (some .int)) (own := "TradeLineModel") (by decide) rfl rfl (Nat.le_of_ble_eq_true rfl) ?_
  intro p e s m args below meth c C hr hin hz ha hwr
  refine g_lv [0, 1] rfl ?_
  exact lb_X9_stateOf_0 C hr hz hρ h
noncomputable def f_X9_isLeftOut  (w : Nat) (a : AS) (x1 : Int32) : Option (AS × Int32) := (f_X9_asksOrder w a x1).bind (fun v1 => (if v1.2 = (0 : Int32) then (some (v1.1, (0 : Int32))) else (bif ixB x1 40 then (if (v1.1 29 x1.toNatClampNeg) = (0 : Int32) then (some (v1.1, (0 : Int32))) else ((f_X9_isPending w v1.1 x1).bind (fun v3 => (if v3 = (0 : Int32) then (some (v1.1, (0 : Int32))) else (some (v1.1, (1 : Int32))))))) else none)))
set_option maxHeartbeats 4000000 in
set_option maxRecDepth 100000 in
theorem lb_X9_isLeftOut_0 {p : Program} {l : Launch} {e : Env} {s : State} {m : MethodId} {args : Array Value} {below : List Frame} {meth : Method} {c : Code} {D : va_G} {E : Nat → ClassId} {sz : Nat} {M : Nat → Nat → Nat → Int32} {a0 : AS} {ρ : YR} {w : Nat} {r0 : AS × Int32} (C : cx p s m args meth c D E (Aof (mx M a0, ρ) [] s.heap.size) cX9_isLeftOut 2 "TradeLineModel") (hr : meth.sig.returnType = (some .boolean)) (hz : s.heap.size = sz) (hρ : rsh ρ) {a : AS} {x1 : Int32}   (h : f_X9_isLeftOut  w a x1 = some r0) : G p l e ({ frames := 3, cells := 0, slots := 0, locals := 64 } : Room) s m args below meth c D E (Aof (mx M a0, ρ) [] s.heap.size) 2 (MQ below (cQ D E sz (mx M a0, ρ) [] (pI (fun r u => r = r0.2 ∧ u = ((mx M r0.1, ρ), [])))) args s 0 0 (Aof (mx M a0, ρ) [] s.heap.size)) (mx M a, ρ) [] 0 0 0 [(0, .ref (ρ.2.2.2 40 0)), (1, .int x1)] [] := by
  unfold f_X9_isLeftOut at h
  refine g_aload_n C dX9_isLeftOut_0 rfl 0 rfl ?_
  refine g_iload_n C dX9_isLeftOut_1 rfl 1 rfl ?_
  obtain ⟨v1, hv1, h⟩ := bind_of h
  refine g_cVi (n := 1) (exc := []) (exr := []) C [_] _ rfl rfl [] [] rfl rfl rfl rfl (fun _ h => absurd h (by simp)) (fun _ h => absurd h (by simp)) (fun _ h => absurd h (by simp)) (fun sz => k_X9_asksOrder l M ρ hρ w _ _ _ hv1 D E sz) rfl gw_1699 gw_9 gw_1696 gw_1698 gs_78 ⟨by decide +kernel, by decide +kernel, by decide +kernel⟩ ⟨rfl, rfl⟩ ⟨Nat.le_of_ble_eq_true rfl, Nat.le_of_ble_eq_true rfl⟩ (rcvT (lvY0 hρ) rfl rfl rfl) (Nat.le_of_ble_eq_true rfl) dX9_isLeftOut_2 ⟨by decide, by decide⟩ (fun r u hp hx => ?_)
  obtain ⟨er, rfl⟩ := hp
  rw [er]
  try dsimp only [List.append_nil]
  refine g_if_eq (tgt := 29) C dX9_isLeftOut_5 (by decide) (fun c5 => ?_) (fun c5 => ?_)
  · replace h := (if_pos c5).symm.trans h
    refine g_iconst (v := (0 : Int32)) C dX9_isLeftOut_29 (by decide) ?_
    obtain rfl := Option.some.inj h
    exact g_iret C hr rfl hz ⟨rfl, rfl, fun _ => rfl, fun _ => rfl⟩ ⟨rfl, rfl⟩ (fun j x h => by simp at h) dX9_isLeftOut_30
  · replace h := (if_neg c5).symm.trans h
    refine g_aload_n C dX9_isLeftOut_8 rfl 0 rfl ?_
    refine g_get (k := 40) (i := 0) (ref := "TradeLineModel") (v := .ref (ρ.2.2.2 (40 + 29) 0)) C rfl (lvY0 hρ) rfl rfl inGX9 29 (by decide) gw_1358 (fun _ h => h) rfl dX9_isLeftOut_9 ?_
    refine g_iload_n C dX9_isLeftOut_12 rfl 1 rfl ?_
    obtain ⟨g2, h⟩ := of_guard h
    refine q_zald C hρ (j := 29) (N := 40) (List.mem_of_getElem? (i := 25) rfl) rfl rfl g2 dX9_isLeftOut_13 ?_
    refine g_if_eq (tgt := 29) C dX9_isLeftOut_14 (by decide) (fun c14 => ?_) (fun c14 => ?_)
    · replace h := (if_pos c14).symm.trans h
      refine g_iconst (v := (0 : Int32)) C dX9_isLeftOut_29 (by decide) ?_
      obtain rfl := Option.some.inj h
      exact g_iret C hr rfl hz ⟨rfl, rfl, fun _ => rfl, fun _ => rfl⟩ ⟨rfl, rfl⟩ (fun j x h => by simp at h) dX9_isLeftOut_30
    · replace h := (if_neg c14).symm.trans h
      refine g_aload_n C dX9_isLeftOut_17 rfl 0 rfl ?_
      refine g_iload_n C dX9_isLeftOut_18 rfl 1 rfl ?_
      obtain ⟨v3, hv3, h⟩ := bind_of h
      refine g_cVi (n := 1) (exc := []) (exr := []) C [_] _ rfl rfl [] [] rfl rfl rfl rfl (fun _ h => absurd h (by simp)) (fun _ h => absurd h (by simp)) (fun _ h => absurd h (by simp)) (fun sz => k_X9_isPending l M ρ hρ w _ _ _ hv3 D E sz) rfl gw_1687 gw_9 gw_1684 gw_1686 gs_77 ⟨by decide +kernel, by decide +kernel, by decide +kernel⟩ ⟨rfl, rfl⟩ ⟨Nat.le_of_ble_eq_true rfl, Nat.le_of_ble_eq_true rfl⟩ (rcvT (lvY0 hρ) rfl rfl rfl) (Nat.le_of_ble_eq_true rfl) dX9_isLeftOut_19 ⟨by decide, by decide⟩ (fun r u hp hx => ?_)
      obtain ⟨er, rfl⟩ := hp
      rw [er]
      try dsimp only [List.append_nil]
      refine g_if_eq (tgt := 29) C dX9_isLeftOut_22 (by decide) (fun c22 => ?_) (fun c22 => ?_)
      · replace h := (if_pos c22).symm.trans h
        refine g_iconst (v := (0 : Int32)) C dX9_isLeftOut_29 (by decide) ?_
        obtain rfl := Option.some.inj h
        exact g_iret C hr rfl hz ⟨rfl, rfl, fun _ => rfl, fun _ => rfl⟩ ⟨rfl, rfl⟩ (fun j x h => by simp at h) dX9_isLeftOut_30
      · replace h := (if_neg c22).symm.trans h
        refine g_iconst (v := (1 : Int32)) C dX9_isLeftOut_25 (by decide) ?_
        refine g_goto (tgt := 30) C dX9_isLeftOut_26 (by decide) ?_
        obtain rfl := Option.some.inj h
        exact g_iret C hr rfl hz ⟨rfl, rfl, fun _ => rfl, fun _ => rfl⟩ ⟨rfl, rfl⟩ (fun j x h => by simp at h) dX9_isLeftOut_30
theorem k_X9_isLeftOut (l : Launch) (M : Nat → Nat → Nat → Int32) (ρ : YR) (hρ : rsh ρ) (w : Nat) (a : AS) (x1 : Int32) (r0 : AS × Int32) (h : f_X9_isLeftOut w a x1 = some r0) : ∀ D E sz, Met l yX9_isLeftOut gwX9_isLeftOut ({ frames := 3, cells := 0, slots := 0, locals := 64 } : Room) (cP D E sz (mx M a, ρ) [] [.ref (ρ.2.2.2 40 0), .int x1]) (cQ D E sz (mx M a, ρ) [] (pI (fun r u => r = r0.2 ∧ u = ((mx M r0.1, ρ), [])))) (0) (0) (Aof (mx M a, ρ) [] sz) := by
  intro D E sz
  refine g_of (cc := cX9_isLeftOut) (maxL := 2) (ret := (some .boolean)) (own := "TradeLineModel") (by decide) rfl rfl (Nat.le_of_ble_eq_true rfl) ?_
  intro p e s m args below meth c C hr hin hz ha hwr
  refine g_lv [0, 1] rfl ?_
  exact lb_X9_isLeftOut_0 C hr hz hρ h
noncomputable def f_X9_underWay  (w : Nat) (a : AS) (x1 : Int32) : Option (AS × Int32) := (f_X9_asksOrder w a x1).bind (fun v1 => (if v1.2 = (0 : Int32) then (some (v1.1, (0 : Int32))) else (bif ixB x1 40 then some (v1.1, (v1.1 30 x1.toNatClampNeg)) else none)))
set_option maxHeartbeats 4000000 in
set_option maxRecDepth 100000 in
theorem lb_X9_underWay_0 {p : Program} {l : Launch} {e : Env} {s : State} {m : MethodId} {args : Array Value} {below : List Frame} {meth : Method} {c : Code} {D : va_G} {E : Nat → ClassId} {sz : Nat} {M : Nat → Nat → Nat → Int32} {a0 : AS} {ρ : YR} {w : Nat} {r0 : AS × Int32} (C : cx p s m args meth c D E (Aof (mx M a0, ρ) [] s.heap.size) cX9_underWay 2 "TradeLineModel") (hr : meth.sig.returnType = (some .int)) (hz : s.heap.size = sz) (hρ : rsh ρ) {a : AS} {x1 : Int32}   (h : f_X9_underWay  w a x1 = some r0) : G p l e ({ frames := 3, cells := 0, slots := 0, locals := 64 } : Room) s m args below meth c D E (Aof (mx M a0, ρ) [] s.heap.size) 2 (MQ below (cQ D E sz (mx M a0, ρ) [] (pI (fun r u => r = r0.2 ∧ u = ((mx M r0.1, ρ), [])))) args s 0 0 (Aof (mx M a0, ρ) [] s.heap.size)) (mx M a, ρ) [] 0 0 0 [(0, .ref (ρ.2.2.2 40 0)), (1, .int x1)] [] := by
  unfold f_X9_underWay at h
  refine g_aload_n C dX9_underWay_0 rfl 0 rfl ?_
  refine g_iload_n C dX9_underWay_1 rfl 1 rfl ?_
  obtain ⟨v1, hv1, h⟩ := bind_of h
  refine g_cVi (n := 1) (exc := []) (exr := []) C [_] _ rfl rfl [] [] rfl rfl rfl rfl (fun _ h => absurd h (by simp)) (fun _ h => absurd h (by simp)) (fun _ h => absurd h (by simp)) (fun sz => k_X9_asksOrder l M ρ hρ w _ _ _ hv1 D E sz) rfl gw_1699 gw_9 gw_1696 gw_1698 gs_78 ⟨by decide +kernel, by decide +kernel, by decide +kernel⟩ ⟨rfl, rfl⟩ ⟨Nat.le_of_ble_eq_true rfl, Nat.le_of_ble_eq_true rfl⟩ (rcvT (lvY0 hρ) rfl rfl rfl) (Nat.le_of_ble_eq_true rfl) dX9_underWay_2 ⟨by decide, by decide⟩ (fun r u hp hx => ?_)
  obtain ⟨er, rfl⟩ := hp
  rw [er]
  try dsimp only [List.append_nil]
  refine g_if_eq (tgt := 17) C dX9_underWay_5 (by decide) (fun c5 => ?_) (fun c5 => ?_)
  · replace h := (if_pos c5).symm.trans h
    refine g_iconst (v := (0 : Int32)) C dX9_underWay_17 (by decide) ?_
    obtain rfl := Option.some.inj h
    exact g_iret C hr rfl hz ⟨rfl, rfl, fun _ => rfl, fun _ => rfl⟩ ⟨rfl, rfl⟩ (fun j x h => by simp at h) dX9_underWay_18
  · replace h := (if_neg c5).symm.trans h
    refine g_aload_n C dX9_underWay_8 rfl 0 rfl ?_
    refine g_get (k := 40) (i := 0) (ref := "TradeLineModel") (v := .ref (ρ.2.2.2 (40 + 30) 0)) C rfl (lvY0 hρ) rfl rfl inGX9 30 (by decide) gw_1359 (fun _ h => h) rfl dX9_underWay_9 ?_
    refine g_iload_n C dX9_underWay_12 rfl 1 rfl ?_
    obtain ⟨g2, h⟩ := of_guard h
    refine q_iald C hρ (j := 30) (N := 40) (List.mem_of_getElem? (i := 26) rfl) rfl rfl g2 dX9_underWay_13 ?_
    refine g_goto (tgt := 18) C dX9_underWay_14 (by decide) ?_
    obtain rfl := Option.some.inj h
    exact g_iret C hr rfl hz ⟨rfl, rfl, fun _ => rfl, fun _ => rfl⟩ ⟨rfl, rfl⟩ (fun j x h => by simp at h) dX9_underWay_18
theorem k_X9_underWay (l : Launch) (M : Nat → Nat → Nat → Int32) (ρ : YR) (hρ : rsh ρ) (w : Nat) (a : AS) (x1 : Int32) (r0 : AS × Int32) (h : f_X9_underWay w a x1 = some r0) : ∀ D E sz, Met l yX9_underWay gwX9_underWay ({ frames := 3, cells := 0, slots := 0, locals := 64 } : Room) (cP D E sz (mx M a, ρ) [] [.ref (ρ.2.2.2 40 0), .int x1]) (cQ D E sz (mx M a, ρ) [] (pI (fun r u => r = r0.2 ∧ u = ((mx M r0.1, ρ), [])))) (0) (0) (Aof (mx M a, ρ) [] sz) := by
  intro D E sz
  refine g_of (cc := cX9_underWay) (maxL := 2) (ret := (some .int)) (own := "TradeLineModel") (by decide) rfl rfl (Nat.le_of_ble_eq_true rfl) ?_
  intro p e s m args below meth c C hr hin hz ha hwr
  refine g_lv [0, 1] rfl ?_
  exact lb_X9_underWay_0 C hr hz hρ h
noncomputable def b_X9_isAhead_61  (w : Nat) (a : AS) (x1 s0 : Int32) : Option (Int32) := bif ixB x1 40 then (if s0 = (a 23 x1.toNatClampNeg) then (some (1 : Int32)) else (some (0 : Int32))) else none
set_option maxHeartbeats 4000000 in
set_option maxRecDepth 100000 in
theorem lb_X9_isAhead_61 {p : Program} {l : Launch} {e : Env} {s : State} {m : MethodId} {args : Array Value} {below : List Frame} {meth : Method} {c : Code} {D : va_G} {E : Nat → ClassId} {sz : Nat} {M : Nat → Nat → Nat → Int32} {a : AS} {ρ : YR} {w : Nat} {r0 : Int32} (C : cx p s m args meth c D E (Aof (mx M a, ρ) [] s.heap.size) cX9_isAhead 5 "TradeLineModel") (hr : meth.sig.returnType = (some .boolean)) (hz : s.heap.size = sz) (hρ : rsh ρ) {x1 s0 : Int32}   (h : b_X9_isAhead_61  w a x1 s0 = some r0) : G p l e ({ frames := 0, cells := 0, slots := 0, locals := 0 } : Room) s m args below meth c D E (Aof (mx M a, ρ) [] s.heap.size) 5 (MQ below (cQ D E sz (mx M a, ρ) [] (pI (fun r u => r = r0 ∧ u = ((mx M a, ρ), [])))) args s 0 0 (Aof (mx M a, ρ) [] s.heap.size)) (mx M a, ρ) [] 0 0 61 [(0, .ref (ρ.2.2.2 40 0)), (1, .int x1)] [.int s0] := by
  unfold b_X9_isAhead_61 at h
  refine g_aload_n C dX9_isAhead_61 rfl 0 rfl ?_
  refine g_get (k := 40) (i := 0) (ref := "TradeLineModel") (v := .ref (ρ.2.2.2 (40 + 23) 0)) C rfl (lvY0 hρ) rfl rfl inGX9 23 (by decide) gw_1352 (fun _ h => h) rfl dX9_isAhead_62 ?_
  refine g_iload_n C dX9_isAhead_65 rfl 1 rfl ?_
  obtain ⟨g5, h⟩ := of_guard h
  refine q_zald C hρ (j := 23) (N := 40) (List.mem_of_getElem? (i := 19) rfl) rfl rfl g5 dX9_isAhead_66 ?_
  refine g_icmp_ne (tgt := 74) C dX9_isAhead_67 (by decide) (fun c67 => ?_) (fun c67 => ?_)
  · replace h := (if_neg c67).symm.trans h
    refine g_iconst (v := (0 : Int32)) C dX9_isAhead_74 (by decide) ?_
    exact g_iret C hr rfl hz ⟨rfl, rfl, fun _ => rfl, fun _ => rfl⟩ ⟨Option.some.inj h, rfl⟩ (fun j x h => by simp at h) dX9_isAhead_75
  · replace h := (if_pos c67).symm.trans h
    refine g_iconst (v := (1 : Int32)) C dX9_isAhead_70 (by decide) ?_
    refine g_goto (tgt := 75) C dX9_isAhead_71 (by decide) ?_
    exact g_iret C hr rfl hz ⟨rfl, rfl, fun _ => rfl, fun _ => rfl⟩ ⟨Option.some.inj h, rfl⟩ (fun j x h => by simp at h) dX9_isAhead_75
noncomputable def f_X9_isAhead  (w : Nat) (a : AS) (x1 x2 : Int32) : Option (Int32) := bif ixB ((40 : Int32) + x1) 80 then yl ((a 25 ((40 : Int32) + x1).toNatClampNeg)) (fun t2 => bif ixB ((40 : Int32) + x2) 80 then yl ((a 25 ((40 : Int32) + x2).toNatClampNeg)) (fun t4 => (if t2 = t4 then (bif ixB x1 40 then bif ixB x2 40 then (if (a 31 x2.toNatClampNeg) ≤ (a 31 x1.toNatClampNeg) then (some (0 : Int32)) else (some (1 : Int32))) else none else none) else ((if t4 ≤ t2 then (b_X9_isAhead_61  w a x1 (0 : Int32)) else (b_X9_isAhead_61  w a x1 (1 : Int32)))))) else none) else none
set_option maxHeartbeats 4000000 in
set_option maxRecDepth 100000 in
theorem lb_X9_isAhead_0 {p : Program} {l : Launch} {e : Env} {s : State} {m : MethodId} {args : Array Value} {below : List Frame} {meth : Method} {c : Code} {D : va_G} {E : Nat → ClassId} {sz : Nat} {M : Nat → Nat → Nat → Int32} {a : AS} {ρ : YR} {w : Nat} {r0 : Int32} (C : cx p s m args meth c D E (Aof (mx M a, ρ) [] s.heap.size) cX9_isAhead 5 "TradeLineModel") (hr : meth.sig.returnType = (some .boolean)) (hz : s.heap.size = sz) (hρ : rsh ρ) {x1 x2 : Int32}   (h : f_X9_isAhead  w a x1 x2 = some r0) : G p l e ({ frames := 0, cells := 0, slots := 0, locals := 0 } : Room) s m args below meth c D E (Aof (mx M a, ρ) [] s.heap.size) 5 (MQ below (cQ D E sz (mx M a, ρ) [] (pI (fun r u => r = r0 ∧ u = ((mx M a, ρ), [])))) args s 0 0 (Aof (mx M a, ρ) [] s.heap.size)) (mx M a, ρ) [] 0 0 0 [(0, .ref (ρ.2.2.2 40 0)), (1, .int x1), (2, .int x2)] [] := by
  unfold f_X9_isAhead at h
  refine g_aload_n C dX9_isAhead_0 rfl 0 rfl ?_
  refine g_get (k := 40) (i := 0) (ref := "TradeLineModel") (v := .ref (ρ.2.2.2 (40 + 25) 0)) C rfl (lvY0 hρ) rfl rfl inGX9 25 (by decide) gw_1354 (fun _ h => h) rfl dX9_isAhead_1 ?_
  refine g_bipush (v := (40 : Int32)) C dX9_isAhead_4 (by decide) ?_
  refine g_iload_n C dX9_isAhead_6 rfl 1 rfl ?_
  refine g_iadd C dX9_isAhead_7 ?_
  obtain ⟨g1, h⟩ := of_guard h
  refine q_iald C hρ (j := 25) (N := 80) (List.mem_of_getElem? (i := 21) rfl) rfl rfl g1 dX9_isAhead_8 ?_
  refine q_topi (fun t2 et2 => ?_)
  replace h := yl_of h et2
  refine g_istore_n (lv' := [(3, .int t2), (0, .ref (ρ.2.2.2 40 0)), (1, .int x1), (2, .int x2)]) C dX9_isAhead_9 rfl (by decide) rfl ?_
  refine g_aload_n C dX9_isAhead_10 rfl 1 rfl ?_
  refine g_get (k := 40) (i := 0) (ref := "TradeLineModel") (v := .ref (ρ.2.2.2 (40 + 25) 0)) C rfl (lvY0 hρ) rfl rfl inGX9 25 (by decide) gw_1354 (fun _ h => h) rfl dX9_isAhead_11 ?_
  refine g_bipush (v := (40 : Int32)) C dX9_isAhead_14 (by decide) ?_
  refine g_iload_n C dX9_isAhead_16 rfl 3 rfl ?_
  refine g_iadd C dX9_isAhead_17 ?_
  obtain ⟨g3, h⟩ := of_guard h
  refine q_iald C hρ (j := 25) (N := 80) (List.mem_of_getElem? (i := 21) rfl) rfl rfl g3 dX9_isAhead_18 ?_
  refine q_topi (fun t4 et4 => ?_)
  replace h := yl_of h et4
  refine g_istore (lv' := [(4, .int t4), (3, .int t2), (0, .ref (ρ.2.2.2 40 0)), (1, .int x1), (2, .int x2)]) C dX9_isAhead_19 (by decide) rfl ?_
  refine g_iload_n C dX9_isAhead_21 rfl 1 rfl ?_
  refine g_iload C dX9_isAhead_22 0 rfl ?_
  refine g_icmp_ne (tgt := 50) C dX9_isAhead_24 (by decide) (fun c24 => ?_) (fun c24 => ?_)
  · replace h := (if_neg c24).symm.trans h
    refine g_iload_n C dX9_isAhead_50 rfl 1 rfl ?_
    refine g_iload C dX9_isAhead_51 0 rfl ?_
    refine g_icmp_ge (tgt := 60) C dX9_isAhead_53 (by decide) (fun c53 => ?_) (fun c53 => ?_)
    · replace h := (if_pos c53).symm.trans h
      refine g_iconst (v := (0 : Int32)) C dX9_isAhead_60 (by decide) ?_
      refine g_lv [2, 3] rfl ?_
      exact lb_X9_isAhead_61 C hr hz hρ  h
    · replace h := (if_neg c53).symm.trans h
      refine g_iconst (v := (1 : Int32)) C dX9_isAhead_56 (by decide) ?_
      refine g_goto (tgt := 61) C dX9_isAhead_57 (by decide) ?_
      refine g_lv [2, 3] rfl ?_
      exact lb_X9_isAhead_61 C hr hz hρ  h
  · replace h := (if_pos c24).symm.trans h
    refine g_aload_n C dX9_isAhead_27 rfl 2 rfl ?_
    refine g_get (k := 40) (i := 0) (ref := "TradeLineModel") (v := .ref (ρ.2.2.2 (40 + 31) 0)) C rfl (lvY0 hρ) rfl rfl inGX9 31 (by decide) gw_1360 (fun _ h => h) rfl dX9_isAhead_28 ?_
    refine g_iload_n C dX9_isAhead_31 rfl 3 rfl ?_
    obtain ⟨g6, h⟩ := of_guard h
    refine q_iald C hρ (j := 31) (N := 40) (List.mem_of_getElem? (i := 27) rfl) rfl rfl g6 dX9_isAhead_32 ?_
    refine g_aload_n C dX9_isAhead_33 rfl 2 rfl ?_
    refine g_get (k := 40) (i := 0) (ref := "TradeLineModel") (v := .ref (ρ.2.2.2 (40 + 31) 0)) C rfl (lvY0 hρ) rfl rfl inGX9 31 (by decide) gw_1360 (fun _ h => h) rfl dX9_isAhead_34 ?_
    refine g_iload_n C dX9_isAhead_37 rfl 4 rfl ?_
    obtain ⟨g7, h⟩ := of_guard h
    refine q_iald C hρ (j := 31) (N := 40) (List.mem_of_getElem? (i := 27) rfl) rfl rfl g7 dX9_isAhead_38 ?_
    refine g_icmp_ge (tgt := 46) C dX9_isAhead_39 (by decide) (fun c39 => ?_) (fun c39 => ?_)
    · replace h := (if_pos c39).symm.trans h
      refine g_iconst (v := (0 : Int32)) C dX9_isAhead_46 (by decide) ?_
      refine g_goto (tgt := 75) C dX9_isAhead_47 (by decide) ?_
      exact g_iret C hr rfl hz ⟨rfl, rfl, fun _ => rfl, fun _ => rfl⟩ ⟨Option.some.inj h, rfl⟩ (fun j x h => by simp at h) dX9_isAhead_75
    · replace h := (if_neg c39).symm.trans h
      refine g_iconst (v := (1 : Int32)) C dX9_isAhead_42 (by decide) ?_
      refine g_goto (tgt := 75) C dX9_isAhead_43 (by decide) ?_
      exact g_iret C hr rfl hz ⟨rfl, rfl, fun _ => rfl, fun _ => rfl⟩ ⟨Option.some.inj h, rfl⟩ (fun j x h => by simp at h) dX9_isAhead_75
theorem k_X9_isAhead (l : Launch) (M : Nat → Nat → Nat → Int32) (ρ : YR) (hρ : rsh ρ) (w : Nat) (a : AS) (x1 x2 : Int32) (r0 : Int32) (h : f_X9_isAhead w a x1 x2 = some r0) : ∀ D E sz, Met l yX9_isAhead gwX9_isAhead ({ frames := 0, cells := 0, slots := 0, locals := 0 } : Room) (cP D E sz (mx M a, ρ) [] [.ref (ρ.2.2.2 40 0), .int x1, .int x2]) (cQ D E sz (mx M a, ρ) [] (pI (fun r u => r = r0 ∧ u = ((mx M a, ρ), [])))) (0) (0) (Aof (mx M a, ρ) [] sz) := by
  intro D E sz
  refine g_of (cc := cX9_isAhead) (maxL := 5) (ret := (some .boolean)) (own := "TradeLineModel") (by decide) rfl rfl (Nat.le_of_ble_eq_true rfl) ?_
  intro p e s m args below meth c C hr hin hz ha hwr
  refine g_lv [0, 1, 2] rfl ?_
  exact lb_X9_isAhead_0 C hr hz hρ h
noncomputable def f_X9_isToRoute  (w : Nat) (a : AS) (x1 x2 : Int32) : Option (Int32) := bif ixB ((40 : Int32) + x1) 80 then (if (a 24 ((40 : Int32) + x1).toNatClampNeg) = (0 : Int32) then (some (0 : Int32)) else (bif ixB x1 40 then (if (a 23 x1.toNatClampNeg) = x2 then ((f_X9_leftIn w a ((40 : Int32) + x1)).bind (fun v3 => (if v3 ≤ (0 : Int32) then (some (0 : Int32)) else (some (1 : Int32))))) else (some (0 : Int32))) else none)) else none
set_option maxHeartbeats 4000000 in
set_option maxRecDepth 100000 in
theorem lb_X9_isToRoute_0 {p : Program} {l : Launch} {e : Env} {s : State} {m : MethodId} {args : Array Value} {below : List Frame} {meth : Method} {c : Code} {D : va_G} {E : Nat → ClassId} {sz : Nat} {M : Nat → Nat → Nat → Int32} {a : AS} {ρ : YR} {w : Nat} {r0 : Int32} (C : cx p s m args meth c D E (Aof (mx M a, ρ) [] s.heap.size) cX9_isToRoute 3 "TradeLineModel") (hr : meth.sig.returnType = (some .boolean)) (hz : s.heap.size = sz) (hρ : rsh ρ) {x1 x2 : Int32}   (h : f_X9_isToRoute  w a x1 x2 = some r0) : G p l e ({ frames := 1, cells := 0, slots := 0, locals := 21 } : Room) s m args below meth c D E (Aof (mx M a, ρ) [] s.heap.size) 3 (MQ below (cQ D E sz (mx M a, ρ) [] (pI (fun r u => r = r0 ∧ u = ((mx M a, ρ), [])))) args s 0 0 (Aof (mx M a, ρ) [] s.heap.size)) (mx M a, ρ) [] 0 0 0 [(0, .ref (ρ.2.2.2 40 0)), (1, .int x1), (2, .int x2)] [] := by
  unfold f_X9_isToRoute at h
  refine g_aload_n C dX9_isToRoute_0 rfl 0 rfl ?_
  refine g_get (k := 40) (i := 0) (ref := "TradeLineModel") (v := .ref (ρ.2.2.2 (40 + 24) 0)) C rfl (lvY0 hρ) rfl rfl inGX9 24 (by decide) gw_1353 (fun _ h => h) rfl dX9_isToRoute_1 ?_
  refine g_bipush (v := (40 : Int32)) C dX9_isToRoute_4 (by decide) ?_
  refine g_iload_n C dX9_isToRoute_6 rfl 1 rfl ?_
  refine g_iadd C dX9_isToRoute_7 ?_
  obtain ⟨g1, h⟩ := of_guard h
  refine q_zald C hρ (j := 24) (N := 80) (List.mem_of_getElem? (i := 20) rfl) rfl rfl g1 dX9_isToRoute_8 ?_
  refine g_if_eq (tgt := 37) C dX9_isToRoute_9 (by decide) (fun c9 => ?_) (fun c9 => ?_)
  · replace h := (if_pos c9).symm.trans h
    refine g_iconst (v := (0 : Int32)) C dX9_isToRoute_37 (by decide) ?_
    exact g_iret C hr rfl hz ⟨rfl, rfl, fun _ => rfl, fun _ => rfl⟩ ⟨Option.some.inj h, rfl⟩ (fun j x h => by simp at h) dX9_isToRoute_38
  · replace h := (if_neg c9).symm.trans h
    refine g_aload_n C dX9_isToRoute_12 rfl 0 rfl ?_
    refine g_get (k := 40) (i := 0) (ref := "TradeLineModel") (v := .ref (ρ.2.2.2 (40 + 23) 0)) C rfl (lvY0 hρ) rfl rfl inGX9 23 (by decide) gw_1352 (fun _ h => h) rfl dX9_isToRoute_13 ?_
    refine g_iload_n C dX9_isToRoute_16 rfl 1 rfl ?_
    obtain ⟨g2, h⟩ := of_guard h
    refine q_zald C hρ (j := 23) (N := 40) (List.mem_of_getElem? (i := 19) rfl) rfl rfl g2 dX9_isToRoute_17 ?_
    refine g_iload_n C dX9_isToRoute_18 rfl 2 rfl ?_
    refine g_icmp_ne (tgt := 37) C dX9_isToRoute_19 (by decide) (fun c19 => ?_) (fun c19 => ?_)
    · replace h := (if_neg c19).symm.trans h
      refine g_iconst (v := (0 : Int32)) C dX9_isToRoute_37 (by decide) ?_
      exact g_iret C hr rfl hz ⟨rfl, rfl, fun _ => rfl, fun _ => rfl⟩ ⟨Option.some.inj h, rfl⟩ (fun j x h => by simp at h) dX9_isToRoute_38
    · replace h := (if_pos c19).symm.trans h
      refine g_aload_n C dX9_isToRoute_22 rfl 0 rfl ?_
      refine g_bipush (v := (40 : Int32)) C dX9_isToRoute_23 (by decide) ?_
      refine g_iload_n C dX9_isToRoute_25 rfl 1 rfl ?_
      refine g_iadd C dX9_isToRoute_26 ?_
      obtain ⟨v3, hv3, h⟩ := bind_of h
      refine g_cVi (n := 1) (exc := []) (exr := []) C [_] _ rfl rfl [] [] rfl rfl rfl rfl (fun _ h => absurd h (by simp)) (fun _ h => absurd h (by simp)) (fun _ h => absurd h (by simp)) (fun sz => k_X9_leftIn l M ρ hρ w _ _ _ hv3 D E sz) rfl gw_1563 gw_9 gw_1560 gw_1562 gs_59 ⟨by decide +kernel, by decide +kernel, by decide +kernel⟩ ⟨rfl, rfl⟩ ⟨Nat.le_of_ble_eq_true rfl, Nat.le_of_ble_eq_true rfl⟩ (rcvT (lvY0 hρ) rfl rfl rfl) (Nat.le_of_ble_eq_true rfl) dX9_isToRoute_27 ⟨by decide, by decide⟩ (fun r u hp hx => ?_)
      obtain ⟨er, rfl⟩ := hp
      rw [er]
      try dsimp only [List.append_nil]
      refine g_if_le (tgt := 37) C dX9_isToRoute_30 (by decide) (fun c30 => ?_) (fun c30 => ?_)
      · replace h := (if_pos c30).symm.trans h
        refine g_iconst (v := (0 : Int32)) C dX9_isToRoute_37 (by decide) ?_
        exact g_iret C hr rfl hz ⟨rfl, rfl, fun _ => rfl, fun _ => rfl⟩ ⟨Option.some.inj h, rfl⟩ (fun j x h => by simp at h) dX9_isToRoute_38
      · replace h := (if_neg c30).symm.trans h
        refine g_iconst (v := (1 : Int32)) C dX9_isToRoute_33 (by decide) ?_
        refine g_goto (tgt := 38) C dX9_isToRoute_34 (by decide) ?_
        exact g_iret C hr rfl hz ⟨rfl, rfl, fun _ => rfl, fun _ => rfl⟩ ⟨Option.some.inj h, rfl⟩ (fun j x h => by simp at h) dX9_isToRoute_38
theorem k_X9_isToRoute (l : Launch) (M : Nat → Nat → Nat → Int32) (ρ : YR) (hρ : rsh ρ) (w : Nat) (a : AS) (x1 x2 : Int32) (r0 : Int32) (h : f_X9_isToRoute w a x1 x2 = some r0) : ∀ D E sz, Met l yX9_isToRoute gwX9_isToRoute ({ frames := 1, cells := 0, slots := 0, locals := 21 } : Room) (cP D E sz (mx M a, ρ) [] [.ref (ρ.2.2.2 40 0), .int x1, .int x2]) (cQ D E sz (mx M a, ρ) [] (pI (fun r u => r = r0 ∧ u = ((mx M a, ρ), [])))) (0) (0) (Aof (mx M a, ρ) [] sz) := by
  intro D E sz
  refine g_of (cc := cX9_isToRoute) (maxL := 3) (ret := (some .boolean)) (own := "TradeLineModel") (by decide) rfl rfl (Nat.le_of_ble_eq_true rfl) ?_
  intro p e s m args below meth c C hr hin hz ha hwr
  refine g_lv [0, 1, 2] rfl ?_
  exact lb_X9_isToRoute_0 C hr hz hρ h
noncomputable def b_X9_nextInRank_72 (k5 : Int32 → Int32 → Int32 → Int32 → Option (Int32)) (w : Nat) (a : AS) (x1 x2 x4 s0 : Int32) : Option (Int32) := yl (x4 + (1 : Int32)) (fun t2 => k5 x1 x2 s0 t2)
set_option maxHeartbeats 4000000 in
set_option maxRecDepth 100000 in
theorem lb_X9_nextInRank_72 {p : Program} {l : Launch} {e : Env} {s : State} {m : MethodId} {args : Array Value} {below : List Frame} {meth : Method} {c : Code} {D : va_G} {E : Nat → ClassId} {sz : Nat} {M : Nat → Nat → Nat → Int32} {a : AS} {ρ : YR} {w : Nat} {r0 : Int32} (C : cx p s m args meth c D E (Aof (mx M a, ρ) [] s.heap.size) cX9_nextInRank 6 "TradeLineModel") (hr : meth.sig.returnType = (some .int)) (hz : s.heap.size = sz) (hρ : rsh ρ) {x1 x2 x4 s0 : Int32} {k5 : Int32 → Int32 → Int32 → Int32 → Option (Int32)} (hk5 : ∀ (z1 z2 z3 z4 : Int32), k5 z1 z2 z3 z4 = some r0 → G p l e ({ frames := 2, cells := 0, slots := 0, locals := 43 } : Room) s m args below meth c D E (Aof (mx M a, ρ) [] s.heap.size) 6 (MQ below (cQ D E sz (mx M a, ρ) [] (pI (fun r u => r = r0 ∧ u = ((mx M a, ρ), [])))) args s 0 0 (Aof (mx M a, ρ) [] s.heap.size)) (mx M a, ρ) [] 0 0 5 [(0, .ref (ρ.2.2.2 40 0)), (1, .int z1), (2, .int z2), (3, .int z3), (4, .int z4)] []) (h : b_X9_nextInRank_72 k5 w a x1 x2 x4 s0 = some r0) : G p l e ({ frames := 2, cells := 0, slots := 0, locals := 43 } : Room) s m args below meth c D E (Aof (mx M a, ρ) [] s.heap.size) 6 (MQ below (cQ D E sz (mx M a, ρ) [] (pI (fun r u => r = r0 ∧ u = ((mx M a, ρ), [])))) args s 0 0 (Aof (mx M a, ρ) [] s.heap.size)) (mx M a, ρ) [] 0 0 72 [(0, .ref (ρ.2.2.2 40 0)), (1, .int x1), (2, .int x2), (4, .int x4)] [.int s0] := by
  unfold b_X9_nextInRank_72 at h
  refine g_istore_n (lv' := [(3, .int s0), (0, .ref (ρ.2.2.2 40 0)), (1, .int x1), (2, .int x2), (4, .int x4)]) C dX9_nextInRank_72 rfl (by decide) rfl ?_
  obtain ⟨t2, et2⟩ : ∃ y : Int32, x4 + (1 : Int32) = y := ⟨_, rfl⟩
  replace h := yl_of h et2
  refine g_iinc (v := t2) (lv' := [(4, .int t2), (3, .int s0), (0, .ref (ρ.2.2.2 40 0)), (1, .int x1), (2, .int x2)]) C dX9_nextInRank_73 4 rfl (by rw [← et2]; rfl) (by decide) rfl ?_
  refine g_goto (tgt := 5) C dX9_nextInRank_76 (by decide) ?_
  refine g_lv [2, 3, 4, 1, 0] rfl ?_
  exact hk5 _ _ _ _ h
noncomputable def b_X9_nextInRank_71 (k5 : Int32 → Int32 → Int32 → Int32 → Option (Int32)) (w : Nat) (a : AS) (x1 x2 x3 x4 : Int32) : Option (Int32) := b_X9_nextInRank_72 k5 w a x1 x2 x4 x3
set_option maxHeartbeats 4000000 in
set_option maxRecDepth 100000 in
theorem lb_X9_nextInRank_71 {p : Program} {l : Launch} {e : Env} {s : State} {m : MethodId} {args : Array Value} {below : List Frame} {meth : Method} {c : Code} {D : va_G} {E : Nat → ClassId} {sz : Nat} {M : Nat → Nat → Nat → Int32} {a : AS} {ρ : YR} {w : Nat} {r0 : Int32} (C : cx p s m args meth c D E (Aof (mx M a, ρ) [] s.heap.size) cX9_nextInRank 6 "TradeLineModel") (hr : meth.sig.returnType = (some .int)) (hz : s.heap.size = sz) (hρ : rsh ρ) {x1 x2 x3 x4 : Int32} {k5 : Int32 → Int32 → Int32 → Int32 → Option (Int32)} (hk5 : ∀ (z1 z2 z3 z4 : Int32), k5 z1 z2 z3 z4 = some r0 → G p l e ({ frames := 2, cells := 0, slots := 0, locals := 43 } : Room) s m args below meth c D E (Aof (mx M a, ρ) [] s.heap.size) 6 (MQ below (cQ D E sz (mx M a, ρ) [] (pI (fun r u => r = r0 ∧ u = ((mx M a, ρ), [])))) args s 0 0 (Aof (mx M a, ρ) [] s.heap.size)) (mx M a, ρ) [] 0 0 5 [(0, .ref (ρ.2.2.2 40 0)), (1, .int z1), (2, .int z2), (3, .int z3), (4, .int z4)] []) (h : b_X9_nextInRank_71 k5 w a x1 x2 x3 x4 = some r0) : G p l e ({ frames := 2, cells := 0, slots := 0, locals := 43 } : Room) s m args below meth c D E (Aof (mx M a, ρ) [] s.heap.size) 6 (MQ below (cQ D E sz (mx M a, ρ) [] (pI (fun r u => r = r0 ∧ u = ((mx M a, ρ), [])))) args s 0 0 (Aof (mx M a, ρ) [] s.heap.size)) (mx M a, ρ) [] 0 0 71 [(0, .ref (ρ.2.2.2 40 0)), (1, .int x1), (2, .int x2), (3, .int x3), (4, .int x4)] [] := by
  unfold b_X9_nextInRank_71 at h
  refine g_iload_n C dX9_nextInRank_71 rfl 3 rfl ?_
  refine g_lv [0, 1, 2, 4] rfl ?_
  exact lb_X9_nextInRank_72 C hr hz hρ hk5 h
noncomputable def b_X9_nextInRank_66 (k5 : Int32 → Int32 → Int32 → Int32 → Option (Int32)) (w : Nat) (a : AS) (x1 x2 x4 : Int32) : Option (Int32) := b_X9_nextInRank_72 k5 w a x1 x2 x4 x4
set_option maxHeartbeats 4000000 in
set_option maxRecDepth 100000 in
theorem lb_X9_nextInRank_66 {p : Program} {l : Launch} {e : Env} {s : State} {m : MethodId} {args : Array Value} {below : List Frame} {meth : Method} {c : Code} {D : va_G} {E : Nat → ClassId} {sz : Nat} {M : Nat → Nat → Nat → Int32} {a : AS} {ρ : YR} {w : Nat} {r0 : Int32} (C : cx p s m args meth c D E (Aof (mx M a, ρ) [] s.heap.size) cX9_nextInRank 6 "TradeLineModel") (hr : meth.sig.returnType = (some .int)) (hz : s.heap.size = sz) (hρ : rsh ρ) {x1 x2 x4 : Int32} {k5 : Int32 → Int32 → Int32 → Int32 → Option (Int32)} (hk5 : ∀ (z1 z2 z3 z4 : Int32), k5 z1 z2 z3 z4 = some r0 → G p l e ({ frames := 2, cells := 0, slots := 0, locals := 43 } : Room) s m args below meth c D E (Aof (mx M a, ρ) [] s.heap.size) 6 (MQ below (cQ D E sz (mx M a, ρ) [] (pI (fun r u => r = r0 ∧ u = ((mx M a, ρ), [])))) args s 0 0 (Aof (mx M a, ρ) [] s.heap.size)) (mx M a, ρ) [] 0 0 5 [(0, .ref (ρ.2.2.2 40 0)), (1, .int z1), (2, .int z2), (3, .int z3), (4, .int z4)] []) (h : b_X9_nextInRank_66 k5 w a x1 x2 x4 = some r0) : G p l e ({ frames := 2, cells := 0, slots := 0, locals := 43 } : Room) s m args below meth c D E (Aof (mx M a, ρ) [] s.heap.size) 6 (MQ below (cQ D E sz (mx M a, ρ) [] (pI (fun r u => r = r0 ∧ u = ((mx M a, ρ), [])))) args s 0 0 (Aof (mx M a, ρ) [] s.heap.size)) (mx M a, ρ) [] 0 0 66 [(0, .ref (ρ.2.2.2 40 0)), (1, .int x1), (2, .int x2), (4, .int x4)] [] := by
  unfold b_X9_nextInRank_66 at h
  refine g_iload C dX9_nextInRank_66 3 rfl ?_
  refine g_goto (tgt := 72) C dX9_nextInRank_68 (by decide) ?_
  refine g_lv [0, 1, 2, 3] rfl ?_
  exact lb_X9_nextInRank_72 C hr hz hρ hk5 h
noncomputable def b_X9_nextInRank_44 (k5 : Int32 → Int32 → Int32 → Int32 → Option (Int32)) (w : Nat) (a : AS) (x1 x2 x3 x4 s0 : Int32) : Option (Int32) := (if s0 = (0 : Int32) then (b_X9_nextInRank_71 k5 w a x1 x2 x3 x4) else ((if x3 = (-1 : Int32) then (b_X9_nextInRank_66 k5 w a x1 x2 x4) else ((f_X9_isAhead w a x4 x3).bind (fun v3 => (if v3 = (0 : Int32) then (b_X9_nextInRank_71 k5 w a x1 x2 x3 x4) else (b_X9_nextInRank_66 k5 w a x1 x2 x4)))))))
set_option maxHeartbeats 4000000 in
set_option maxRecDepth 100000 in
theorem lb_X9_nextInRank_44 {p : Program} {l : Launch} {e : Env} {s : State} {m : MethodId} {args : Array Value} {below : List Frame} {meth : Method} {c : Code} {D : va_G} {E : Nat → ClassId} {sz : Nat} {M : Nat → Nat → Nat → Int32} {a : AS} {ρ : YR} {w : Nat} {r0 : Int32} (C : cx p s m args meth c D E (Aof (mx M a, ρ) [] s.heap.size) cX9_nextInRank 6 "TradeLineModel") (hr : meth.sig.returnType = (some .int)) (hz : s.heap.size = sz) (hρ : rsh ρ) {x1 x2 x3 x4 s0 : Int32} {k5 : Int32 → Int32 → Int32 → Int32 → Option (Int32)} (hk5 : ∀ (z1 z2 z3 z4 : Int32), k5 z1 z2 z3 z4 = some r0 → G p l e ({ frames := 2, cells := 0, slots := 0, locals := 43 } : Room) s m args below meth c D E (Aof (mx M a, ρ) [] s.heap.size) 6 (MQ below (cQ D E sz (mx M a, ρ) [] (pI (fun r u => r = r0 ∧ u = ((mx M a, ρ), [])))) args s 0 0 (Aof (mx M a, ρ) [] s.heap.size)) (mx M a, ρ) [] 0 0 5 [(0, .ref (ρ.2.2.2 40 0)), (1, .int z1), (2, .int z2), (3, .int z3), (4, .int z4)] []) (h : b_X9_nextInRank_44 k5 w a x1 x2 x3 x4 s0 = some r0) : G p l e ({ frames := 2, cells := 0, slots := 0, locals := 43 } : Room) s m args below meth c D E (Aof (mx M a, ρ) [] s.heap.size) 6 (MQ below (cQ D E sz (mx M a, ρ) [] (pI (fun r u => r = r0 ∧ u = ((mx M a, ρ), [])))) args s 0 0 (Aof (mx M a, ρ) [] s.heap.size)) (mx M a, ρ) [] 0 0 44 [(0, .ref (ρ.2.2.2 40 0)), (1, .int x1), (2, .int x2), (3, .int x3), (4, .int x4)] [.int s0] := by
  unfold b_X9_nextInRank_44 at h
  refine g_istore (lv' := [(5, .int s0), (0, .ref (ρ.2.2.2 40 0)), (1, .int x1), (2, .int x2), (3, .int x3), (4, .int x4)]) C dX9_nextInRank_44 (by decide) rfl ?_
  refine g_iload C dX9_nextInRank_46 0 rfl ?_
  refine g_if_eq (tgt := 71) C dX9_nextInRank_48 (by decide) (fun c48 => ?_) (fun c48 => ?_)
  · replace h := (if_pos c48).symm.trans h
    refine g_lv [1, 2, 3, 4, 5] rfl ?_
    exact lb_X9_nextInRank_71 C hr hz hρ hk5 h
  · replace h := (if_neg c48).symm.trans h
    refine g_iload_n C dX9_nextInRank_51 rfl 4 rfl ?_
    refine g_iconst (v := (-1 : Int32)) C dX9_nextInRank_52 (by decide) ?_
    refine g_icmp_eq (tgt := 66) C dX9_nextInRank_53 (by decide) (fun c53 => ?_) (fun c53 => ?_)
    · replace h := (if_pos c53).symm.trans h
      refine g_lv [1, 2, 3, 5] rfl ?_
      exact lb_X9_nextInRank_66 C hr hz hρ hk5 h
    · replace h := (if_neg c53).symm.trans h
      refine g_aload_n C dX9_nextInRank_56 rfl 1 rfl ?_
      refine g_iload C dX9_nextInRank_57 5 rfl ?_
      refine g_iload_n C dX9_nextInRank_59 rfl 4 rfl ?_
      obtain ⟨v3, hv3, h⟩ := bind_of h
      refine g_cVi (n := 2) (exc := []) (exr := []) C [_, _] _ rfl rfl [] [] rfl rfl rfl rfl (fun _ h => absurd h (by simp)) (fun _ h => absurd h (by simp)) (fun _ h => absurd h (by simp)) (fun sz => k_X9_isAhead l M ρ hρ w _ _ _ _ hv3 D E sz) rfl gw_1726 gw_9 gw_1723 gw_1725 gs_81 ⟨by decide +kernel, by decide +kernel, by decide +kernel⟩ ⟨rfl, rfl⟩ ⟨Nat.le_of_ble_eq_true rfl, Nat.le_of_ble_eq_true rfl⟩ (rcvT (lvY0 hρ) rfl rfl rfl) (Nat.le_of_ble_eq_true rfl) dX9_nextInRank_60 ⟨by decide, by decide⟩ (fun r u hp hx => ?_)
      obtain ⟨er, rfl⟩ := hp
      rw [er]
      try dsimp only [List.append_nil]
      refine g_if_eq (tgt := 71) C dX9_nextInRank_63 (by decide) (fun c63 => ?_) (fun c63 => ?_)
      · replace h := (if_pos c63).symm.trans h
        refine g_lv [1, 2, 3, 4, 5] rfl ?_
        exact lb_X9_nextInRank_71 C hr hz hρ hk5 h
      · replace h := (if_neg c63).symm.trans h
        refine g_lv [1, 2, 3, 5] rfl ?_
        exact lb_X9_nextInRank_66 C hr hz hρ hk5 h
noncomputable def b_X9_nextInRank_43 (k5 : Int32 → Int32 → Int32 → Int32 → Option (Int32)) (w : Nat) (a : AS) (x1 x2 x3 x4 : Int32) : Option (Int32) := b_X9_nextInRank_44 k5 w a x1 x2 x3 x4 (0 : Int32)
set_option maxHeartbeats 4000000 in
set_option maxRecDepth 100000 in
theorem lb_X9_nextInRank_43 {p : Program} {l : Launch} {e : Env} {s : State} {m : MethodId} {args : Array Value} {below : List Frame} {meth : Method} {c : Code} {D : va_G} {E : Nat → ClassId} {sz : Nat} {M : Nat → Nat → Nat → Int32} {a : AS} {ρ : YR} {w : Nat} {r0 : Int32} (C : cx p s m args meth c D E (Aof (mx M a, ρ) [] s.heap.size) cX9_nextInRank 6 "TradeLineModel") (hr : meth.sig.returnType = (some .int)) (hz : s.heap.size = sz) (hρ : rsh ρ) {x1 x2 x3 x4 : Int32} {k5 : Int32 → Int32 → Int32 → Int32 → Option (Int32)} (hk5 : ∀ (z1 z2 z3 z4 : Int32), k5 z1 z2 z3 z4 = some r0 → G p l e ({ frames := 2, cells := 0, slots := 0, locals := 43 } : Room) s m args below meth c D E (Aof (mx M a, ρ) [] s.heap.size) 6 (MQ below (cQ D E sz (mx M a, ρ) [] (pI (fun r u => r = r0 ∧ u = ((mx M a, ρ), [])))) args s 0 0 (Aof (mx M a, ρ) [] s.heap.size)) (mx M a, ρ) [] 0 0 5 [(0, .ref (ρ.2.2.2 40 0)), (1, .int z1), (2, .int z2), (3, .int z3), (4, .int z4)] []) (h : b_X9_nextInRank_43 k5 w a x1 x2 x3 x4 = some r0) : G p l e ({ frames := 2, cells := 0, slots := 0, locals := 43 } : Room) s m args below meth c D E (Aof (mx M a, ρ) [] s.heap.size) 6 (MQ below (cQ D E sz (mx M a, ρ) [] (pI (fun r u => r = r0 ∧ u = ((mx M a, ρ), [])))) args s 0 0 (Aof (mx M a, ρ) [] s.heap.size)) (mx M a, ρ) [] 0 0 43 [(0, .ref (ρ.2.2.2 40 0)), (1, .int x1), (2, .int x2), (3, .int x3), (4, .int x4)] [] := by
  unfold b_X9_nextInRank_43 at h
  refine g_iconst (v := (0 : Int32)) C dX9_nextInRank_43 (by decide) ?_
  refine g_lv [0, 1, 2, 3, 4] rfl ?_
  exact lb_X9_nextInRank_44 C hr hz hρ hk5 h
noncomputable def b_X9_nextInRank_39 (k5 : Int32 → Int32 → Int32 → Int32 → Option (Int32)) (w : Nat) (a : AS) (x1 x2 x3 x4 : Int32) : Option (Int32) := b_X9_nextInRank_44 k5 w a x1 x2 x3 x4 (1 : Int32)
set_option maxHeartbeats 4000000 in
set_option maxRecDepth 100000 in
theorem lb_X9_nextInRank_39 {p : Program} {l : Launch} {e : Env} {s : State} {m : MethodId} {args : Array Value} {below : List Frame} {meth : Method} {c : Code} {D : va_G} {E : Nat → ClassId} {sz : Nat} {M : Nat → Nat → Nat → Int32} {a : AS} {ρ : YR} {w : Nat} {r0 : Int32} (C : cx p s m args meth c D E (Aof (mx M a, ρ) [] s.heap.size) cX9_nextInRank 6 "TradeLineModel") (hr : meth.sig.returnType = (some .int)) (hz : s.heap.size = sz) (hρ : rsh ρ) {x1 x2 x3 x4 : Int32} {k5 : Int32 → Int32 → Int32 → Int32 → Option (Int32)} (hk5 : ∀ (z1 z2 z3 z4 : Int32), k5 z1 z2 z3 z4 = some r0 → G p l e ({ frames := 2, cells := 0, slots := 0, locals := 43 } : Room) s m args below meth c D E (Aof (mx M a, ρ) [] s.heap.size) 6 (MQ below (cQ D E sz (mx M a, ρ) [] (pI (fun r u => r = r0 ∧ u = ((mx M a, ρ), [])))) args s 0 0 (Aof (mx M a, ρ) [] s.heap.size)) (mx M a, ρ) [] 0 0 5 [(0, .ref (ρ.2.2.2 40 0)), (1, .int z1), (2, .int z2), (3, .int z3), (4, .int z4)] []) (h : b_X9_nextInRank_39 k5 w a x1 x2 x3 x4 = some r0) : G p l e ({ frames := 2, cells := 0, slots := 0, locals := 43 } : Room) s m args below meth c D E (Aof (mx M a, ρ) [] s.heap.size) 6 (MQ below (cQ D E sz (mx M a, ρ) [] (pI (fun r u => r = r0 ∧ u = ((mx M a, ρ), [])))) args s 0 0 (Aof (mx M a, ρ) [] s.heap.size)) (mx M a, ρ) [] 0 0 39 [(0, .ref (ρ.2.2.2 40 0)), (1, .int x1), (2, .int x2), (3, .int x3), (4, .int x4)] [] := by
  unfold b_X9_nextInRank_39 at h
  refine g_iconst (v := (1 : Int32)) C dX9_nextInRank_39 (by decide) ?_
  refine g_goto (tgt := 44) C dX9_nextInRank_40 (by decide) ?_
  refine g_lv [0, 1, 2, 3, 4] rfl ?_
  exact lb_X9_nextInRank_44 C hr hz hρ hk5 h
noncomputable def b_X9_nextInRank_5 (k5 : Int32 → Int32 → Int32 → Int32 → Option (Int32)) (w : Nat) (a : AS) (x1 x2 x3 x4 : Int32) : Option (Int32) := (if (a 0 22) ≤ x4 then (some x3) else ((f_X9_isToRoute w a x4 x2).bind (fun v1 => (if v1 = (0 : Int32) then (b_X9_nextInRank_43 k5 w a x1 x2 x3 x4) else ((if x1 = (-1 : Int32) then (b_X9_nextInRank_39 k5 w a x1 x2 x3 x4) else ((f_X9_isAhead w a x1 x4).bind (fun v4 => (if v4 = (0 : Int32) then (b_X9_nextInRank_43 k5 w a x1 x2 x3 x4) else (b_X9_nextInRank_39 k5 w a x1 x2 x3 x4))))))))))
set_option maxHeartbeats 4000000 in
set_option maxRecDepth 100000 in
theorem lb_X9_nextInRank_5 {p : Program} {l : Launch} {e : Env} {s : State} {m : MethodId} {args : Array Value} {below : List Frame} {meth : Method} {c : Code} {D : va_G} {E : Nat → ClassId} {sz : Nat} {M : Nat → Nat → Nat → Int32} {a : AS} {ρ : YR} {w : Nat} {r0 : Int32} (C : cx p s m args meth c D E (Aof (mx M a, ρ) [] s.heap.size) cX9_nextInRank 6 "TradeLineModel") (hr : meth.sig.returnType = (some .int)) (hz : s.heap.size = sz) (hρ : rsh ρ) {x1 x2 x3 x4 : Int32} {k5 : Int32 → Int32 → Int32 → Int32 → Option (Int32)} (hk5 : ∀ (z1 z2 z3 z4 : Int32), k5 z1 z2 z3 z4 = some r0 → G p l e ({ frames := 2, cells := 0, slots := 0, locals := 43 } : Room) s m args below meth c D E (Aof (mx M a, ρ) [] s.heap.size) 6 (MQ below (cQ D E sz (mx M a, ρ) [] (pI (fun r u => r = r0 ∧ u = ((mx M a, ρ), [])))) args s 0 0 (Aof (mx M a, ρ) [] s.heap.size)) (mx M a, ρ) [] 0 0 5 [(0, .ref (ρ.2.2.2 40 0)), (1, .int z1), (2, .int z2), (3, .int z3), (4, .int z4)] []) (h : b_X9_nextInRank_5 k5 w a x1 x2 x3 x4 = some r0) : G p l e ({ frames := 2, cells := 0, slots := 0, locals := 43 } : Room) s m args below meth c D E (Aof (mx M a, ρ) [] s.heap.size) 6 (MQ below (cQ D E sz (mx M a, ρ) [] (pI (fun r u => r = r0 ∧ u = ((mx M a, ρ), [])))) args s 0 0 (Aof (mx M a, ρ) [] s.heap.size)) (mx M a, ρ) [] 0 0 5 [(0, .ref (ρ.2.2.2 40 0)), (1, .int x1), (2, .int x2), (3, .int x3), (4, .int x4)] [] := by
  unfold b_X9_nextInRank_5 at h
  refine g_iload C dX9_nextInRank_5 4 rfl ?_
  refine g_aload_n C dX9_nextInRank_7 rfl 0 rfl ?_
  refine g_get (k := 40) (i := 0) (ref := "TradeLineModel") (v := .int (a 0 22)) C rfl (lvY0 hρ) rfl rfl inGX9 22 (by decide) gw_1351 (fun _ h => h) rfl dX9_nextInRank_8 ?_
  refine g_icmp_ge (tgt := 79) C dX9_nextInRank_11 (by decide) (fun c11 => ?_) (fun c11 => ?_)
  · replace h := (if_pos c11).symm.trans h
    refine g_iload_n C dX9_nextInRank_79 rfl 3 rfl ?_
    exact g_iret C hr rfl hz ⟨rfl, rfl, fun _ => rfl, fun _ => rfl⟩ ⟨Option.some.inj h, rfl⟩ (fun j x h => by simp at h) dX9_nextInRank_80
  · replace h := (if_neg c11).symm.trans h
    refine g_aload_n C dX9_nextInRank_14 rfl 0 rfl ?_
    refine g_iload C dX9_nextInRank_15 4 rfl ?_
    refine g_iload_n C dX9_nextInRank_17 rfl 2 rfl ?_
    obtain ⟨v1, hv1, h⟩ := bind_of h
    refine g_cVi (n := 2) (exc := []) (exr := []) C [_, _] _ rfl rfl [] [] rfl rfl rfl rfl (fun _ h => absurd h (by simp)) (fun _ h => absurd h (by simp)) (fun _ h => absurd h (by simp)) (fun sz => k_X9_isToRoute l M ρ hρ w _ _ _ _ hv1 D E sz) rfl gw_1722 gw_9 gw_1719 gw_1721 gs_80 ⟨by decide +kernel, by decide +kernel, by decide +kernel⟩ ⟨rfl, rfl⟩ ⟨Nat.le_of_ble_eq_true rfl, Nat.le_of_ble_eq_true rfl⟩ (rcvT (lvY0 hρ) rfl rfl rfl) (Nat.le_of_ble_eq_true rfl) dX9_nextInRank_18 ⟨by decide, by decide⟩ (fun r u hp hx => ?_)
    obtain ⟨er, rfl⟩ := hp
    rw [er]
    try dsimp only [List.append_nil]
    refine g_if_eq (tgt := 43) C dX9_nextInRank_21 (by decide) (fun c21 => ?_) (fun c21 => ?_)
    · replace h := (if_pos c21).symm.trans h
      refine g_lv [0, 1, 2, 3, 4] rfl ?_
      exact lb_X9_nextInRank_43 C hr hz hρ hk5 h
    · replace h := (if_neg c21).symm.trans h
      refine g_iload_n C dX9_nextInRank_24 rfl 1 rfl ?_
      refine g_iconst (v := (-1 : Int32)) C dX9_nextInRank_25 (by decide) ?_
      refine g_icmp_eq (tgt := 39) C dX9_nextInRank_26 (by decide) (fun c26 => ?_) (fun c26 => ?_)
      · replace h := (if_pos c26).symm.trans h
        refine g_lv [0, 1, 2, 3, 4] rfl ?_
        exact lb_X9_nextInRank_39 C hr hz hρ hk5 h
      · replace h := (if_neg c26).symm.trans h
        refine g_aload_n C dX9_nextInRank_29 rfl 0 rfl ?_
        refine g_iload_n C dX9_nextInRank_30 rfl 1 rfl ?_
        refine g_iload C dX9_nextInRank_31 4 rfl ?_
        obtain ⟨v4, hv4, h⟩ := bind_of h
        refine g_cVi (n := 2) (exc := []) (exr := []) C [_, _] _ rfl rfl [] [] rfl rfl rfl rfl (fun _ h => absurd h (by simp)) (fun _ h => absurd h (by simp)) (fun _ h => absurd h (by simp)) (fun sz => k_X9_isAhead l M ρ hρ w _ _ _ _ hv4 D E sz) rfl gw_1726 gw_9 gw_1723 gw_1725 gs_81 ⟨by decide +kernel, by decide +kernel, by decide +kernel⟩ ⟨rfl, rfl⟩ ⟨Nat.le_of_ble_eq_true rfl, Nat.le_of_ble_eq_true rfl⟩ (rcvT (lvY0 hρ) rfl rfl rfl) (Nat.le_of_ble_eq_true rfl) dX9_nextInRank_33 ⟨by decide, by decide⟩ (fun r u hp hx => ?_)
        obtain ⟨er, rfl⟩ := hp
        rw [er]
        try dsimp only [List.append_nil]
        refine g_if_eq (tgt := 43) C dX9_nextInRank_36 (by decide) (fun c36 => ?_) (fun c36 => ?_)
        · replace h := (if_pos c36).symm.trans h
          refine g_lv [0, 1, 2, 3, 4] rfl ?_
          exact lb_X9_nextInRank_43 C hr hz hρ hk5 h
        · replace h := (if_neg c36).symm.trans h
          refine g_lv [0, 1, 2, 3, 4] rfl ?_
          exact lb_X9_nextInRank_39 C hr hz hρ hk5 h
noncomputable def l_X9_nextInRank_5  (w : Nat) (a : AS) : Nat → Int32 → Int32 → Int32 → Int32 → Option (Int32)
  | 0 => fun _ _ _ _ => none
  | n + 1 => fun x1 x2 x3 x4 => b_X9_nextInRank_5  (l_X9_nextInRank_5  w a n) w a x1 x2 x3 x4
theorem ll_X9_nextInRank_5 {p : Program} {l : Launch} {e : Env} {s : State} {m : MethodId} {args : Array Value} {below : List Frame} {meth : Method} {c : Code} {D : va_G} {E : Nat → ClassId} {sz : Nat} {M : Nat → Nat → Nat → Int32} {a : AS} {ρ : YR} {w : Nat} {r0 : Int32} (C : cx p s m args meth c D E (Aof (mx M a, ρ) [] s.heap.size) cX9_nextInRank 6 "TradeLineModel") (hr : meth.sig.returnType = (some .int)) (hz : s.heap.size = sz) (hρ : rsh ρ)   : ∀ (n : Nat) (x1 x2 x3 x4 : Int32), l_X9_nextInRank_5  w a n x1 x2 x3 x4 = some r0 → G p l e ({ frames := 2, cells := 0, slots := 0, locals := 43 } : Room) s m args below meth c D E (Aof (mx M a, ρ) [] s.heap.size) 6 (MQ below (cQ D E sz (mx M a, ρ) [] (pI (fun r u => r = r0 ∧ u = ((mx M a, ρ), [])))) args s 0 0 (Aof (mx M a, ρ) [] s.heap.size)) (mx M a, ρ) [] 0 0 5 [(0, .ref (ρ.2.2.2 40 0)), (1, .int x1), (2, .int x2), (3, .int x3), (4, .int x4)] [] := by
  intro n
  induction n with
  | zero => exact fun x1 x2 x3 x4 h => absurd (show (none : Option (Int32)) = some r0 from h) (by simp)
  | succ n ih => exact fun x1 x2 x3 x4 h => lb_X9_nextInRank_5 (w := w) C hr hz hρ  ih h
noncomputable def f_X9_nextInRank  (w : Nat) (a : AS) (x1 x2 : Int32) : Option (Int32) := l_X9_nextInRank_5  w a w x1 x2 (-1 : Int32) (0 : Int32)
set_option maxHeartbeats 4000000 in
set_option maxRecDepth 100000 in
theorem lb_X9_nextInRank_0 {p : Program} {l : Launch} {e : Env} {s : State} {m : MethodId} {args : Array Value} {below : List Frame} {meth : Method} {c : Code} {D : va_G} {E : Nat → ClassId} {sz : Nat} {M : Nat → Nat → Nat → Int32} {a : AS} {ρ : YR} {w : Nat} {r0 : Int32} (C : cx p s m args meth c D E (Aof (mx M a, ρ) [] s.heap.size) cX9_nextInRank 6 "TradeLineModel") (hr : meth.sig.returnType = (some .int)) (hz : s.heap.size = sz) (hρ : rsh ρ) {x1 x2 : Int32}   (h : f_X9_nextInRank  w a x1 x2 = some r0) : G p l e ({ frames := 2, cells := 0, slots := 0, locals := 43 } : Room) s m args below meth c D E (Aof (mx M a, ρ) [] s.heap.size) 6 (MQ below (cQ D E sz (mx M a, ρ) [] (pI (fun r u => r = r0 ∧ u = ((mx M a, ρ), [])))) args s 0 0 (Aof (mx M a, ρ) [] s.heap.size)) (mx M a, ρ) [] 0 0 0 [(0, .ref (ρ.2.2.2 40 0)), (1, .int x1), (2, .int x2)] [] := by
  unfold f_X9_nextInRank at h
  refine g_iconst (v := (-1 : Int32)) C dX9_nextInRank_0 (by decide) ?_
  refine g_istore_n (lv' := [(3, .int (-1 : Int32)), (0, .ref (ρ.2.2.2 40 0)), (1, .int x1), (2, .int x2)]) C dX9_nextInRank_1 rfl (by decide) rfl ?_
  refine g_iconst (v := (0 : Int32)) C dX9_nextInRank_2 (by decide) ?_
  refine g_istore (lv' := [(4, .int (0 : Int32)), (3, .int (-1 : Int32)), (0, .ref (ρ.2.2.2 40 0)), (1, .int x1), (2, .int x2)]) C dX9_nextInRank_3 (by decide) rfl ?_
  refine g_lv [2, 3, 4, 1, 0] rfl ?_
  exact ll_X9_nextInRank_5 C hr hz hρ  w _ _ _ _ h
theorem k_X9_nextInRank (l : Launch) (M : Nat → Nat → Nat → Int32) (ρ : YR) (hρ : rsh ρ) (w : Nat) (a : AS) (x1 x2 : Int32) (r0 : Int32) (h : f_X9_nextInRank w a x1 x2 = some r0) : ∀ D E sz, Met l yX9_nextInRank gwX9_nextInRank ({ frames := 2, cells := 0, slots := 0, locals := 43 } : Room) (cP D E sz (mx M a, ρ) [] [.ref (ρ.2.2.2 40 0), .int x1, .int x2]) (cQ D E sz (mx M a, ρ) [] (pI (fun r u => r = r0 ∧ u = ((mx M a, ρ), [])))) (0) (0) (Aof (mx M a, ρ) [] sz) := by
  intro D E sz
  refine g_of (cc := cX9_nextInRank) (maxL := 6) (ret := (some .int)) (own := "TradeLineModel") (by decide) rfl rfl (Nat.le_of_ble_eq_true rfl) ?_
  intro p e s m args below meth c C hr hin hz ha hwr
  refine g_lv [0, 1, 2] rfl ?_
  exact lb_X9_nextInRank_0 C hr hz hρ h
noncomputable def b_X9_quote_104 (k104 : AS → Int32 → Int32 → Int32 → Option (AS × Int32)) (w : Nat) (a : AS) (x2 x5 x6 : Int32) : Option (AS × Int32) := (if x6 = (-1 : Int32) then (some (a, ((a 0 35) - x5))) else ((f_X9_routes w a x6).bind (fun v10 => (f_X9_nextInRank w v10.1 x6 x2).bind (fun v11 => k104 v10.1 x2 x5 v11))))
set_option maxHeartbeats 4000000 in
set_option maxRecDepth 100000 in
theorem lb_X9_quote_104 {p : Program} {l : Launch} {e : Env} {s : State} {m : MethodId} {args : Array Value} {below : List Frame} {meth : Method} {c : Code} {D : va_G} {E : Nat → ClassId} {sz : Nat} {M : Nat → Nat → Nat → Int32} {a0 : AS} {ρ : YR} {w : Nat} {r0 : AS × Int32} (C : cx p s m args meth c D E (Aof (mx M a0, ρ) [] s.heap.size) cX9_quote 7 "TradeLineModel") (hr : meth.sig.returnType = (some .int)) (hz : s.heap.size = sz) (hρ : rsh ρ) {a : AS} {x2 x5 x6 : Int32} {k104 : AS → Int32 → Int32 → Int32 → Option (AS × Int32)} (hk104 : ∀ (a1 : AS) (z2 z5 z6 : Int32), k104 a1 z2 z5 z6 = some r0 → G p l e ({ frames := 5, cells := 0, slots := 0, locals := 120 } : Room) s m args below meth c D E (Aof (mx M a0, ρ) [] s.heap.size) 7 (MQ below (cQ D E sz (mx M a0, ρ) [] (pI (fun r u => r = r0.2 ∧ u = ((mx M r0.1, ρ), [])))) args s 0 0 (Aof (mx M a0, ρ) [] s.heap.size)) (mx M a1, ρ) [] 0 0 104 [(0, .ref (ρ.2.2.2 40 0)), (2, .int z2), (5, .int z5), (6, .int z6)] []) (h : b_X9_quote_104 k104 w a x2 x5 x6 = some r0) : G p l e ({ frames := 5, cells := 0, slots := 0, locals := 120 } : Room) s m args below meth c D E (Aof (mx M a0, ρ) [] s.heap.size) 7 (MQ below (cQ D E sz (mx M a0, ρ) [] (pI (fun r u => r = r0.2 ∧ u = ((mx M r0.1, ρ), [])))) args s 0 0 (Aof (mx M a0, ρ) [] s.heap.size)) (mx M a, ρ) [] 0 0 104 [(0, .ref (ρ.2.2.2 40 0)), (2, .int x2), (5, .int x5), (6, .int x6)] [] := by
  unfold b_X9_quote_104 at h
  refine g_iload C dX9_quote_104 3 rfl ?_
  refine g_iconst (v := (-1 : Int32)) C dX9_quote_106 (by decide) ?_
  refine g_icmp_eq (tgt := 128) C dX9_quote_107 (by decide) (fun c107 => ?_) (fun c107 => ?_)
  · replace h := (if_pos c107).symm.trans h
    refine g_aload_n C dX9_quote_128 rfl 0 rfl ?_
    refine g_get (k := 40) (i := 0) (ref := "TradeLineModel") (v := .int (a 0 35)) C rfl (lvY0 hρ) rfl rfl inGX9 35 (by decide) gw_1364 (fun _ h => h) rfl dX9_quote_129 ?_
    refine g_iload C dX9_quote_132 2 rfl ?_
    refine g_isub C dX9_quote_134 ?_
    obtain rfl := Option.some.inj h
    exact g_iret C hr rfl hz ⟨rfl, rfl, fun _ => rfl, fun _ => rfl⟩ ⟨rfl, rfl⟩ (fun j x h => by simp at h) dX9_quote_135
  · replace h := (if_neg c107).symm.trans h
    refine g_aload_n C dX9_quote_110 rfl 0 rfl ?_
    refine g_iload C dX9_quote_111 3 rfl ?_
    obtain ⟨v10, hv10, h⟩ := bind_of h
    refine g_cVv (n := 1) (exc := []) (exr := []) C [_] _ rfl rfl [] [] rfl rfl rfl rfl (fun _ h => absurd h (by simp)) (fun _ h => absurd h (by simp)) (fun _ h => absurd h (by simp)) (fun sz => k_X9_routes l M ρ hρ w _ _ _ hv10 D E sz) rfl gw_1551 gw_9 gw_1548 gw_1550 gs_56 ⟨by decide +kernel, by decide +kernel, by decide +kernel⟩ ⟨rfl, rfl⟩ ⟨Nat.le_of_ble_eq_true rfl, Nat.le_of_ble_eq_true rfl⟩ (rcvT (lvY0 hρ) rfl rfl rfl) (Nat.le_of_ble_eq_true rfl) dX9_quote_113 ⟨by decide, by decide⟩ (fun u hp hx => ?_)
    obtain rfl := hp
    try dsimp only [List.append_nil]
    refine g_aload_n C dX9_quote_116 rfl 0 rfl ?_
    refine g_iload C dX9_quote_117 3 rfl ?_
    refine g_iload_n C dX9_quote_119 rfl 1 rfl ?_
    obtain ⟨v11, hv11, h⟩ := bind_of h
    refine g_cVi (n := 2) (exc := []) (exr := []) C [_, _] _ rfl rfl [] [] rfl rfl rfl rfl (fun _ h => absurd h (by simp)) (fun _ h => absurd h (by simp)) (fun _ h => absurd h (by simp)) (fun sz => k_X9_nextInRank l M ρ hρ w _ _ _ _ hv11 D E sz) rfl gw_1718 gw_9 gw_1715 gw_1717 gs_79 ⟨by decide +kernel, by decide +kernel, by decide +kernel⟩ ⟨rfl, rfl⟩ ⟨Nat.le_of_ble_eq_true rfl, Nat.le_of_ble_eq_true rfl⟩ (rcvT (lvY0 hρ) rfl rfl rfl) (Nat.le_of_ble_eq_true rfl) dX9_quote_120 ⟨by decide, by decide⟩ (fun r u hp hx => ?_)
    obtain ⟨er, rfl⟩ := hp
    rw [er]
    try dsimp only [List.append_nil]
    refine g_istore (lv' := [(6, .int v11), (0, .ref (ρ.2.2.2 40 0)), (2, .int x2), (5, .int x5)]) C dX9_quote_123 (by decide) rfl ?_
    refine g_goto (tgt := 104) C dX9_quote_125 (by decide) ?_
    refine g_lv [1, 2, 3, 0] rfl ?_
    exact hk104 _ _ _ _ h
noncomputable def l_X9_quote_104  (w : Nat) : Nat → AS → Int32 → Int32 → Int32 → Option (AS × Int32)
  | 0 => fun _ _ _ _ => none
  | n + 1 => fun a x2 x5 x6 => b_X9_quote_104  (l_X9_quote_104  w n) w a x2 x5 x6
theorem ll_X9_quote_104 {p : Program} {l : Launch} {e : Env} {s : State} {m : MethodId} {args : Array Value} {below : List Frame} {meth : Method} {c : Code} {D : va_G} {E : Nat → ClassId} {sz : Nat} {M : Nat → Nat → Nat → Int32} {a0 : AS} {ρ : YR} {w : Nat} {r0 : AS × Int32} (C : cx p s m args meth c D E (Aof (mx M a0, ρ) [] s.heap.size) cX9_quote 7 "TradeLineModel") (hr : meth.sig.returnType = (some .int)) (hz : s.heap.size = sz) (hρ : rsh ρ)   : ∀ (n : Nat) (a : AS) (x2 x5 x6 : Int32), l_X9_quote_104  w n a x2 x5 x6 = some r0 → G p l e ({ frames := 5, cells := 0, slots := 0, locals := 120 } : Room) s m args below meth c D E (Aof (mx M a0, ρ) [] s.heap.size) 7 (MQ below (cQ D E sz (mx M a0, ρ) [] (pI (fun r u => r = r0.2 ∧ u = ((mx M r0.1, ρ), [])))) args s 0 0 (Aof (mx M a0, ρ) [] s.heap.size)) (mx M a, ρ) [] 0 0 104 [(0, .ref (ρ.2.2.2 40 0)), (2, .int x2), (5, .int x5), (6, .int x6)] [] := by
  intro n
  induction n with
  | zero => exact fun a x2 x5 x6 h => absurd (show (none : Option (AS × Int32)) = some r0 from h) (by simp)
  | succ n ih => exact fun a x2 x5 x6 h => lb_X9_quote_104 (w := w) C hr hz hρ  ih h
noncomputable def b_X9_quote_86  (w : Nat) (a : AS) (x2 x4 s0 s1 : Int32) : Option (AS × Int32) := bif ixB (s1 + s0) 6 then yl (up2 a 34 (s1 + s0).toNatClampNeg x4) (fun a7 => yl ((a7 0 35)) (fun t8 => (f_X9_nextInRank w a7 (-1 : Int32) x2).bind (fun v9 => l_X9_quote_104  w w a7 x2 t8 v9))) else none
set_option maxHeartbeats 4000000 in
set_option maxRecDepth 100000 in
theorem lb_X9_quote_86 {p : Program} {l : Launch} {e : Env} {s : State} {m : MethodId} {args : Array Value} {below : List Frame} {meth : Method} {c : Code} {D : va_G} {E : Nat → ClassId} {sz : Nat} {M : Nat → Nat → Nat → Int32} {a0 : AS} {ρ : YR} {w : Nat} {r0 : AS × Int32} (C : cx p s m args meth c D E (Aof (mx M a0, ρ) [] s.heap.size) cX9_quote 7 "TradeLineModel") (hr : meth.sig.returnType = (some .int)) (hz : s.heap.size = sz) (hρ : rsh ρ) {a : AS} {x2 x4 s0 s1 : Int32}   (h : b_X9_quote_86  w a x2 x4 s0 s1 = some r0) : G p l e ({ frames := 5, cells := 0, slots := 0, locals := 120 } : Room) s m args below meth c D E (Aof (mx M a0, ρ) [] s.heap.size) 7 (MQ below (cQ D E sz (mx M a0, ρ) [] (pI (fun r u => r = r0.2 ∧ u = ((mx M r0.1, ρ), [])))) args s 0 0 (Aof (mx M a0, ρ) [] s.heap.size)) (mx M a, ρ) [] 0 0 86 [(0, .ref (ρ.2.2.2 40 0)), (2, .int x2), (4, .int x4)] [.int s0, .int s1, .ref (ρ.2.2.2 (40 + 34) 0)] := by
  unfold b_X9_quote_86 at h
  refine g_iadd C dX9_quote_86 ?_
  refine g_iload C dX9_quote_87 2 rfl ?_
  obtain ⟨g6, h⟩ := of_guard h
  refine q_iast C hρ (j := 34) (N := 6) (List.mem_of_getElem? (i := 29) rfl) rfl rfl g6 dX9_quote_89 (fun a7 ea7 => ?_)
  replace h := yl_of h ea7
  refine g_aload_n C dX9_quote_90 rfl 0 rfl ?_
  refine g_get (k := 40) (i := 0) (ref := "TradeLineModel") (v := .int (a7 0 35)) C rfl (lvY0 hρ) rfl rfl inGX9 35 (by decide) gw_1364 (fun _ h => h) rfl dX9_quote_91 ?_
  refine q_topi (fun t8 et8 => ?_)
  replace h := yl_of h et8
  refine g_istore (lv' := [(5, .int t8), (0, .ref (ρ.2.2.2 40 0)), (2, .int x2), (4, .int x4)]) C dX9_quote_94 (by decide) rfl ?_
  refine g_aload_n C dX9_quote_96 rfl 1 rfl ?_
  refine g_iconst (v := (-1 : Int32)) C dX9_quote_97 (by decide) ?_
  refine g_iload_n C dX9_quote_98 rfl 2 rfl ?_
  obtain ⟨v9, hv9, h⟩ := bind_of h
  refine g_cVi (n := 2) (exc := []) (exr := []) C [_, _] _ rfl rfl [] [] rfl rfl rfl rfl (fun _ h => absurd h (by simp)) (fun _ h => absurd h (by simp)) (fun _ h => absurd h (by simp)) (fun sz => k_X9_nextInRank l M ρ hρ w _ _ _ _ hv9 D E sz) rfl gw_1718 gw_9 gw_1715 gw_1717 gs_79 ⟨by decide +kernel, by decide +kernel, by decide +kernel⟩ ⟨rfl, rfl⟩ ⟨Nat.le_of_ble_eq_true rfl, Nat.le_of_ble_eq_true rfl⟩ (rcvT (lvY0 hρ) rfl rfl rfl) (Nat.le_of_ble_eq_true rfl) dX9_quote_99 ⟨by decide, by decide⟩ (fun r u hp hx => ?_)
  obtain ⟨er, rfl⟩ := hp
  rw [er]
  try dsimp only [List.append_nil]
  refine g_istore (lv' := [(6, .int v9), (5, .int t8), (0, .ref (ρ.2.2.2 40 0)), (2, .int x2), (4, .int x4)]) C dX9_quote_102 (by decide) rfl ?_
  refine g_lv [2, 3, 1, 0] rfl ?_
  exact ll_X9_quote_104 C hr hz hρ  w _ _ _ _ h
noncomputable def b_X9_quote_67  (w : Nat) (a : AS) (x1 x2 x3 x4 s0 s1 : Int32) : Option (AS × Int32) := bif ixB (s1 + s0) 6 then yl (up2 a 33 (s1 + s0).toNatClampNeg x3) (fun a5 => (if x2 = (0 : Int32) then (b_X9_quote_86  w a5 x2 x4 (0 : Int32) ((2 : Int32) * x1)) else (b_X9_quote_86  w a5 x2 x4 (1 : Int32) ((2 : Int32) * x1)))) else none
set_option maxHeartbeats 4000000 in
set_option maxRecDepth 100000 in
theorem lb_X9_quote_67 {p : Program} {l : Launch} {e : Env} {s : State} {m : MethodId} {args : Array Value} {below : List Frame} {meth : Method} {c : Code} {D : va_G} {E : Nat → ClassId} {sz : Nat} {M : Nat → Nat → Nat → Int32} {a0 : AS} {ρ : YR} {w : Nat} {r0 : AS × Int32} (C : cx p s m args meth c D E (Aof (mx M a0, ρ) [] s.heap.size) cX9_quote 7 "TradeLineModel") (hr : meth.sig.returnType = (some .int)) (hz : s.heap.size = sz) (hρ : rsh ρ) {a : AS} {x1 x2 x3 x4 s0 s1 : Int32}   (h : b_X9_quote_67  w a x1 x2 x3 x4 s0 s1 = some r0) : G p l e ({ frames := 5, cells := 0, slots := 0, locals := 120 } : Room) s m args below meth c D E (Aof (mx M a0, ρ) [] s.heap.size) 7 (MQ below (cQ D E sz (mx M a0, ρ) [] (pI (fun r u => r = r0.2 ∧ u = ((mx M r0.1, ρ), [])))) args s 0 0 (Aof (mx M a0, ρ) [] s.heap.size)) (mx M a, ρ) [] 0 0 67 [(0, .ref (ρ.2.2.2 40 0)), (1, .int x1), (2, .int x2), (3, .int x3), (4, .int x4)] [.int s0, .int s1, .ref (ρ.2.2.2 (40 + 33) 0)] := by
  unfold b_X9_quote_67 at h
  refine g_iadd C dX9_quote_67 ?_
  refine g_iload_n C dX9_quote_68 rfl 3 rfl ?_
  obtain ⟨g4, h⟩ := of_guard h
  refine q_iast C hρ (j := 33) (N := 6) (List.mem_of_getElem? (i := 28) rfl) rfl rfl g4 dX9_quote_69 (fun a5 ea5 => ?_)
  replace h := yl_of h ea5
  refine g_aload_n C dX9_quote_70 rfl 0 rfl ?_
  refine g_get (k := 40) (i := 0) (ref := "TradeLineModel") (v := .ref (ρ.2.2.2 (40 + 34) 0)) C rfl (lvY0 hρ) rfl rfl inGX9 34 (by decide) gw_1363 (fun _ h => h) rfl dX9_quote_71 ?_
  refine g_iconst (v := (2 : Int32)) C dX9_quote_74 (by decide) ?_
  refine g_iload_n C dX9_quote_75 rfl 1 rfl ?_
  refine g_imul C dX9_quote_76 ?_
  refine g_iload_n C dX9_quote_77 rfl 2 rfl ?_
  refine g_if_eq (tgt := 85) C dX9_quote_78 (by decide) (fun c78 => ?_) (fun c78 => ?_)
  · replace h := (if_pos c78).symm.trans h
    refine g_iconst (v := (0 : Int32)) C dX9_quote_85 (by decide) ?_
    refine g_lv [0, 2, 4] rfl ?_
    exact lb_X9_quote_86 C hr hz hρ  h
  · replace h := (if_neg c78).symm.trans h
    refine g_iconst (v := (1 : Int32)) C dX9_quote_81 (by decide) ?_
    refine g_goto (tgt := 86) C dX9_quote_82 (by decide) ?_
    refine g_lv [0, 2, 4] rfl ?_
    exact lb_X9_quote_86 C hr hz hρ  h
noncomputable def b_X9_quote_39  (w : Nat) (a : AS) (x1 x2 x3 x4 s0 : Int32) : Option (AS × Int32) := yl (up2 a 0 0 s0) (fun a3 => (if (a3 0 0) ≤ (0 : Int32) then ((if x2 = (0 : Int32) then (b_X9_quote_67  w a3 x1 x2 x3 x4 (0 : Int32) ((2 : Int32) * x1)) else (b_X9_quote_67  w a3 x1 x2 x3 x4 (1 : Int32) ((2 : Int32) * x1)))) else (some (a3, (0 : Int32)))))
set_option maxHeartbeats 4000000 in
set_option maxRecDepth 100000 in
theorem lb_X9_quote_39 {p : Program} {l : Launch} {e : Env} {s : State} {m : MethodId} {args : Array Value} {below : List Frame} {meth : Method} {c : Code} {D : va_G} {E : Nat → ClassId} {sz : Nat} {M : Nat → Nat → Nat → Int32} {a0 : AS} {ρ : YR} {w : Nat} {r0 : AS × Int32} (C : cx p s m args meth c D E (Aof (mx M a0, ρ) [] s.heap.size) cX9_quote 7 "TradeLineModel") (hr : meth.sig.returnType = (some .int)) (hz : s.heap.size = sz) (hρ : rsh ρ) {a : AS} {x1 x2 x3 x4 s0 : Int32}   (h : b_X9_quote_39  w a x1 x2 x3 x4 s0 = some r0) : G p l e ({ frames := 5, cells := 0, slots := 0, locals := 120 } : Room) s m args below meth c D E (Aof (mx M a0, ρ) [] s.heap.size) 7 (MQ below (cQ D E sz (mx M a0, ρ) [] (pI (fun r u => r = r0.2 ∧ u = ((mx M r0.1, ρ), [])))) args s 0 0 (Aof (mx M a0, ρ) [] s.heap.size)) (mx M a, ρ) [] 0 0 39 [(0, .ref (ρ.2.2.2 40 0)), (1, .int x1), (2, .int x2), (3, .int x3), (4, .int x4)] [.int s0, .ref (ρ.2.2.2 40 0)] := by
  unfold b_X9_quote_39 at h
  refine q_put C hρ (j := 0) (by decide) gw_1329 rfl rfl (tyX9_ok 0 (by decide)) rfl rfl (by simp [fvs, up1]) dX9_quote_39 (fun a3 ea3 => ?_)
  replace h := yl_of h ea3
  refine g_aload_n C dX9_quote_42 rfl 0 rfl ?_
  refine g_get (k := 40) (i := 0) (ref := "TradeLineModel") (v := .int (a3 0 0)) C rfl (lvY0 hρ) rfl rfl inGX9 0 (by decide) gw_1329 (fun _ h => h) rfl dX9_quote_43 ?_
  refine g_if_le (tgt := 51) C dX9_quote_46 (by decide) (fun c46 => ?_) (fun c46 => ?_)
  · replace h := (if_pos c46).symm.trans h
    refine g_aload_n C dX9_quote_51 rfl 0 rfl ?_
    refine g_get (k := 40) (i := 0) (ref := "TradeLineModel") (v := .ref (ρ.2.2.2 (40 + 33) 0)) C rfl (lvY0 hρ) rfl rfl inGX9 33 (by decide) gw_1362 (fun _ h => h) rfl dX9_quote_52 ?_
    refine g_iconst (v := (2 : Int32)) C dX9_quote_55 (by decide) ?_
    refine g_iload_n C dX9_quote_56 rfl 1 rfl ?_
    refine g_imul C dX9_quote_57 ?_
    refine g_iload_n C dX9_quote_58 rfl 2 rfl ?_
    refine g_if_eq (tgt := 66) C dX9_quote_59 (by decide) (fun c59 => ?_) (fun c59 => ?_)
    · replace h := (if_pos c59).symm.trans h
      refine g_iconst (v := (0 : Int32)) C dX9_quote_66 (by decide) ?_
      refine g_lv [0, 1, 2, 3, 4] rfl ?_
      exact lb_X9_quote_67 C hr hz hρ  h
    · replace h := (if_neg c59).symm.trans h
      refine g_iconst (v := (1 : Int32)) C dX9_quote_62 (by decide) ?_
      refine g_goto (tgt := 67) C dX9_quote_63 (by decide) ?_
      refine g_lv [0, 1, 2, 3, 4] rfl ?_
      exact lb_X9_quote_67 C hr hz hρ  h
  · replace h := (if_neg c46).symm.trans h
    refine g_iconst (v := (0 : Int32)) C dX9_quote_49 (by decide) ?_
    obtain rfl := Option.some.inj h
    exact g_iret C hr rfl hz ⟨rfl, rfl, fun _ => rfl, fun _ => rfl⟩ ⟨rfl, rfl⟩ (fun j x h => by simp at h) dX9_quote_50
noncomputable def b_X9_quote_38  (w : Nat) (a : AS) (x1 x2 x3 x4 : Int32) : Option (AS × Int32) := b_X9_quote_39  w a x1 x2 x3 x4 (2 : Int32)
set_option maxHeartbeats 4000000 in
set_option maxRecDepth 100000 in
theorem lb_X9_quote_38 {p : Program} {l : Launch} {e : Env} {s : State} {m : MethodId} {args : Array Value} {below : List Frame} {meth : Method} {c : Code} {D : va_G} {E : Nat → ClassId} {sz : Nat} {M : Nat → Nat → Nat → Int32} {a0 : AS} {ρ : YR} {w : Nat} {r0 : AS × Int32} (C : cx p s m args meth c D E (Aof (mx M a0, ρ) [] s.heap.size) cX9_quote 7 "TradeLineModel") (hr : meth.sig.returnType = (some .int)) (hz : s.heap.size = sz) (hρ : rsh ρ) {a : AS} {x1 x2 x3 x4 : Int32}   (h : b_X9_quote_38  w a x1 x2 x3 x4 = some r0) : G p l e ({ frames := 5, cells := 0, slots := 0, locals := 120 } : Room) s m args below meth c D E (Aof (mx M a0, ρ) [] s.heap.size) 7 (MQ below (cQ D E sz (mx M a0, ρ) [] (pI (fun r u => r = r0.2 ∧ u = ((mx M r0.1, ρ), [])))) args s 0 0 (Aof (mx M a0, ρ) [] s.heap.size)) (mx M a, ρ) [] 0 0 38 [(0, .ref (ρ.2.2.2 40 0)), (1, .int x1), (2, .int x2), (3, .int x3), (4, .int x4)] [.ref (ρ.2.2.2 40 0)] := by
  unfold b_X9_quote_38 at h
  refine g_iconst (v := (2 : Int32)) C dX9_quote_38 (by decide) ?_
  refine g_lv [0, 1, 2, 3, 4] rfl ?_
  exact lb_X9_quote_39 C hr hz hρ  h
noncomputable def f_X9_quote  (w : Nat) (a : AS) (x1 x2 x3 x4 : Int32) : Option (AS × Int32) := (f_X9_isVenue w a x1).bind (fun v1 => (if v1 = (0 : Int32) then (b_X9_quote_39  w a x1 x2 x3 x4 (1 : Int32)) else ((f_X9_in w a x3 (1 : Int32) (100 : Int32)).bind (fun v2 => (if v2 = (0 : Int32) then (b_X9_quote_38  w a x1 x2 x3 x4) else ((f_X9_in w a x4 (0 : Int32) (200 : Int32)).bind (fun v12 => (if v12 = (0 : Int32) then (b_X9_quote_38  w a x1 x2 x3 x4) else (b_X9_quote_39  w a x1 x2 x3 x4 (0 : Int32))))))))))
set_option maxHeartbeats 4000000 in
set_option maxRecDepth 100000 in
theorem lb_X9_quote_0 {p : Program} {l : Launch} {e : Env} {s : State} {m : MethodId} {args : Array Value} {below : List Frame} {meth : Method} {c : Code} {D : va_G} {E : Nat → ClassId} {sz : Nat} {M : Nat → Nat → Nat → Int32} {a0 : AS} {ρ : YR} {w : Nat} {r0 : AS × Int32} (C : cx p s m args meth c D E (Aof (mx M a0, ρ) [] s.heap.size) cX9_quote 7 "TradeLineModel") (hr : meth.sig.returnType = (some .int)) (hz : s.heap.size = sz) (hρ : rsh ρ) {a : AS} {x1 x2 x3 x4 : Int32}   (h : f_X9_quote  w a x1 x2 x3 x4 = some r0) : G p l e ({ frames := 5, cells := 0, slots := 0, locals := 120 } : Room) s m args below meth c D E (Aof (mx M a0, ρ) [] s.heap.size) 7 (MQ below (cQ D E sz (mx M a0, ρ) [] (pI (fun r u => r = r0.2 ∧ u = ((mx M r0.1, ρ), [])))) args s 0 0 (Aof (mx M a0, ρ) [] s.heap.size)) (mx M a, ρ) [] 0 0 0 [(0, .ref (ρ.2.2.2 40 0)), (1, .int x1), (2, .int x2), (3, .int x3), (4, .int x4)] [] := by
  unfold f_X9_quote at h
  refine g_aload_n C dX9_quote_0 rfl 0 rfl ?_
  refine g_iload_n C dX9_quote_1 rfl 1 rfl ?_
  obtain ⟨v1, hv1, h⟩ := bind_of h
  refine g_cSi (n := 1) (exc := []) (exr := []) C [_] _ rfl rfl [] [] rfl rfl rfl rfl (fun _ h => absurd h (by simp)) (fun _ h => absurd h (by simp)) (fun _ h => absurd h (by simp)) (fun sz => k_X9_isVenue l M ρ hρ w _ _ _ hv1 D E sz) rfl gw_1714 gw_9 gw_1712 gw_1713 ⟨by decide +kernel, by decide +kernel, by decide +kernel⟩ ⟨rfl, rfl⟩ ⟨Nat.le_of_ble_eq_true rfl, Nat.le_of_ble_eq_true rfl⟩ (Nat.le_of_ble_eq_true rfl) dX9_quote_2 ⟨by decide, by decide⟩ (fun r u hp hx => ?_)
  obtain ⟨er, rfl⟩ := hp
  rw [er]
  try dsimp only [List.append_nil]
  refine g_if_ne (tgt := 12) C dX9_quote_5 (by decide) (fun c5 => ?_) (fun c5 => ?_)
  · replace h := (if_neg c5).symm.trans h
    refine g_iload_n C dX9_quote_12 rfl 3 rfl ?_
    refine g_iconst (v := (1 : Int32)) C dX9_quote_13 (by decide) ?_
    refine g_bipush (v := (100 : Int32)) C dX9_quote_14 (by decide) ?_
    obtain ⟨v2, hv2, h⟩ := bind_of h
    refine g_cSi (n := 3) (exc := []) (exr := []) C [_, _, _] _ rfl rfl [] [] rfl rfl rfl rfl (fun _ h => absurd h (by simp)) (fun _ h => absurd h (by simp)) (fun _ h => absurd h (by simp)) (fun sz => k_X9_in l M ρ hρ w _ _ _ _ _ hv2 D E sz) rfl gw_1507 gw_9 gw_1505 gw_1506 ⟨by decide +kernel, by decide +kernel, by decide +kernel⟩ ⟨rfl, rfl⟩ ⟨Nat.le_of_ble_eq_true rfl, Nat.le_of_ble_eq_true rfl⟩ (Nat.le_of_ble_eq_true rfl) dX9_quote_16 ⟨by decide, by decide⟩ (fun r u hp hx => ?_)
    obtain ⟨er, rfl⟩ := hp
    rw [er]
    try dsimp only [List.append_nil]
    refine g_if_eq (tgt := 38) C dX9_quote_19 (by decide) (fun c19 => ?_) (fun c19 => ?_)
    · replace h := (if_pos c19).symm.trans h
      refine g_lv [0, 1, 2, 3, 4] rfl ?_
      exact lb_X9_quote_38 C hr hz hρ  h
    · replace h := (if_neg c19).symm.trans h
      refine g_iload C dX9_quote_22 4 rfl ?_
      refine g_iconst (v := (0 : Int32)) C dX9_quote_24 (by decide) ?_
      refine g_sipush (v := (200 : Int32)) C dX9_quote_25 (by decide) ?_
      obtain ⟨v12, hv12, h⟩ := bind_of h
      refine g_cSi (n := 3) (exc := []) (exr := []) C [_, _, _] _ rfl rfl [] [] rfl rfl rfl rfl (fun _ h => absurd h (by simp)) (fun _ h => absurd h (by simp)) (fun _ h => absurd h (by simp)) (fun sz => k_X9_in l M ρ hρ w _ _ _ _ _ hv12 D E sz) rfl gw_1507 gw_9 gw_1505 gw_1506 ⟨by decide +kernel, by decide +kernel, by decide +kernel⟩ ⟨rfl, rfl⟩ ⟨Nat.le_of_ble_eq_true rfl, Nat.le_of_ble_eq_true rfl⟩ (Nat.le_of_ble_eq_true rfl) dX9_quote_28 ⟨by decide, by decide⟩ (fun r u hp hx => ?_)
      obtain ⟨er, rfl⟩ := hp
      rw [er]
      try dsimp only [List.append_nil]
      refine g_if_eq (tgt := 38) C dX9_quote_31 (by decide) (fun c31 => ?_) (fun c31 => ?_)
      · replace h := (if_pos c31).symm.trans h
        refine g_lv [0, 1, 2, 3, 4] rfl ?_
        exact lb_X9_quote_38 C hr hz hρ  h
      · replace h := (if_neg c31).symm.trans h
        refine g_iconst (v := (0 : Int32)) C dX9_quote_34 (by decide) ?_
        refine g_goto (tgt := 39) C dX9_quote_35 (by decide) ?_
        refine g_lv [0, 1, 2, 3, 4] rfl ?_
        exact lb_X9_quote_39 C hr hz hρ  h
  · replace h := (if_pos c5).symm.trans h
    refine g_iconst (v := (1 : Int32)) C dX9_quote_8 (by decide) ?_
    refine g_goto (tgt := 39) C dX9_quote_9 (by decide) ?_
    refine g_lv [0, 1, 2, 3, 4] rfl ?_
    exact lb_X9_quote_39 C hr hz hρ  h
theorem k_X9_quote (l : Launch) (M : Nat → Nat → Nat → Int32) (ρ : YR) (hρ : rsh ρ) (w : Nat) (a : AS) (x1 x2 x3 x4 : Int32) (r0 : AS × Int32) (h : f_X9_quote w a x1 x2 x3 x4 = some r0) : ∀ D E sz, Met l yX9_quote gwX9_quote ({ frames := 5, cells := 0, slots := 0, locals := 120 } : Room) (cP D E sz (mx M a, ρ) [] [.ref (ρ.2.2.2 40 0), .int x1, .int x2, .int x3, .int x4]) (cQ D E sz (mx M a, ρ) [] (pI (fun r u => r = r0.2 ∧ u = ((mx M r0.1, ρ), [])))) (0) (0) (Aof (mx M a, ρ) [] sz) := by
  intro D E sz
  refine g_of (cc := cX9_quote) (maxL := 7) (ret := (some .int)) (own := "TradeLineModel") (by decide) rfl rfl (Nat.le_of_ble_eq_true rfl) ?_
  intro p e s m args below meth c C hr hin hz ha hwr
  refine g_lv [0, 1, 2, 3, 4] rfl ?_
  exact lb_X9_quote_0 C hr hz hρ h
