noncomputable def b_X9_comes_69  (w : Nat) (a : AS) (x1 x2 x3 : Int32) : Option (AS × Int32) := bif ixB x1 2 then (if x2 ≤ (a 5 x1.toNatClampNeg) then ((if x2 = (a 5 x1.toNatClampNeg) then ((f_X9_takes w a x1 x2 x3).bind (fun v5 => (f_X9_takesHeld w v5.1 x1).bind (fun v6 => some (v6.1, (0 : Int32))))) else (some (a, (0 : Int32))))) else ((f_X9_holdsBack w a x1 x2 x3).bind (fun v7 => some (v7.1, (0 : Int32))))) else none
set_option maxHeartbeats 4000000 in
set_option maxRecDepth 100000 in
theorem lb_X9_comes_69 {p : Program} {l : Launch} {e : Env} {s : State} {m : MethodId} {args : Array Value} {below : List Frame} {meth : Method} {c : Code} {D : va_G} {E : Nat → ClassId} {sz : Nat} {M : Nat → Nat → Nat → Int32} {a0 : AS} {ρ : YR} {w : Nat} {r0 : AS × Int32} (C : cx p s m args meth c D E (Aof (mx M a0, ρ) [] s.heap.size) cX9_comes 5 "TradeLineModel") (hr : meth.sig.returnType = none) (hz : s.heap.size = sz) (hρ : rsh ρ) {a : AS} {x1 x2 x3 : Int32}   (h : b_X9_comes_69  w a x1 x2 x3 = some r0) : G p l e ({ frames := 8, cells := 0, slots := 0, locals := 191 } : Room) s m args below meth c D E (Aof (mx M a0, ρ) [] s.heap.size) 5 (MQ below (cQ D E sz (mx M a0, ρ) [] (pV (fun u => u = ((mx M r0.1, ρ), [])))) args s 0 0 (Aof (mx M a0, ρ) [] s.heap.size)) (mx M a, ρ) [] 0 0 69 [(0, .ref (ρ.2.2.2 40 0)), (1, .int x1), (2, .int x2), (3, .int x3)] [] := by
  unfold b_X9_comes_69 at h
  refine g_iload_n C dX9_comes_69 rfl 2 rfl ?_
  refine g_aload_n C dX9_comes_70 rfl 0 rfl ?_
  refine g_get (k := 40) (i := 0) (ref := "TradeLineModel") (v := .ref (ρ.2.2.2 (40 + 5) 0)) C rfl (lvY0 hρ) rfl rfl inGX9 5 (by decide) gw_1334 (fun _ h => h) rfl dX9_comes_71 ?_
  refine g_iload_n C dX9_comes_74 rfl 1 rfl ?_
  obtain ⟨g4, h⟩ := of_guard h
  refine q_iald C hρ (j := 5) (N := 2) (List.mem_of_getElem? (i := 2) rfl) rfl rfl g4 dX9_comes_75 ?_
  refine g_icmp_le (tgt := 89) C dX9_comes_76 (by decide) (fun c76 => ?_) (fun c76 => ?_)
  · replace h := (if_pos c76).symm.trans h
    refine g_iload_n C dX9_comes_89 rfl 2 rfl ?_
    refine g_aload_n C dX9_comes_90 rfl 0 rfl ?_
    refine g_get (k := 40) (i := 0) (ref := "TradeLineModel") (v := .ref (ρ.2.2.2 (40 + 5) 0)) C rfl (lvY0 hρ) rfl rfl inGX9 5 (by decide) gw_1334 (fun _ h => h) rfl dX9_comes_91 ?_
    refine g_iload_n C dX9_comes_94 rfl 1 rfl ?_
    refine q_iald C hρ (j := 5) (N := 2) (List.mem_of_getElem? (i := 2) rfl) rfl rfl g4 dX9_comes_95 ?_
    refine g_icmp_ne (tgt := 111) C dX9_comes_96 (by decide) (fun c96 => ?_) (fun c96 => ?_)
    · replace h := (if_neg c96).symm.trans h
      obtain rfl := Option.some.inj h
      exact g_vret C hr hz ⟨rfl, rfl, fun _ => rfl, fun _ => rfl⟩ rfl (fun j x h => by simp at h) dX9_comes_111
    · replace h := (if_pos c96).symm.trans h
      refine g_aload_n C dX9_comes_99 rfl 0 rfl ?_
      refine g_iload_n C dX9_comes_100 rfl 1 rfl ?_
      refine g_iload_n C dX9_comes_101 rfl 2 rfl ?_
      refine g_iload_n C dX9_comes_102 rfl 3 rfl ?_
      obtain ⟨v5, hv5, h⟩ := bind_of h
      refine g_cVv (n := 3) (exc := []) (exr := []) C [_, _, _] _ rfl rfl [] [] rfl rfl rfl rfl (fun _ h => absurd h (by simp)) (fun _ h => absurd h (by simp)) (fun _ h => absurd h (by simp)) (fun sz => k_X9_takes l M ρ hρ w _ _ _ _ _ hv5 D E sz) rfl gw_1527 gw_9 gw_1524 gw_1526 gs_50 ⟨by decide +kernel, by decide +kernel, by decide +kernel⟩ ⟨rfl, rfl⟩ ⟨Nat.le_of_ble_eq_true rfl, Nat.le_of_ble_eq_true rfl⟩ (rcvT (lvY0 hρ) rfl rfl rfl) (Nat.le_of_ble_eq_true rfl) dX9_comes_103 ⟨by decide, by decide⟩ (fun u hp hx => ?_)
      obtain rfl := hp
      try dsimp only [List.append_nil]
      refine g_aload_n C dX9_comes_106 rfl 0 rfl ?_
      refine g_iload_n C dX9_comes_107 rfl 1 rfl ?_
      obtain ⟨v6, hv6, h⟩ := bind_of h
      refine g_cVv (n := 1) (exc := []) (exr := []) C [_] _ rfl rfl [] [] rfl rfl rfl rfl (fun _ h => absurd h (by simp)) (fun _ h => absurd h (by simp)) (fun _ h => absurd h (by simp)) (fun sz => k_X9_takesHeld l M ρ hρ w _ _ _ hv6 D E sz) rfl gw_1571 gw_9 gw_1568 gw_1570 gs_61 ⟨by decide +kernel, by decide +kernel, by decide +kernel⟩ ⟨rfl, rfl⟩ ⟨Nat.le_of_ble_eq_true rfl, Nat.le_of_ble_eq_true rfl⟩ (rcvT (lvY0 hρ) rfl rfl rfl) (Nat.le_of_ble_eq_true rfl) dX9_comes_108 ⟨by decide, by decide⟩ (fun u hp hx => ?_)
      obtain rfl := hp
      try dsimp only [List.append_nil]
      obtain rfl := Option.some.inj h
      exact g_vret C hr hz ⟨rfl, rfl, fun _ => rfl, fun _ => rfl⟩ rfl (fun j x h => by simp at h) dX9_comes_111
  · replace h := (if_neg c76).symm.trans h
    refine g_aload_n C dX9_comes_79 rfl 0 rfl ?_
    refine g_iload_n C dX9_comes_80 rfl 1 rfl ?_
    refine g_iload_n C dX9_comes_81 rfl 2 rfl ?_
    refine g_iload_n C dX9_comes_82 rfl 3 rfl ?_
    obtain ⟨v7, hv7, h⟩ := bind_of h
    refine g_cVv (n := 3) (exc := []) (exr := []) C [_, _, _] _ rfl rfl [] [] rfl rfl rfl rfl (fun _ h => absurd h (by simp)) (fun _ h => absurd h (by simp)) (fun _ h => absurd h (by simp)) (fun sz => k_X9_holdsBack l M ρ hρ w _ _ _ _ _ hv7 D E sz) rfl gw_1523 gw_9 gw_1520 gw_1522 gs_49 ⟨by decide +kernel, by decide +kernel, by decide +kernel⟩ ⟨rfl, rfl⟩ ⟨Nat.le_of_ble_eq_true rfl, Nat.le_of_ble_eq_true rfl⟩ (rcvT (lvY0 hρ) rfl rfl rfl) (Nat.le_of_ble_eq_true rfl) dX9_comes_83 ⟨by decide, by decide⟩ (fun u hp hx => ?_)
    obtain rfl := hp
    try dsimp only [List.append_nil]
    refine g_goto (tgt := 111) C dX9_comes_86 (by decide) ?_
    obtain rfl := Option.some.inj h
    exact g_vret C hr hz ⟨rfl, rfl, fun _ => rfl, fun _ => rfl⟩ rfl (fun j x h => by simp at h) dX9_comes_111
noncomputable def b_X9_comes_42  (w : Nat) (a : AS) (x1 x2 x3 x4 : Int32) : Option (AS × Int32) := (if x3 = (0 : Int32) then (bif ixB x4 16384 then (if (a 11 x4.toNatClampNeg) = (3 : Int32) then ((f_X9_answers w a x1 (a 14 x4.toNatClampNeg)).bind (fun v9 => b_X9_comes_69  w v9.1 x1 x2 x3)) else (b_X9_comes_69  w a x1 x2 x3)) else none) else (b_X9_comes_69  w a x1 x2 x3))
set_option maxHeartbeats 4000000 in
set_option maxRecDepth 100000 in
theorem lb_X9_comes_42 {p : Program} {l : Launch} {e : Env} {s : State} {m : MethodId} {args : Array Value} {below : List Frame} {meth : Method} {c : Code} {D : va_G} {E : Nat → ClassId} {sz : Nat} {M : Nat → Nat → Nat → Int32} {a0 : AS} {ρ : YR} {w : Nat} {r0 : AS × Int32} (C : cx p s m args meth c D E (Aof (mx M a0, ρ) [] s.heap.size) cX9_comes 5 "TradeLineModel") (hr : meth.sig.returnType = none) (hz : s.heap.size = sz) (hρ : rsh ρ) {a : AS} {x1 x2 x3 x4 : Int32}   (h : b_X9_comes_42  w a x1 x2 x3 x4 = some r0) : G p l e ({ frames := 8, cells := 0, slots := 0, locals := 191 } : Room) s m args below meth c D E (Aof (mx M a0, ρ) [] s.heap.size) 5 (MQ below (cQ D E sz (mx M a0, ρ) [] (pV (fun u => u = ((mx M r0.1, ρ), [])))) args s 0 0 (Aof (mx M a0, ρ) [] s.heap.size)) (mx M a, ρ) [] 0 0 42 [(0, .ref (ρ.2.2.2 40 0)), (1, .int x1), (2, .int x2), (3, .int x3), (4, .int x4)] [] := by
  unfold b_X9_comes_42 at h
  refine g_iload_n C dX9_comes_42 rfl 3 rfl ?_
  refine g_if_ne (tgt := 69) C dX9_comes_43 (by decide) (fun c43 => ?_) (fun c43 => ?_)
  · replace h := (if_neg c43).symm.trans h
    refine g_lv [0, 1, 2, 3] rfl ?_
    exact lb_X9_comes_69 C hr hz hρ  h
  · replace h := (if_pos c43).symm.trans h
    refine g_aload_n C dX9_comes_46 rfl 0 rfl ?_
    refine g_get (k := 40) (i := 0) (ref := "TradeLineModel") (v := .ref (ρ.2.2.2 (40 + 11) 0)) C rfl (lvY0 hρ) rfl rfl inGX9 11 (by decide) gw_1340 (fun _ h => h) rfl dX9_comes_47 ?_
    refine g_iload C dX9_comes_50 4 rfl ?_
    obtain ⟨g8, h⟩ := of_guard h
    refine q_iald C hρ (j := 11) (N := 16384) (List.mem_of_getElem? (i := 8) rfl) rfl rfl g8 dX9_comes_52 ?_
    refine g_iconst (v := (3 : Int32)) C dX9_comes_53 (by decide) ?_
    refine g_icmp_ne (tgt := 69) C dX9_comes_54 (by decide) (fun c54 => ?_) (fun c54 => ?_)
    · replace h := (if_neg c54).symm.trans h
      refine g_lv [0, 1, 2, 3] rfl ?_
      exact lb_X9_comes_69 C hr hz hρ  h
    · replace h := (if_pos c54).symm.trans h
      refine g_aload_n C dX9_comes_57 rfl 0 rfl ?_
      refine g_iload_n C dX9_comes_58 rfl 1 rfl ?_
      refine g_aload_n C dX9_comes_59 rfl 0 rfl ?_
      refine g_get (k := 40) (i := 0) (ref := "TradeLineModel") (v := .ref (ρ.2.2.2 (40 + 14) 0)) C rfl (lvY0 hρ) rfl rfl inGX9 14 (by decide) gw_1343 (fun _ h => h) rfl dX9_comes_60 ?_
      refine g_iload C dX9_comes_63 4 rfl ?_
      refine q_iald C hρ (j := 14) (N := 16384) (List.mem_of_getElem? (i := 11) rfl) rfl rfl g8 dX9_comes_65 ?_
      obtain ⟨v9, hv9, h⟩ := bind_of h
      refine g_cVv (n := 2) (exc := []) (exr := []) C [_, _] _ rfl rfl [] [] rfl rfl rfl rfl (fun _ h => absurd h (by simp)) (fun _ h => absurd h (by simp)) (fun _ h => absurd h (by simp)) (fun sz => k_X9_answers l M ρ hρ w _ _ _ _ hv9 D E sz) rfl gw_1515 gw_9 gw_1512 gw_1514 gs_47 ⟨by decide +kernel, by decide +kernel, by decide +kernel⟩ ⟨rfl, rfl⟩ ⟨Nat.le_of_ble_eq_true rfl, Nat.le_of_ble_eq_true rfl⟩ (rcvT (lvY0 hρ) rfl rfl rfl) (Nat.le_of_ble_eq_true rfl) dX9_comes_66 ⟨by decide, by decide⟩ (fun u hp hx => ?_)
      obtain rfl := hp
      try dsimp only [List.append_nil]
      refine g_lv [0, 1, 2, 3] rfl ?_
      exact lb_X9_comes_69 C hr hz hρ  h
noncomputable def f_X9_comes  (w : Nat) (a : AS) (x1 x2 x3 : Int32) : Option (AS × Int32) := yl ((((8192 : Int32) * ((1 : Int32) - x1)) + x2)) (fun t1 => bif ixB x1 2 then yl (up2 a 10 x1.toNatClampNeg (a 0 1)) (fun a3 => (if x3 = (0 : Int32) then (bif ixB t1 16384 then (if (a3 11 t1.toNatClampNeg) = (0 : Int32) then (yl (up2 a3 3 x1.toNatClampNeg (vp_nar .boolean (1 : Int32))) (fun a11 => b_X9_comes_42  w a11 x1 x2 x3 t1)) else (b_X9_comes_42  w a3 x1 x2 x3 t1)) else none) else (b_X9_comes_42  w a3 x1 x2 x3 t1))) else none)
set_option maxHeartbeats 4000000 in
set_option maxRecDepth 100000 in
theorem lb_X9_comes_0 {p : Program} {l : Launch} {e : Env} {s : State} {m : MethodId} {args : Array Value} {below : List Frame} {meth : Method} {c : Code} {D : va_G} {E : Nat → ClassId} {sz : Nat} {M : Nat → Nat → Nat → Int32} {a0 : AS} {ρ : YR} {w : Nat} {r0 : AS × Int32} (C : cx p s m args meth c D E (Aof (mx M a0, ρ) [] s.heap.size) cX9_comes 5 "TradeLineModel") (hr : meth.sig.returnType = none) (hz : s.heap.size = sz) (hρ : rsh ρ) {a : AS} {x1 x2 x3 : Int32}   (h : f_X9_comes  w a x1 x2 x3 = some r0) : G p l e ({ frames := 8, cells := 0, slots := 0, locals := 191 } : Room) s m args below meth c D E (Aof (mx M a0, ρ) [] s.heap.size) 5 (MQ below (cQ D E sz (mx M a0, ρ) [] (pV (fun u => u = ((mx M r0.1, ρ), [])))) args s 0 0 (Aof (mx M a0, ρ) [] s.heap.size)) (mx M a, ρ) [] 0 0 0 [(0, .ref (ρ.2.2.2 40 0)), (1, .int x1), (2, .int x2), (3, .int x3)] [] := by
  unfold f_X9_comes at h
  refine g_sipush (v := (8192 : Int32)) C dX9_comes_0 (by decide) ?_
  refine g_iconst (v := (1 : Int32)) C dX9_comes_3 (by decide) ?_
  refine g_iload_n C dX9_comes_4 rfl 1 rfl ?_
  refine g_isub C dX9_comes_5 ?_
  refine g_imul C dX9_comes_6 ?_
  refine g_iload_n C dX9_comes_7 rfl 2 rfl ?_
  refine g_iadd C dX9_comes_8 ?_
  refine q_topi (fun t1 et1 => ?_)
  replace h := yl_of h et1
  refine g_istore (lv' := [(4, .int t1), (0, .ref (ρ.2.2.2 40 0)), (1, .int x1), (2, .int x2), (3, .int x3)]) C dX9_comes_9 (by decide) rfl ?_
  refine g_aload_n C dX9_comes_11 rfl 1 rfl ?_
  refine g_get (k := 40) (i := 0) (ref := "TradeLineModel") (v := .ref (ρ.2.2.2 (40 + 10) 0)) C rfl (lvY0 hρ) rfl rfl inGX9 10 (by decide) gw_1339 (fun _ h => h) rfl dX9_comes_12 ?_
  refine g_iload_n C dX9_comes_15 rfl 2 rfl ?_
  refine g_aload_n C dX9_comes_16 rfl 1 rfl ?_
  refine g_get (k := 40) (i := 0) (ref := "TradeLineModel") (v := .int (a 0 1)) C rfl (lvY0 hρ) rfl rfl inGX9 1 (by decide) gw_1330 (fun _ h => h) rfl dX9_comes_17 ?_
  obtain ⟨g2, h⟩ := of_guard h
  refine q_iast C hρ (j := 10) (N := 2) (List.mem_of_getElem? (i := 7) rfl) rfl rfl g2 dX9_comes_20 (fun a3 ea3 => ?_)
  replace h := yl_of h ea3
  refine g_iload_n C dX9_comes_21 rfl 4 rfl ?_
  refine g_if_ne (tgt := 42) C dX9_comes_22 (by decide) (fun c22 => ?_) (fun c22 => ?_)
  · replace h := (if_neg c22).symm.trans h
    refine g_lv [1, 2, 3, 4, 0] rfl ?_
    exact lb_X9_comes_42 C hr hz hρ  h
  · replace h := (if_pos c22).symm.trans h
    refine g_aload_n C dX9_comes_25 rfl 1 rfl ?_
    refine g_get (k := 40) (i := 0) (ref := "TradeLineModel") (v := .ref (ρ.2.2.2 (40 + 11) 0)) C rfl (lvY0 hρ) rfl rfl inGX9 11 (by decide) gw_1340 (fun _ h => h) rfl dX9_comes_26 ?_
    refine g_iload C dX9_comes_29 0 rfl ?_
    obtain ⟨g10, h⟩ := of_guard h
    refine q_iald C hρ (j := 11) (N := 16384) (List.mem_of_getElem? (i := 8) rfl) rfl rfl g10 dX9_comes_31 ?_
    refine g_if_ne (tgt := 42) C dX9_comes_32 (by decide) (fun c32 => ?_) (fun c32 => ?_)
    · replace h := (if_neg c32).symm.trans h
      refine g_lv [1, 2, 3, 4, 0] rfl ?_
      exact lb_X9_comes_42 C hr hz hρ  h
    · replace h := (if_pos c32).symm.trans h
      refine g_aload_n C dX9_comes_35 rfl 1 rfl ?_
      refine g_get (k := 40) (i := 0) (ref := "TradeLineModel") (v := .ref (ρ.2.2.2 (40 + 3) 0)) C rfl (lvY0 hρ) rfl rfl inGX9 3 (by decide) gw_1332 (fun _ h => h) rfl dX9_comes_36 ?_
      refine g_iload_n C dX9_comes_39 rfl 2 rfl ?_
      refine g_iconst (v := (1 : Int32)) C dX9_comes_40 (by decide) ?_
      refine q_zast C hρ (j := 3) (N := 2) (List.mem_of_getElem? (i := 0) rfl) rfl rfl g2 dX9_comes_41 (fun a11 ea11 => ?_)
      replace h := yl_of h ea11
      refine g_lv [1, 2, 3, 4, 0] rfl ?_
      exact lb_X9_comes_42 C hr hz hρ  h
theorem k_X9_comes (l : Launch) (M : Nat → Nat → Nat → Int32) (ρ : YR) (hρ : rsh ρ) (w : Nat) (a : AS) (x1 x2 x3 : Int32) (r0 : AS × Int32) (h : f_X9_comes w a x1 x2 x3 = some r0) : ∀ D E sz, Met l yX9_comes gwX9_comes ({ frames := 8, cells := 0, slots := 0, locals := 191 } : Room) (cP D E sz (mx M a, ρ) [] [.ref (ρ.2.2.2 40 0), .int x1, .int x2, .int x3]) (cQ D E sz (mx M a, ρ) [] (pV (fun u => u = ((mx M r0.1, ρ), [])))) (0) (0) (Aof (mx M a, ρ) [] sz) := by
  intro D E sz
  refine g_of (cc := cX9_comes) (maxL := 5) (ret := none) (own := "TradeLineModel") (by decide) rfl rfl (Nat.le_of_ble_eq_true rfl) ?_
  intro p e s m args below meth c C hr hin hz ha hwr
  refine g_lv [0, 1, 2, 3] rfl ?_
  exact lb_X9_comes_0 C hr hz hρ h
noncomputable def b_X9_come_189 (k63 : AS → Int32 → Int32 → Int32 → Option (AS × Int32)) (w : Nat) (a : AS) (x1 x3 x4 : Int32) : Option (AS × Int32) := yl (x4 + (1 : Int32)) (fun t13 => k63 a x1 x3 t13)
set_option maxHeartbeats 4000000 in
set_option maxRecDepth 100000 in
theorem lb_X9_come_189 {p : Program} {l : Launch} {e : Env} {s : State} {m : MethodId} {args : Array Value} {below : List Frame} {meth : Method} {c : Code} {D : va_G} {E : Nat → ClassId} {sz : Nat} {M : Nat → Nat → Nat → Int32} {a0 : AS} {ρ : YR} {w : Nat} {r0 : AS × Int32} (C : cx p s m args meth c D E (Aof (mx M a0, ρ) [] s.heap.size) cX9_come 9 "TradeLineModel") (hr : meth.sig.returnType = (some .int)) (hz : s.heap.size = sz) (hρ : rsh ρ) {a : AS} {x1 x3 x4 : Int32} {k63 : AS → Int32 → Int32 → Int32 → Option (AS × Int32)} (hk63 : ∀ (a1 : AS) (z1 z3 z4 : Int32), k63 a1 z1 z3 z4 = some r0 → G p l e ({ frames := 9, cells := 0, slots := 0, locals := 215 } : Room) s m args below meth c D E (Aof (mx M a0, ρ) [] s.heap.size) 9 (MQ below (cQ D E sz (mx M a0, ρ) [] (pI (fun r u => r = r0.2 ∧ u = ((mx M r0.1, ρ), [])))) args s 0 0 (Aof (mx M a0, ρ) [] s.heap.size)) (mx M a1, ρ) [] 0 0 63 [(0, .ref (ρ.2.2.2 40 0)), (1, .int z1), (3, .int z3), (4, .int z4)] []) (h : b_X9_come_189 k63 w a x1 x3 x4 = some r0) : G p l e ({ frames := 9, cells := 0, slots := 0, locals := 215 } : Room) s m args below meth c D E (Aof (mx M a0, ρ) [] s.heap.size) 9 (MQ below (cQ D E sz (mx M a0, ρ) [] (pI (fun r u => r = r0.2 ∧ u = ((mx M r0.1, ρ), [])))) args s 0 0 (Aof (mx M a0, ρ) [] s.heap.size)) (mx M a, ρ) [] 0 0 189 [(0, .ref (ρ.2.2.2 40 0)), (1, .int x1), (3, .int x3), (4, .int x4)] [] := by
  unfold b_X9_come_189 at h
  obtain ⟨t13, et13⟩ : ∃ y : Int32, x4 + (1 : Int32) = y := ⟨_, rfl⟩
  replace h := yl_of h et13
  refine g_iinc (v := t13) (lv' := [(4, .int t13), (0, .ref (ρ.2.2.2 40 0)), (1, .int x1), (3, .int x3)]) C dX9_come_189 3 rfl (by rw [← et13]; rfl) (by decide) rfl ?_
  refine g_goto (tgt := 63) C dX9_come_192 (by decide) ?_
  refine g_lv [1, 2, 3, 0] rfl ?_
  exact hk63 _ _ _ _ h
noncomputable def b_X9_come_180 (k63 : AS → Int32 → Int32 → Int32 → Option (AS × Int32)) (w : Nat) (a : AS) (x1 x3 x4 x6 x7 : Int32) : Option (AS × Int32) := (f_X9_comes w a x1 x6 x7).bind (fun v15 => b_X9_come_189 k63 w v15.1 x1 x3 x4)
set_option maxHeartbeats 4000000 in
set_option maxRecDepth 100000 in
theorem lb_X9_come_180 {p : Program} {l : Launch} {e : Env} {s : State} {m : MethodId} {args : Array Value} {below : List Frame} {meth : Method} {c : Code} {D : va_G} {E : Nat → ClassId} {sz : Nat} {M : Nat → Nat → Nat → Int32} {a0 : AS} {ρ : YR} {w : Nat} {r0 : AS × Int32} (C : cx p s m args meth c D E (Aof (mx M a0, ρ) [] s.heap.size) cX9_come 9 "TradeLineModel") (hr : meth.sig.returnType = (some .int)) (hz : s.heap.size = sz) (hρ : rsh ρ) {a : AS} {x1 x3 x4 x6 x7 : Int32} {k63 : AS → Int32 → Int32 → Int32 → Option (AS × Int32)} (hk63 : ∀ (a1 : AS) (z1 z3 z4 : Int32), k63 a1 z1 z3 z4 = some r0 → G p l e ({ frames := 9, cells := 0, slots := 0, locals := 215 } : Room) s m args below meth c D E (Aof (mx M a0, ρ) [] s.heap.size) 9 (MQ below (cQ D E sz (mx M a0, ρ) [] (pI (fun r u => r = r0.2 ∧ u = ((mx M r0.1, ρ), [])))) args s 0 0 (Aof (mx M a0, ρ) [] s.heap.size)) (mx M a1, ρ) [] 0 0 63 [(0, .ref (ρ.2.2.2 40 0)), (1, .int z1), (3, .int z3), (4, .int z4)] []) (h : b_X9_come_180 k63 w a x1 x3 x4 x6 x7 = some r0) : G p l e ({ frames := 9, cells := 0, slots := 0, locals := 215 } : Room) s m args below meth c D E (Aof (mx M a0, ρ) [] s.heap.size) 9 (MQ below (cQ D E sz (mx M a0, ρ) [] (pI (fun r u => r = r0.2 ∧ u = ((mx M r0.1, ρ), [])))) args s 0 0 (Aof (mx M a0, ρ) [] s.heap.size)) (mx M a, ρ) [] 0 0 180 [(0, .ref (ρ.2.2.2 40 0)), (1, .int x1), (3, .int x3), (4, .int x4), (6, .int x6), (7, .int x7)] [] := by
  unfold b_X9_come_180 at h
  refine g_aload_n C dX9_come_180 rfl 0 rfl ?_
  refine g_iload_n C dX9_come_181 rfl 1 rfl ?_
  refine g_iload C dX9_come_182 4 rfl ?_
  refine g_iload C dX9_come_184 5 rfl ?_
  obtain ⟨v15, hv15, h⟩ := bind_of h
  refine g_cVv (n := 3) (exc := []) (exr := []) C [_, _, _] _ rfl rfl [] [] rfl rfl rfl rfl (fun _ h => absurd h (by simp)) (fun _ h => absurd h (by simp)) (fun _ h => absurd h (by simp)) (fun sz => k_X9_comes l M ρ hρ w _ _ _ _ _ hv15 D E sz) rfl gw_1511 gw_9 gw_1508 gw_1510 gs_46 ⟨by decide +kernel, by decide +kernel, by decide +kernel⟩ ⟨rfl, rfl⟩ ⟨Nat.le_of_ble_eq_true rfl, Nat.le_of_ble_eq_true rfl⟩ (rcvT (lvY0 hρ) rfl rfl rfl) (Nat.le_of_ble_eq_true rfl) dX9_come_186 ⟨by decide, by decide⟩ (fun u hp hx => ?_)
  obtain rfl := hp
  try dsimp only [List.append_nil]
  refine g_lv [0, 1, 2, 3] rfl ?_
  exact lb_X9_come_189 C hr hz hρ hk63 h
noncomputable def b_X9_come_157 (k63 : AS → Int32 → Int32 → Int32 → Option (AS × Int32)) (w : Nat) (a : AS) (x1 x3 x4 x5 x6 x7 s0 : Int32) : Option (AS × Int32) := (if (x5 - x5 / (2 : Int32) * (2 : Int32)) = (0 : Int32) then (bif ixB x1 2 then (if (a 3 x1.toNatClampNeg) = (0 : Int32) then ((if s0 = (0 : Int32) then (b_X9_come_189 k63 w a x1 x3 x4) else (b_X9_come_180 k63 w a x1 x3 x4 x6 x7))) else (b_X9_come_180 k63 w a x1 x3 x4 x6 x7)) else none) else (b_X9_come_189 k63 w a x1 x3 x4))
set_option maxHeartbeats 4000000 in
set_option maxRecDepth 100000 in
theorem lb_X9_come_157 {p : Program} {l : Launch} {e : Env} {s : State} {m : MethodId} {args : Array Value} {below : List Frame} {meth : Method} {c : Code} {D : va_G} {E : Nat → ClassId} {sz : Nat} {M : Nat → Nat → Nat → Int32} {a0 : AS} {ρ : YR} {w : Nat} {r0 : AS × Int32} (C : cx p s m args meth c D E (Aof (mx M a0, ρ) [] s.heap.size) cX9_come 9 "TradeLineModel") (hr : meth.sig.returnType = (some .int)) (hz : s.heap.size = sz) (hρ : rsh ρ) {a : AS} {x1 x3 x4 x5 x6 x7 s0 : Int32} {k63 : AS → Int32 → Int32 → Int32 → Option (AS × Int32)} (hk63 : ∀ (a1 : AS) (z1 z3 z4 : Int32), k63 a1 z1 z3 z4 = some r0 → G p l e ({ frames := 9, cells := 0, slots := 0, locals := 215 } : Room) s m args below meth c D E (Aof (mx M a0, ρ) [] s.heap.size) 9 (MQ below (cQ D E sz (mx M a0, ρ) [] (pI (fun r u => r = r0.2 ∧ u = ((mx M r0.1, ρ), [])))) args s 0 0 (Aof (mx M a0, ρ) [] s.heap.size)) (mx M a1, ρ) [] 0 0 63 [(0, .ref (ρ.2.2.2 40 0)), (1, .int z1), (3, .int z3), (4, .int z4)] []) (h : b_X9_come_157 k63 w a x1 x3 x4 x5 x6 x7 s0 = some r0) : G p l e ({ frames := 9, cells := 0, slots := 0, locals := 215 } : Room) s m args below meth c D E (Aof (mx M a0, ρ) [] s.heap.size) 9 (MQ below (cQ D E sz (mx M a0, ρ) [] (pI (fun r u => r = r0.2 ∧ u = ((mx M r0.1, ρ), [])))) args s 0 0 (Aof (mx M a0, ρ) [] s.heap.size)) (mx M a, ρ) [] 0 0 157 [(0, .ref (ρ.2.2.2 40 0)), (1, .int x1), (3, .int x3), (4, .int x4), (5, .int x5), (6, .int x6), (7, .int x7)] [.int s0] := by
  unfold b_X9_come_157 at h
  refine g_istore (lv' := [(8, .int s0), (0, .ref (ρ.2.2.2 40 0)), (1, .int x1), (3, .int x3), (4, .int x4), (5, .int x5), (6, .int x6), (7, .int x7)]) C dX9_come_157 (by decide) rfl ?_
  refine g_iload C dX9_come_159 5 rfl ?_
  refine g_iconst (v := (2 : Int32)) C dX9_come_161 (by decide) ?_
  refine g_irem C dX9_come_162 (by decide) ?_
  refine g_if_ne (tgt := 189) C dX9_come_163 (by decide) (fun c163 => ?_) (fun c163 => ?_)
  · replace h := (if_neg c163).symm.trans h
    refine g_lv [1, 2, 3, 4] rfl ?_
    exact lb_X9_come_189 C hr hz hρ hk63 h
  · replace h := (if_pos c163).symm.trans h
    refine g_aload_n C dX9_come_166 rfl 1 rfl ?_
    refine g_get (k := 40) (i := 0) (ref := "TradeLineModel") (v := .ref (ρ.2.2.2 (40 + 3) 0)) C rfl (lvY0 hρ) rfl rfl inGX9 3 (by decide) gw_1332 (fun _ h => h) rfl dX9_come_167 ?_
    refine g_iload_n C dX9_come_170 rfl 2 rfl ?_
    obtain ⟨g14, h⟩ := of_guard h
    refine q_zald C hρ (j := 3) (N := 2) (List.mem_of_getElem? (i := 0) rfl) rfl rfl g14 dX9_come_171 ?_
    refine g_if_ne (tgt := 180) C dX9_come_172 (by decide) (fun c172 => ?_) (fun c172 => ?_)
    · replace h := (if_neg c172).symm.trans h
      refine g_lv [1, 2, 3, 4, 6, 7] rfl ?_
      exact lb_X9_come_180 C hr hz hρ hk63 h
    · replace h := (if_pos c172).symm.trans h
      refine g_iload C dX9_come_175 0 rfl ?_
      refine g_if_eq (tgt := 189) C dX9_come_177 (by decide) (fun c177 => ?_) (fun c177 => ?_)
      · replace h := (if_pos c177).symm.trans h
        refine g_lv [1, 2, 3, 4] rfl ?_
        exact lb_X9_come_189 C hr hz hρ hk63 h
      · replace h := (if_neg c177).symm.trans h
        refine g_lv [1, 2, 3, 4, 6, 7] rfl ?_
        exact lb_X9_come_180 C hr hz hρ hk63 h
noncomputable def b_X9_come_156 (k63 : AS → Int32 → Int32 → Int32 → Option (AS × Int32)) (w : Nat) (a : AS) (x1 x3 x4 x5 x6 x7 : Int32) : Option (AS × Int32) := b_X9_come_157 k63 w a x1 x3 x4 x5 x6 x7 (0 : Int32)
set_option maxHeartbeats 4000000 in
set_option maxRecDepth 100000 in
theorem lb_X9_come_156 {p : Program} {l : Launch} {e : Env} {s : State} {m : MethodId} {args : Array Value} {below : List Frame} {meth : Method} {c : Code} {D : va_G} {E : Nat → ClassId} {sz : Nat} {M : Nat → Nat → Nat → Int32} {a0 : AS} {ρ : YR} {w : Nat} {r0 : AS × Int32} (C : cx p s m args meth c D E (Aof (mx M a0, ρ) [] s.heap.size) cX9_come 9 "TradeLineModel") (hr : meth.sig.returnType = (some .int)) (hz : s.heap.size = sz) (hρ : rsh ρ) {a : AS} {x1 x3 x4 x5 x6 x7 : Int32} {k63 : AS → Int32 → Int32 → Int32 → Option (AS × Int32)} (hk63 : ∀ (a1 : AS) (z1 z3 z4 : Int32), k63 a1 z1 z3 z4 = some r0 → G p l e ({ frames := 9, cells := 0, slots := 0, locals := 215 } : Room) s m args below meth c D E (Aof (mx M a0, ρ) [] s.heap.size) 9 (MQ below (cQ D E sz (mx M a0, ρ) [] (pI (fun r u => r = r0.2 ∧ u = ((mx M r0.1, ρ), [])))) args s 0 0 (Aof (mx M a0, ρ) [] s.heap.size)) (mx M a1, ρ) [] 0 0 63 [(0, .ref (ρ.2.2.2 40 0)), (1, .int z1), (3, .int z3), (4, .int z4)] []) (h : b_X9_come_156 k63 w a x1 x3 x4 x5 x6 x7 = some r0) : G p l e ({ frames := 9, cells := 0, slots := 0, locals := 215 } : Room) s m args below meth c D E (Aof (mx M a0, ρ) [] s.heap.size) 9 (MQ below (cQ D E sz (mx M a0, ρ) [] (pI (fun r u => r = r0.2 ∧ u = ((mx M r0.1, ρ), [])))) args s 0 0 (Aof (mx M a0, ρ) [] s.heap.size)) (mx M a, ρ) [] 0 0 156 [(0, .ref (ρ.2.2.2 40 0)), (1, .int x1), (3, .int x3), (4, .int x4), (5, .int x5), (6, .int x6), (7, .int x7)] [] := by
  unfold b_X9_come_156 at h
  refine g_iconst (v := (0 : Int32)) C dX9_come_156 (by decide) ?_
  refine g_lv [0, 1, 2, 3, 4, 5, 6] rfl ?_
  exact lb_X9_come_157 C hr hz hρ hk63 h
noncomputable def b_X9_come_63 (k63 : AS → Int32 → Int32 → Int32 → Option (AS × Int32)) (w : Nat) (a : AS) (x1 x3 x4 : Int32) : Option (AS × Int32) := (if x3 ≤ x4 then (some (a, x3)) else ((f_X9_placeOf w a x1 (0 : Int32)).bind (fun v5 => bif ixB v5 131072 then yl ((a 21 v5.toNatClampNeg)) (fun t7 => bif ixB x1 2 then yl (up2 a 19 x1.toNatClampNeg (((a 19 x1.toNatClampNeg) + (1 : Int32)) - ((a 19 x1.toNatClampNeg) + (1 : Int32)) / (65536 : Int32) * (65536 : Int32))) (fun a9 => yl (up2 a9 20 x1.toNatClampNeg ((a9 20 x1.toNatClampNeg) - (1 : Int32))) (fun a10 => yl (((t7 / (2 : Int32)) / (8192 : Int32))) (fun t11 => yl (((t7 / (2 : Int32)) - (t7 / (2 : Int32)) / (8192 : Int32) * (8192 : Int32))) (fun t12 => (if t12 = (0 : Int32) then (bif ixB (((8192 : Int32) * ((1 : Int32) - x1)) + t11) 16384 then (if (a10 11 (((8192 : Int32) * ((1 : Int32) - x1)) + t11).toNatClampNeg) = (0 : Int32) then (b_X9_come_157 k63 w a10 x1 x3 x4 t7 t11 t12 (1 : Int32)) else (b_X9_come_156 k63 w a10 x1 x3 x4 t7 t11 t12)) else none) else (b_X9_come_156 k63 w a10 x1 x3 x4 t7 t11 t12)))))) else none) else none)))
set_option maxHeartbeats 4000000 in
set_option maxRecDepth 100000 in
theorem lb_X9_come_63 {p : Program} {l : Launch} {e : Env} {s : State} {m : MethodId} {args : Array Value} {below : List Frame} {meth : Method} {c : Code} {D : va_G} {E : Nat → ClassId} {sz : Nat} {M : Nat → Nat → Nat → Int32} {a0 : AS} {ρ : YR} {w : Nat} {r0 : AS × Int32} (C : cx p s m args meth c D E (Aof (mx M a0, ρ) [] s.heap.size) cX9_come 9 "TradeLineModel") (hr : meth.sig.returnType = (some .int)) (hz : s.heap.size = sz) (hρ : rsh ρ) {a : AS} {x1 x3 x4 : Int32} {k63 : AS → Int32 → Int32 → Int32 → Option (AS × Int32)} (hk63 : ∀ (a1 : AS) (z1 z3 z4 : Int32), k63 a1 z1 z3 z4 = some r0 → G p l e ({ frames := 9, cells := 0, slots := 0, locals := 215 } : Room) s m args below meth c D E (Aof (mx M a0, ρ) [] s.heap.size) 9 (MQ below (cQ D E sz (mx M a0, ρ) [] (pI (fun r u => r = r0.2 ∧ u = ((mx M r0.1, ρ), [])))) args s 0 0 (Aof (mx M a0, ρ) [] s.heap.size)) (mx M a1, ρ) [] 0 0 63 [(0, .ref (ρ.2.2.2 40 0)), (1, .int z1), (3, .int z3), (4, .int z4)] []) (h : b_X9_come_63 k63 w a x1 x3 x4 = some r0) : G p l e ({ frames := 9, cells := 0, slots := 0, locals := 215 } : Room) s m args below meth c D E (Aof (mx M a0, ρ) [] s.heap.size) 9 (MQ below (cQ D E sz (mx M a0, ρ) [] (pI (fun r u => r = r0.2 ∧ u = ((mx M r0.1, ρ), [])))) args s 0 0 (Aof (mx M a0, ρ) [] s.heap.size)) (mx M a, ρ) [] 0 0 63 [(0, .ref (ρ.2.2.2 40 0)), (1, .int x1), (3, .int x3), (4, .int x4)] [] := by
  unfold b_X9_come_63 at h
  refine g_iload C dX9_come_63 3 rfl ?_
  refine g_iload_n C dX9_come_65 rfl 2 rfl ?_
  refine g_icmp_ge (tgt := 195) C dX9_come_66 (by decide) (fun c66 => ?_) (fun c66 => ?_)
  · replace h := (if_pos c66).symm.trans h
    refine g_iload_n C dX9_come_195 rfl 2 rfl ?_
    obtain rfl := Option.some.inj h
    exact g_iret C hr rfl hz ⟨rfl, rfl, fun _ => rfl, fun _ => rfl⟩ ⟨rfl, rfl⟩ (fun j x h => by simp at h) dX9_come_196
  · replace h := (if_neg c66).symm.trans h
    refine g_aload_n C dX9_come_69 rfl 0 rfl ?_
    refine g_get (k := 40) (i := 0) (ref := "TradeLineModel") (v := .ref (ρ.2.2.2 (40 + 21) 0)) C rfl (lvY0 hρ) rfl rfl inGX9 21 (by decide) gw_1350 (fun _ h => h) rfl dX9_come_70 ?_
    refine g_aload_n C dX9_come_73 rfl 0 rfl ?_
    refine g_iload_n C dX9_come_74 rfl 1 rfl ?_
    refine g_iconst (v := (0 : Int32)) C dX9_come_75 (by decide) ?_
    obtain ⟨v5, hv5, h⟩ := bind_of h
    refine g_cVi (n := 2) (exc := []) (exr := []) C [_, _] _ rfl rfl [] [] rfl rfl rfl rfl (fun _ h => absurd h (by simp)) (fun _ h => absurd h (by simp)) (fun _ h => absurd h (by simp)) (fun sz => k_X9_placeOf l M ρ hρ w _ _ _ _ hv5 D E sz) rfl gw_1484 gw_9 gw_1481 gw_1483 gs_43 ⟨by decide +kernel, by decide +kernel, by decide +kernel⟩ ⟨rfl, rfl⟩ ⟨Nat.le_of_ble_eq_true rfl, Nat.le_of_ble_eq_true rfl⟩ (rcvT (lvY0 hρ) rfl rfl rfl) (Nat.le_of_ble_eq_true rfl) dX9_come_76 ⟨by decide, by decide⟩ (fun r u hp hx => ?_)
    obtain ⟨er, rfl⟩ := hp
    rw [er]
    try dsimp only [List.append_nil]
    obtain ⟨g6, h⟩ := of_guard h
    refine q_iald C hρ (j := 21) (N := 131072) (List.mem_of_getElem? (i := 18) rfl) rfl rfl g6 dX9_come_79 ?_
    refine q_topi (fun t7 et7 => ?_)
    replace h := yl_of h et7
    refine g_istore (lv' := [(5, .int t7), (0, .ref (ρ.2.2.2 40 0)), (1, .int x1), (3, .int x3), (4, .int x4)]) C dX9_come_80 (by decide) rfl ?_
    refine g_aload_n C dX9_come_82 rfl 1 rfl ?_
    refine g_get (k := 40) (i := 0) (ref := "TradeLineModel") (v := .ref (ρ.2.2.2 (40 + 19) 0)) C rfl (lvY0 hρ) rfl rfl inGX9 19 (by decide) gw_1348 (fun _ h => h) rfl dX9_come_83 ?_
    refine g_iload_n C dX9_come_86 rfl 2 rfl ?_
    refine g_aload_n C dX9_come_87 rfl 1 rfl ?_
    refine g_get (k := 40) (i := 0) (ref := "TradeLineModel") (v := .ref (ρ.2.2.2 (40 + 19) 0)) C rfl (lvY0 hρ) rfl rfl inGX9 19 (by decide) gw_1348 (fun _ h => h) rfl dX9_come_88 ?_
    refine g_iload_n C dX9_come_91 rfl 2 rfl ?_
    obtain ⟨g8, h⟩ := of_guard h
    refine q_iald C hρ (j := 19) (N := 2) (List.mem_of_getElem? (i := 16) rfl) rfl rfl g8 dX9_come_92 ?_
    refine g_iconst (v := (1 : Int32)) C dX9_come_93 (by decide) ?_
    refine g_iadd C dX9_come_94 ?_
    refine g_ldc (v := (65536 : Int32)) C gw_1485 dX9_come_95 ?_
    refine g_irem C dX9_come_97 (by decide) ?_
    refine q_iast C hρ (j := 19) (N := 2) (List.mem_of_getElem? (i := 16) rfl) rfl rfl g8 dX9_come_98 (fun a9 ea9 => ?_)
    replace h := yl_of h ea9
    refine g_aload_n C dX9_come_99 rfl 1 rfl ?_
    refine g_get (k := 40) (i := 0) (ref := "TradeLineModel") (v := .ref (ρ.2.2.2 (40 + 20) 0)) C rfl (lvY0 hρ) rfl rfl inGX9 20 (by decide) gw_1349 (fun _ h => h) rfl dX9_come_100 ?_
    refine g_iload_n C dX9_come_103 rfl 2 rfl ?_
    refine g_dup2 C dX9_come_104 rfl rfl ?_
    refine q_iald C hρ (j := 20) (N := 2) (List.mem_of_getElem? (i := 17) rfl) rfl rfl g8 dX9_come_105 ?_
    refine g_iconst (v := (1 : Int32)) C dX9_come_106 (by decide) ?_
    refine g_isub C dX9_come_107 ?_
    refine q_iast C hρ (j := 20) (N := 2) (List.mem_of_getElem? (i := 17) rfl) rfl rfl g8 dX9_come_108 (fun a10 ea10 => ?_)
    replace h := yl_of h ea10
    refine g_iload C dX9_come_109 0 rfl ?_
    refine g_iconst (v := (2 : Int32)) C dX9_come_111 (by decide) ?_
    refine g_idiv C dX9_come_112 (by decide) ?_
    refine g_sipush (v := (8192 : Int32)) C dX9_come_113 (by decide) ?_
    refine g_idiv C dX9_come_116 (by decide) ?_
    refine q_topi (fun t11 et11 => ?_)
    replace h := yl_of h et11
    refine g_istore (lv' := [(6, .int t11), (5, .int t7), (0, .ref (ρ.2.2.2 40 0)), (1, .int x1), (3, .int x3), (4, .int x4)]) C dX9_come_117 (by decide) rfl ?_
    refine g_iload C dX9_come_119 1 rfl ?_
    refine g_iconst (v := (2 : Int32)) C dX9_come_121 (by decide) ?_
    refine g_idiv C dX9_come_122 (by decide) ?_
    refine g_sipush (v := (8192 : Int32)) C dX9_come_123 (by decide) ?_
    refine g_irem C dX9_come_126 (by decide) ?_
    refine q_topi (fun t12 et12 => ?_)
    replace h := yl_of h et12
    refine g_istore (lv' := [(7, .int t12), (6, .int t11), (5, .int t7), (0, .ref (ρ.2.2.2 40 0)), (1, .int x1), (3, .int x3), (4, .int x4)]) C dX9_come_127 (by decide) rfl ?_
    refine g_iload C dX9_come_129 0 rfl ?_
    refine g_if_ne (tgt := 156) C dX9_come_131 (by decide) (fun c131 => ?_) (fun c131 => ?_)
    · replace h := (if_neg c131).symm.trans h
      refine g_lv [3, 4, 5, 6, 2, 1, 0] rfl ?_
      exact lb_X9_come_156 C hr hz hρ hk63 h
    · replace h := (if_pos c131).symm.trans h
      refine g_aload_n C dX9_come_134 rfl 3 rfl ?_
      refine g_get (k := 40) (i := 0) (ref := "TradeLineModel") (v := .ref (ρ.2.2.2 (40 + 11) 0)) C rfl (lvY0 hρ) rfl rfl inGX9 11 (by decide) gw_1340 (fun _ h => h) rfl dX9_come_135 ?_
      refine g_sipush (v := (8192 : Int32)) C dX9_come_138 (by decide) ?_
      refine g_iconst (v := (1 : Int32)) C dX9_come_141 (by decide) ?_
      refine g_iload_n C dX9_come_142 rfl 4 rfl ?_
      refine g_isub C dX9_come_143 ?_
      refine g_imul C dX9_come_144 ?_
      refine g_iload C dX9_come_145 1 rfl ?_
      refine g_iadd C dX9_come_147 ?_
      obtain ⟨g16, h⟩ := of_guard h
      refine q_iald C hρ (j := 11) (N := 16384) (List.mem_of_getElem? (i := 8) rfl) rfl rfl g16 dX9_come_148 ?_
      refine g_if_ne (tgt := 156) C dX9_come_149 (by decide) (fun c149 => ?_) (fun c149 => ?_)
      · replace h := (if_neg c149).symm.trans h
        refine g_lv [3, 4, 5, 6, 2, 1, 0] rfl ?_
        exact lb_X9_come_156 C hr hz hρ hk63 h
      · replace h := (if_pos c149).symm.trans h
        refine g_iconst (v := (1 : Int32)) C dX9_come_152 (by decide) ?_
        refine g_goto (tgt := 157) C dX9_come_153 (by decide) ?_
        refine g_lv [3, 4, 5, 6, 2, 1, 0] rfl ?_
        exact lb_X9_come_157 C hr hz hρ hk63 h
noncomputable def l_X9_come_63  (w : Nat) : Nat → AS → Int32 → Int32 → Int32 → Option (AS × Int32)
  | 0 => fun _ _ _ _ => none
  | n + 1 => fun a x1 x3 x4 => b_X9_come_63  (l_X9_come_63  w n) w a x1 x3 x4
theorem ll_X9_come_63 {p : Program} {l : Launch} {e : Env} {s : State} {m : MethodId} {args : Array Value} {below : List Frame} {meth : Method} {c : Code} {D : va_G} {E : Nat → ClassId} {sz : Nat} {M : Nat → Nat → Nat → Int32} {a0 : AS} {ρ : YR} {w : Nat} {r0 : AS × Int32} (C : cx p s m args meth c D E (Aof (mx M a0, ρ) [] s.heap.size) cX9_come 9 "TradeLineModel") (hr : meth.sig.returnType = (some .int)) (hz : s.heap.size = sz) (hρ : rsh ρ)   : ∀ (n : Nat) (a : AS) (x1 x3 x4 : Int32), l_X9_come_63  w n a x1 x3 x4 = some r0 → G p l e ({ frames := 9, cells := 0, slots := 0, locals := 215 } : Room) s m args below meth c D E (Aof (mx M a0, ρ) [] s.heap.size) 9 (MQ below (cQ D E sz (mx M a0, ρ) [] (pI (fun r u => r = r0.2 ∧ u = ((mx M r0.1, ρ), [])))) args s 0 0 (Aof (mx M a0, ρ) [] s.heap.size)) (mx M a, ρ) [] 0 0 63 [(0, .ref (ρ.2.2.2 40 0)), (1, .int x1), (3, .int x3), (4, .int x4)] [] := by
  intro n
  induction n with
  | zero => exact fun a x1 x3 x4 h => absurd (show (none : Option (AS × Int32)) = some r0 from h) (by simp)
  | succ n ih => exact fun a x1 x3 x4 h => lb_X9_come_63 (w := w) C hr hz hρ  ih h
noncomputable def b_X9_come_59  (w : Nat) (a : AS) (x1 s0 : Int32) : Option (AS × Int32) := l_X9_come_63  w w a x1 s0 (0 : Int32)
set_option maxHeartbeats 4000000 in
set_option maxRecDepth 100000 in
theorem lb_X9_come_59 {p : Program} {l : Launch} {e : Env} {s : State} {m : MethodId} {args : Array Value} {below : List Frame} {meth : Method} {c : Code} {D : va_G} {E : Nat → ClassId} {sz : Nat} {M : Nat → Nat → Nat → Int32} {a0 : AS} {ρ : YR} {w : Nat} {r0 : AS × Int32} (C : cx p s m args meth c D E (Aof (mx M a0, ρ) [] s.heap.size) cX9_come 9 "TradeLineModel") (hr : meth.sig.returnType = (some .int)) (hz : s.heap.size = sz) (hρ : rsh ρ) {a : AS} {x1 s0 : Int32}   (h : b_X9_come_59  w a x1 s0 = some r0) : G p l e ({ frames := 9, cells := 0, slots := 0, locals := 215 } : Room) s m args below meth c D E (Aof (mx M a0, ρ) [] s.heap.size) 9 (MQ below (cQ D E sz (mx M a0, ρ) [] (pI (fun r u => r = r0.2 ∧ u = ((mx M r0.1, ρ), [])))) args s 0 0 (Aof (mx M a0, ρ) [] s.heap.size)) (mx M a, ρ) [] 0 0 59 [(0, .ref (ρ.2.2.2 40 0)), (1, .int x1)] [.int s0] := by
  unfold b_X9_come_59 at h
  refine g_istore_n (lv' := [(3, .int s0), (0, .ref (ρ.2.2.2 40 0)), (1, .int x1)]) C dX9_come_59 rfl (by decide) rfl ?_
  refine g_iconst (v := (0 : Int32)) C dX9_come_60 (by decide) ?_
  refine g_istore (lv' := [(4, .int (0 : Int32)), (3, .int s0), (0, .ref (ρ.2.2.2 40 0)), (1, .int x1)]) C dX9_come_61 (by decide) rfl ?_
  refine g_lv [2, 3, 1, 0] rfl ?_
  exact ll_X9_come_63 C hr hz hρ  w _ _ _ _ h
noncomputable def b_X9_come_27  (w : Nat) (a : AS) (x1 x2 s0 : Int32) : Option (AS × Int32) := yl (up2 a 0 0 s0) (fun a3 => (if (a3 0 0) ≤ (0 : Int32) then (bif ixB x1 2 then (if (a3 20 x1.toNatClampNeg) ≤ x2 then (b_X9_come_59  w a3 x1 (a3 20 x1.toNatClampNeg)) else (b_X9_come_59  w a3 x1 x2)) else none) else (some (a3, (0 : Int32)))))
set_option maxHeartbeats 4000000 in
set_option maxRecDepth 100000 in
theorem lb_X9_come_27 {p : Program} {l : Launch} {e : Env} {s : State} {m : MethodId} {args : Array Value} {below : List Frame} {meth : Method} {c : Code} {D : va_G} {E : Nat → ClassId} {sz : Nat} {M : Nat → Nat → Nat → Int32} {a0 : AS} {ρ : YR} {w : Nat} {r0 : AS × Int32} (C : cx p s m args meth c D E (Aof (mx M a0, ρ) [] s.heap.size) cX9_come 9 "TradeLineModel") (hr : meth.sig.returnType = (some .int)) (hz : s.heap.size = sz) (hρ : rsh ρ) {a : AS} {x1 x2 s0 : Int32}   (h : b_X9_come_27  w a x1 x2 s0 = some r0) : G p l e ({ frames := 9, cells := 0, slots := 0, locals := 215 } : Room) s m args below meth c D E (Aof (mx M a0, ρ) [] s.heap.size) 9 (MQ below (cQ D E sz (mx M a0, ρ) [] (pI (fun r u => r = r0.2 ∧ u = ((mx M r0.1, ρ), [])))) args s 0 0 (Aof (mx M a0, ρ) [] s.heap.size)) (mx M a, ρ) [] 0 0 27 [(0, .ref (ρ.2.2.2 40 0)), (1, .int x1), (2, .int x2)] [.int s0, .ref (ρ.2.2.2 40 0)] := by
  unfold b_X9_come_27 at h
  refine q_put C hρ (j := 0) (by decide) gw_1329 rfl rfl (tyX9_ok 0 (by decide)) rfl rfl (by simp [fvs, up1]) dX9_come_27 (fun a3 ea3 => ?_)
  replace h := yl_of h ea3
  refine g_aload_n C dX9_come_30 rfl 0 rfl ?_
  refine g_get (k := 40) (i := 0) (ref := "TradeLineModel") (v := .int (a3 0 0)) C rfl (lvY0 hρ) rfl rfl inGX9 0 (by decide) gw_1329 (fun _ h => h) rfl dX9_come_31 ?_
  refine g_if_le (tgt := 39) C dX9_come_34 (by decide) (fun c34 => ?_) (fun c34 => ?_)
  · replace h := (if_pos c34).symm.trans h
    refine g_iload_n C dX9_come_39 rfl 2 rfl ?_
    refine g_aload_n C dX9_come_40 rfl 0 rfl ?_
    refine g_get (k := 40) (i := 0) (ref := "TradeLineModel") (v := .ref (ρ.2.2.2 (40 + 20) 0)) C rfl (lvY0 hρ) rfl rfl inGX9 20 (by decide) gw_1349 (fun _ h => h) rfl dX9_come_41 ?_
    refine g_iload_n C dX9_come_44 rfl 1 rfl ?_
    obtain ⟨g4, h⟩ := of_guard h
    refine q_iald C hρ (j := 20) (N := 2) (List.mem_of_getElem? (i := 17) rfl) rfl rfl g4 dX9_come_45 ?_
    refine g_icmp_ge (tgt := 53) C dX9_come_46 (by decide) (fun c46 => ?_) (fun c46 => ?_)
    · replace h := (if_pos c46).symm.trans h
      refine g_aload_n C dX9_come_53 rfl 0 rfl ?_
      refine g_get (k := 40) (i := 0) (ref := "TradeLineModel") (v := .ref (ρ.2.2.2 (40 + 20) 0)) C rfl (lvY0 hρ) rfl rfl inGX9 20 (by decide) gw_1349 (fun _ h => h) rfl dX9_come_54 ?_
      refine g_iload_n C dX9_come_57 rfl 1 rfl ?_
      refine q_iald C hρ (j := 20) (N := 2) (List.mem_of_getElem? (i := 17) rfl) rfl rfl g4 dX9_come_58 ?_
      refine g_lv [0, 1] rfl ?_
      exact lb_X9_come_59 C hr hz hρ  h
    · replace h := (if_neg c46).symm.trans h
      refine g_iload_n C dX9_come_49 rfl 2 rfl ?_
      refine g_goto (tgt := 59) C dX9_come_50 (by decide) ?_
      refine g_lv [0, 1] rfl ?_
      exact lb_X9_come_59 C hr hz hρ  h
  · replace h := (if_neg c34).symm.trans h
    refine g_iconst (v := (0 : Int32)) C dX9_come_37 (by decide) ?_
    obtain rfl := Option.some.inj h
    exact g_iret C hr rfl hz ⟨rfl, rfl, fun _ => rfl, fun _ => rfl⟩ ⟨rfl, rfl⟩ (fun j x h => by simp at h) dX9_come_38
noncomputable def f_X9_come  (w : Nat) (a : AS) (x1 x2 : Int32) : Option (AS × Int32) := (f_X9_isSide w a x1).bind (fun v1 => (if v1 = (0 : Int32) then (b_X9_come_27  w a x1 x2 (1 : Int32)) else ((f_X9_in w a x2 (1 : Int32) (100 : Int32)).bind (fun v2 => (if v2 = (0 : Int32) then (b_X9_come_27  w a x1 x2 (2 : Int32)) else (b_X9_come_27  w a x1 x2 (0 : Int32)))))))
set_option maxHeartbeats 4000000 in
set_option maxRecDepth 100000 in
theorem lb_X9_come_0 {p : Program} {l : Launch} {e : Env} {s : State} {m : MethodId} {args : Array Value} {below : List Frame} {meth : Method} {c : Code} {D : va_G} {E : Nat → ClassId} {sz : Nat} {M : Nat → Nat → Nat → Int32} {a0 : AS} {ρ : YR} {w : Nat} {r0 : AS × Int32} (C : cx p s m args meth c D E (Aof (mx M a0, ρ) [] s.heap.size) cX9_come 9 "TradeLineModel") (hr : meth.sig.returnType = (some .int)) (hz : s.heap.size = sz) (hρ : rsh ρ) {a : AS} {x1 x2 : Int32}   (h : f_X9_come  w a x1 x2 = some r0) : G p l e ({ frames := 9, cells := 0, slots := 0, locals := 215 } : Room) s m args below meth c D E (Aof (mx M a0, ρ) [] s.heap.size) 9 (MQ below (cQ D E sz (mx M a0, ρ) [] (pI (fun r u => r = r0.2 ∧ u = ((mx M r0.1, ρ), [])))) args s 0 0 (Aof (mx M a0, ρ) [] s.heap.size)) (mx M a, ρ) [] 0 0 0 [(0, .ref (ρ.2.2.2 40 0)), (1, .int x1), (2, .int x2)] [] := by
  unfold f_X9_come at h
  refine g_aload_n C dX9_come_0 rfl 0 rfl ?_
  refine g_iload_n C dX9_come_1 rfl 1 rfl ?_
  obtain ⟨v1, hv1, h⟩ := bind_of h
  refine g_cSi (n := 1) (exc := []) (exr := []) C [_] _ rfl rfl [] [] rfl rfl rfl rfl (fun _ h => absurd h (by simp)) (fun _ h => absurd h (by simp)) (fun _ h => absurd h (by simp)) (fun sz => k_X9_isSide l M ρ hρ w _ _ _ hv1 D E sz) rfl gw_1504 gw_9 gw_1502 gw_1503 ⟨by decide +kernel, by decide +kernel, by decide +kernel⟩ ⟨rfl, rfl⟩ ⟨Nat.le_of_ble_eq_true rfl, Nat.le_of_ble_eq_true rfl⟩ (Nat.le_of_ble_eq_true rfl) dX9_come_2 ⟨by decide, by decide⟩ (fun r u hp hx => ?_)
  obtain ⟨er, rfl⟩ := hp
  rw [er]
  try dsimp only [List.append_nil]
  refine g_if_ne (tgt := 12) C dX9_come_5 (by decide) (fun c5 => ?_) (fun c5 => ?_)
  · replace h := (if_neg c5).symm.trans h
    refine g_iload_n C dX9_come_12 rfl 2 rfl ?_
    refine g_iconst (v := (1 : Int32)) C dX9_come_13 (by decide) ?_
    refine g_bipush (v := (100 : Int32)) C dX9_come_14 (by decide) ?_
    obtain ⟨v2, hv2, h⟩ := bind_of h
    refine g_cSi (n := 3) (exc := []) (exr := []) C [_, _, _] _ rfl rfl [] [] rfl rfl rfl rfl (fun _ h => absurd h (by simp)) (fun _ h => absurd h (by simp)) (fun _ h => absurd h (by simp)) (fun sz => k_X9_in l M ρ hρ w _ _ _ _ _ hv2 D E sz) rfl gw_1507 gw_9 gw_1505 gw_1506 ⟨by decide +kernel, by decide +kernel, by decide +kernel⟩ ⟨rfl, rfl⟩ ⟨Nat.le_of_ble_eq_true rfl, Nat.le_of_ble_eq_true rfl⟩ (Nat.le_of_ble_eq_true rfl) dX9_come_16 ⟨by decide, by decide⟩ (fun r u hp hx => ?_)
    obtain ⟨er, rfl⟩ := hp
    rw [er]
    try dsimp only [List.append_nil]
    refine g_if_eq (tgt := 26) C dX9_come_19 (by decide) (fun c19 => ?_) (fun c19 => ?_)
    · replace h := (if_pos c19).symm.trans h
      refine g_iconst (v := (2 : Int32)) C dX9_come_26 (by decide) ?_
      refine g_lv [0, 1, 2] rfl ?_
      exact lb_X9_come_27 C hr hz hρ  h
    · replace h := (if_neg c19).symm.trans h
      refine g_iconst (v := (0 : Int32)) C dX9_come_22 (by decide) ?_
      refine g_goto (tgt := 27) C dX9_come_23 (by decide) ?_
      refine g_lv [0, 1, 2] rfl ?_
      exact lb_X9_come_27 C hr hz hρ  h
  · replace h := (if_pos c5).symm.trans h
    refine g_iconst (v := (1 : Int32)) C dX9_come_8 (by decide) ?_
    refine g_goto (tgt := 27) C dX9_come_9 (by decide) ?_
    refine g_lv [0, 1, 2] rfl ?_
    exact lb_X9_come_27 C hr hz hρ  h
theorem k_X9_come (l : Launch) (M : Nat → Nat → Nat → Int32) (ρ : YR) (hρ : rsh ρ) (w : Nat) (a : AS) (x1 x2 : Int32) (r0 : AS × Int32) (h : f_X9_come w a x1 x2 = some r0) : ∀ D E sz, Met l yX9_come gwX9_come ({ frames := 9, cells := 0, slots := 0, locals := 215 } : Room) (cP D E sz (mx M a, ρ) [] [.ref (ρ.2.2.2 40 0), .int x1, .int x2]) (cQ D E sz (mx M a, ρ) [] (pI (fun r u => r = r0.2 ∧ u = ((mx M r0.1, ρ), [])))) (0) (0) (Aof (mx M a, ρ) [] sz) := by
  intro D E sz
  refine g_of (cc := cX9_come) (maxL := 9) (ret := (some .int)) (own := "TradeLineModel") (by decide) rfl rfl (Nat.le_of_ble_eq_true rfl) ?_
  intro p e s m args below meth c C hr hin hz ha hwr
  refine g_lv [0, 1, 2] rfl ?_
  exact lb_X9_come_0 C hr hz hρ h
noncomputable def b_X9_garble_29  (w : Nat) (a : AS) (x1 x2 s0 : Int32) : Option (AS × Int32) := yl (up2 a 0 0 s0) (fun a2 => (if (a2 0 0) ≤ (0 : Int32) then ((f_X9_placeOf w a2 x1 x2).bind (fun v3 => bif ixB v3 131072 then yl (up2 a2 21 v3.toNatClampNeg ((((a2 21 v3.toNatClampNeg) / (2 : Int32)) * (2 : Int32)) + (1 : Int32))) (fun a5 => some (a5, (((a5 21 v3.toNatClampNeg) / (2 : Int32)) / (8192 : Int32)))) else none)) else (some (a2, (0 : Int32)))))
set_option maxHeartbeats 4000000 in
set_option maxRecDepth 100000 in
theorem lb_X9_garble_29 {p : Program} {l : Launch} {e : Env} {s : State} {m : MethodId} {args : Array Value} {below : List Frame} {meth : Method} {c : Code} {D : va_G} {E : Nat → ClassId} {sz : Nat} {M : Nat → Nat → Nat → Int32} {a0 : AS} {ρ : YR} {w : Nat} {r0 : AS × Int32} (C : cx p s m args meth c D E (Aof (mx M a0, ρ) [] s.heap.size) cX9_garble 4 "TradeLineModel") (hr : meth.sig.returnType = (some .int)) (hz : s.heap.size = sz) (hρ : rsh ρ) {a : AS} {x1 x2 s0 : Int32}   (h : b_X9_garble_29  w a x1 x2 s0 = some r0) : G p l e ({ frames := 2, cells := 0, slots := 0, locals := 42 } : Room) s m args below meth c D E (Aof (mx M a0, ρ) [] s.heap.size) 4 (MQ below (cQ D E sz (mx M a0, ρ) [] (pI (fun r u => r = r0.2 ∧ u = ((mx M r0.1, ρ), [])))) args s 0 0 (Aof (mx M a0, ρ) [] s.heap.size)) (mx M a, ρ) [] 0 0 29 [(0, .ref (ρ.2.2.2 40 0)), (1, .int x1), (2, .int x2)] [.int s0, .ref (ρ.2.2.2 40 0)] := by
  unfold b_X9_garble_29 at h
  refine q_put C hρ (j := 0) (by decide) gw_1329 rfl rfl (tyX9_ok 0 (by decide)) rfl rfl (by simp [fvs, up1]) dX9_garble_29 (fun a2 ea2 => ?_)
  replace h := yl_of h ea2
  refine g_aload_n C dX9_garble_32 rfl 0 rfl ?_
  refine g_get (k := 40) (i := 0) (ref := "TradeLineModel") (v := .int (a2 0 0)) C rfl (lvY0 hρ) rfl rfl inGX9 0 (by decide) gw_1329 (fun _ h => h) rfl dX9_garble_33 ?_
  refine g_if_le (tgt := 41) C dX9_garble_36 (by decide) (fun c36 => ?_) (fun c36 => ?_)
  · replace h := (if_pos c36).symm.trans h
    refine g_aload_n C dX9_garble_41 rfl 0 rfl ?_
    refine g_iload_n C dX9_garble_42 rfl 1 rfl ?_
    refine g_iload_n C dX9_garble_43 rfl 2 rfl ?_
    obtain ⟨v3, hv3, h⟩ := bind_of h
    refine g_cVi (n := 2) (exc := []) (exr := []) C [_, _] _ rfl rfl [] [] rfl rfl rfl rfl (fun _ h => absurd h (by simp)) (fun _ h => absurd h (by simp)) (fun _ h => absurd h (by simp)) (fun sz => k_X9_placeOf l M ρ hρ w _ _ _ _ hv3 D E sz) rfl gw_1484 gw_9 gw_1481 gw_1483 gs_43 ⟨by decide +kernel, by decide +kernel, by decide +kernel⟩ ⟨rfl, rfl⟩ ⟨Nat.le_of_ble_eq_true rfl, Nat.le_of_ble_eq_true rfl⟩ (rcvT (lvY0 hρ) rfl rfl rfl) (Nat.le_of_ble_eq_true rfl) dX9_garble_44 ⟨by decide, by decide⟩ (fun r u hp hx => ?_)
    obtain ⟨er, rfl⟩ := hp
    rw [er]
    try dsimp only [List.append_nil]
    refine g_istore_n (lv' := [(3, .int v3), (0, .ref (ρ.2.2.2 40 0)), (1, .int x1), (2, .int x2)]) C dX9_garble_47 rfl (by decide) rfl ?_
    refine g_aload_n C dX9_garble_48 rfl 1 rfl ?_
    refine g_get (k := 40) (i := 0) (ref := "TradeLineModel") (v := .ref (ρ.2.2.2 (40 + 21) 0)) C rfl (lvY0 hρ) rfl rfl inGX9 21 (by decide) gw_1350 (fun _ h => h) rfl dX9_garble_49 ?_
    refine g_iload_n C dX9_garble_52 rfl 0 rfl ?_
    refine g_aload_n C dX9_garble_53 rfl 1 rfl ?_
    refine g_get (k := 40) (i := 0) (ref := "TradeLineModel") (v := .ref (ρ.2.2.2 (40 + 21) 0)) C rfl (lvY0 hρ) rfl rfl inGX9 21 (by decide) gw_1350 (fun _ h => h) rfl dX9_garble_54 ?_
    refine g_iload_n C dX9_garble_57 rfl 0 rfl ?_
    obtain ⟨g4, h⟩ := of_guard h
    refine q_iald C hρ (j := 21) (N := 131072) (List.mem_of_getElem? (i := 18) rfl) rfl rfl g4 dX9_garble_58 ?_
    refine g_iconst (v := (2 : Int32)) C dX9_garble_59 (by decide) ?_
    refine g_idiv C dX9_garble_60 (by decide) ?_
    refine g_iconst (v := (2 : Int32)) C dX9_garble_61 (by decide) ?_
    refine g_imul C dX9_garble_62 ?_
    refine g_iconst (v := (1 : Int32)) C dX9_garble_63 (by decide) ?_
    refine g_iadd C dX9_garble_64 ?_
    refine q_iast C hρ (j := 21) (N := 131072) (List.mem_of_getElem? (i := 18) rfl) rfl rfl g4 dX9_garble_65 (fun a5 ea5 => ?_)
    replace h := yl_of h ea5
    refine g_aload_n C dX9_garble_66 rfl 1 rfl ?_
    refine g_get (k := 40) (i := 0) (ref := "TradeLineModel") (v := .ref (ρ.2.2.2 (40 + 21) 0)) C rfl (lvY0 hρ) rfl rfl inGX9 21 (by decide) gw_1350 (fun _ h => h) rfl dX9_garble_67 ?_
    refine g_iload_n C dX9_garble_70 rfl 0 rfl ?_
    refine q_iald C hρ (j := 21) (N := 131072) (List.mem_of_getElem? (i := 18) rfl) rfl rfl g4 dX9_garble_71 ?_
    refine g_iconst (v := (2 : Int32)) C dX9_garble_72 (by decide) ?_
    refine g_idiv C dX9_garble_73 (by decide) ?_
    refine g_sipush (v := (8192 : Int32)) C dX9_garble_74 (by decide) ?_
    refine g_idiv C dX9_garble_77 (by decide) ?_
    obtain rfl := Option.some.inj h
    exact g_iret C hr rfl hz ⟨rfl, rfl, fun _ => rfl, fun _ => rfl⟩ ⟨rfl, rfl⟩ (fun j x h => by simp at h) dX9_garble_78
  · replace h := (if_neg c36).symm.trans h
    refine g_iconst (v := (0 : Int32)) C dX9_garble_39 (by decide) ?_
    obtain rfl := Option.some.inj h
    exact g_iret C hr rfl hz ⟨rfl, rfl, fun _ => rfl, fun _ => rfl⟩ ⟨rfl, rfl⟩ (fun j x h => by simp at h) dX9_garble_40
noncomputable def b_X9_garble_28  (w : Nat) (a : AS) (x1 x2 : Int32) : Option (AS × Int32) := b_X9_garble_29  w a x1 x2 (1 : Int32)
set_option maxHeartbeats 4000000 in
set_option maxRecDepth 100000 in
theorem lb_X9_garble_28 {p : Program} {l : Launch} {e : Env} {s : State} {m : MethodId} {args : Array Value} {below : List Frame} {meth : Method} {c : Code} {D : va_G} {E : Nat → ClassId} {sz : Nat} {M : Nat → Nat → Nat → Int32} {a0 : AS} {ρ : YR} {w : Nat} {r0 : AS × Int32} (C : cx p s m args meth c D E (Aof (mx M a0, ρ) [] s.heap.size) cX9_garble 4 "TradeLineModel") (hr : meth.sig.returnType = (some .int)) (hz : s.heap.size = sz) (hρ : rsh ρ) {a : AS} {x1 x2 : Int32}   (h : b_X9_garble_28  w a x1 x2 = some r0) : G p l e ({ frames := 2, cells := 0, slots := 0, locals := 42 } : Room) s m args below meth c D E (Aof (mx M a0, ρ) [] s.heap.size) 4 (MQ below (cQ D E sz (mx M a0, ρ) [] (pI (fun r u => r = r0.2 ∧ u = ((mx M r0.1, ρ), [])))) args s 0 0 (Aof (mx M a0, ρ) [] s.heap.size)) (mx M a, ρ) [] 0 0 28 [(0, .ref (ρ.2.2.2 40 0)), (1, .int x1), (2, .int x2)] [.ref (ρ.2.2.2 40 0)] := by
  unfold b_X9_garble_28 at h
  refine g_iconst (v := (1 : Int32)) C dX9_garble_28 (by decide) ?_
  refine g_lv [0, 1, 2] rfl ?_
  exact lb_X9_garble_29 C hr hz hρ  h
noncomputable def f_X9_garble  (w : Nat) (a : AS) (x1 x2 : Int32) : Option (AS × Int32) := (f_X9_isSide w a x1).bind (fun v1 => (if v1 = (0 : Int32) then (b_X9_garble_28  w a x1 x2) else (bif ixB x1 2 then (f_X9_in w a x2 (0 : Int32) ((a 20 x1.toNatClampNeg) - (1 : Int32))).bind (fun v7 => (if v7 = (0 : Int32) then (b_X9_garble_28  w a x1 x2) else (b_X9_garble_29  w a x1 x2 (0 : Int32)))) else none)))
set_option maxHeartbeats 4000000 in
set_option maxRecDepth 100000 in
theorem lb_X9_garble_0 {p : Program} {l : Launch} {e : Env} {s : State} {m : MethodId} {args : Array Value} {below : List Frame} {meth : Method} {c : Code} {D : va_G} {E : Nat → ClassId} {sz : Nat} {M : Nat → Nat → Nat → Int32} {a0 : AS} {ρ : YR} {w : Nat} {r0 : AS × Int32} (C : cx p s m args meth c D E (Aof (mx M a0, ρ) [] s.heap.size) cX9_garble 4 "TradeLineModel") (hr : meth.sig.returnType = (some .int)) (hz : s.heap.size = sz) (hρ : rsh ρ) {a : AS} {x1 x2 : Int32}   (h : f_X9_garble  w a x1 x2 = some r0) : G p l e ({ frames := 2, cells := 0, slots := 0, locals := 42 } : Room) s m args below meth c D E (Aof (mx M a0, ρ) [] s.heap.size) 4 (MQ below (cQ D E sz (mx M a0, ρ) [] (pI (fun r u => r = r0.2 ∧ u = ((mx M r0.1, ρ), [])))) args s 0 0 (Aof (mx M a0, ρ) [] s.heap.size)) (mx M a, ρ) [] 0 0 0 [(0, .ref (ρ.2.2.2 40 0)), (1, .int x1), (2, .int x2)] [] := by
  unfold f_X9_garble at h
  refine g_aload_n C dX9_garble_0 rfl 0 rfl ?_
  refine g_iload_n C dX9_garble_1 rfl 1 rfl ?_
  obtain ⟨v1, hv1, h⟩ := bind_of h
  refine g_cSi (n := 1) (exc := []) (exr := []) C [_] _ rfl rfl [] [] rfl rfl rfl rfl (fun _ h => absurd h (by simp)) (fun _ h => absurd h (by simp)) (fun _ h => absurd h (by simp)) (fun sz => k_X9_isSide l M ρ hρ w _ _ _ hv1 D E sz) rfl gw_1504 gw_9 gw_1502 gw_1503 ⟨by decide +kernel, by decide +kernel, by decide +kernel⟩ ⟨rfl, rfl⟩ ⟨Nat.le_of_ble_eq_true rfl, Nat.le_of_ble_eq_true rfl⟩ (Nat.le_of_ble_eq_true rfl) dX9_garble_2 ⟨by decide, by decide⟩ (fun r u hp hx => ?_)
  obtain ⟨er, rfl⟩ := hp
  rw [er]
  try dsimp only [List.append_nil]
  refine g_if_eq (tgt := 28) C dX9_garble_5 (by decide) (fun c5 => ?_) (fun c5 => ?_)
  · replace h := (if_pos c5).symm.trans h
    refine g_lv [0, 1, 2] rfl ?_
    exact lb_X9_garble_28 C hr hz hρ  h
  · replace h := (if_neg c5).symm.trans h
    refine g_iload_n C dX9_garble_8 rfl 2 rfl ?_
    refine g_iconst (v := (0 : Int32)) C dX9_garble_9 (by decide) ?_
    refine g_aload_n C dX9_garble_10 rfl 0 rfl ?_
    refine g_get (k := 40) (i := 0) (ref := "TradeLineModel") (v := .ref (ρ.2.2.2 (40 + 20) 0)) C rfl (lvY0 hρ) rfl rfl inGX9 20 (by decide) gw_1349 (fun _ h => h) rfl dX9_garble_11 ?_
    refine g_iload_n C dX9_garble_14 rfl 1 rfl ?_
    obtain ⟨g6, h⟩ := of_guard h
    refine q_iald C hρ (j := 20) (N := 2) (List.mem_of_getElem? (i := 17) rfl) rfl rfl g6 dX9_garble_15 ?_
    refine g_iconst (v := (1 : Int32)) C dX9_garble_16 (by decide) ?_
    refine g_isub C dX9_garble_17 ?_
    obtain ⟨v7, hv7, h⟩ := bind_of h
    refine g_cSi (n := 3) (exc := []) (exr := []) C [_, _, _] _ rfl rfl [] [] rfl rfl rfl rfl (fun _ h => absurd h (by simp)) (fun _ h => absurd h (by simp)) (fun _ h => absurd h (by simp)) (fun sz => k_X9_in l M ρ hρ w _ _ _ _ _ hv7 D E sz) rfl gw_1507 gw_9 gw_1505 gw_1506 ⟨by decide +kernel, by decide +kernel, by decide +kernel⟩ ⟨rfl, rfl⟩ ⟨Nat.le_of_ble_eq_true rfl, Nat.le_of_ble_eq_true rfl⟩ (Nat.le_of_ble_eq_true rfl) dX9_garble_18 ⟨by decide, by decide⟩ (fun r u hp hx => ?_)
    obtain ⟨er, rfl⟩ := hp
    rw [er]
    try dsimp only [List.append_nil]
    refine g_if_eq (tgt := 28) C dX9_garble_21 (by decide) (fun c21 => ?_) (fun c21 => ?_)
    · replace h := (if_pos c21).symm.trans h
      refine g_lv [0, 1, 2] rfl ?_
      exact lb_X9_garble_28 C hr hz hρ  h
    · replace h := (if_neg c21).symm.trans h
      refine g_iconst (v := (0 : Int32)) C dX9_garble_24 (by decide) ?_
      refine g_goto (tgt := 29) C dX9_garble_25 (by decide) ?_
      refine g_lv [0, 1, 2] rfl ?_
      exact lb_X9_garble_29 C hr hz hρ  h
theorem k_X9_garble (l : Launch) (M : Nat → Nat → Nat → Int32) (ρ : YR) (hρ : rsh ρ) (w : Nat) (a : AS) (x1 x2 : Int32) (r0 : AS × Int32) (h : f_X9_garble w a x1 x2 = some r0) : ∀ D E sz, Met l yX9_garble gwX9_garble ({ frames := 2, cells := 0, slots := 0, locals := 42 } : Room) (cP D E sz (mx M a, ρ) [] [.ref (ρ.2.2.2 40 0), .int x1, .int x2]) (cQ D E sz (mx M a, ρ) [] (pI (fun r u => r = r0.2 ∧ u = ((mx M r0.1, ρ), [])))) (0) (0) (Aof (mx M a, ρ) [] sz) := by
  intro D E sz
  refine g_of (cc := cX9_garble) (maxL := 4) (ret := (some .int)) (own := "TradeLineModel") (by decide) rfl rfl (Nat.le_of_ble_eq_true rfl) ?_
  intro p e s m args below meth c C hr hin hz ha hwr
  refine g_lv [0, 1, 2] rfl ?_
  exact lb_X9_garble_0 C hr hz hρ h
noncomputable def b_X9_watches_60  (w : Nat) (a : AS) (x1 x2 : Int32) : Option (AS × Int32) := bif ixB x1 2 then (if ((a 0 1) - (a 10 x1.toNatClampNeg)) < (25 : Int32) then (some (a, x2)) else ((f_X9_goesDown w a ).bind (fun v4 => some (v4.1, x2)))) else none
set_option maxHeartbeats 4000000 in
set_option maxRecDepth 100000 in
theorem lb_X9_watches_60 {p : Program} {l : Launch} {e : Env} {s : State} {m : MethodId} {args : Array Value} {below : List Frame} {meth : Method} {c : Code} {D : va_G} {E : Nat → ClassId} {sz : Nat} {M : Nat → Nat → Nat → Int32} {a0 : AS} {ρ : YR} {w : Nat} {r0 : AS × Int32} (C : cx p s m args meth c D E (Aof (mx M a0, ρ) [] s.heap.size) cX9_watches 3 "TradeLineModel") (hr : meth.sig.returnType = (some .int)) (hz : s.heap.size = sz) (hρ : rsh ρ) {a : AS} {x1 x2 : Int32}   (h : b_X9_watches_60  w a x1 x2 = some r0) : G p l e ({ frames := 3, cells := 0, slots := 0, locals := 73 } : Room) s m args below meth c D E (Aof (mx M a0, ρ) [] s.heap.size) 3 (MQ below (cQ D E sz (mx M a0, ρ) [] (pI (fun r u => r = r0.2 ∧ u = ((mx M r0.1, ρ), [])))) args s 0 0 (Aof (mx M a0, ρ) [] s.heap.size)) (mx M a, ρ) [] 0 0 60 [(0, .ref (ρ.2.2.2 40 0)), (1, .int x1), (2, .int x2)] [] := by
  unfold b_X9_watches_60 at h
  refine g_aload_n C dX9_watches_60 rfl 0 rfl ?_
  refine g_get (k := 40) (i := 0) (ref := "TradeLineModel") (v := .int (a 0 1)) C rfl (lvY0 hρ) rfl rfl inGX9 1 (by decide) gw_1330 (fun _ h => h) rfl dX9_watches_61 ?_
  refine g_aload_n C dX9_watches_64 rfl 0 rfl ?_
  refine g_get (k := 40) (i := 0) (ref := "TradeLineModel") (v := .ref (ρ.2.2.2 (40 + 10) 0)) C rfl (lvY0 hρ) rfl rfl inGX9 10 (by decide) gw_1339 (fun _ h => h) rfl dX9_watches_65 ?_
  refine g_iload_n C dX9_watches_68 rfl 1 rfl ?_
  obtain ⟨g3, h⟩ := of_guard h
  refine q_iald C hρ (j := 10) (N := 2) (List.mem_of_getElem? (i := 7) rfl) rfl rfl g3 dX9_watches_69 ?_
  refine g_isub C dX9_watches_70 ?_
  refine g_bipush (v := (25 : Int32)) C dX9_watches_71 (by decide) ?_
  refine g_icmp_lt (tgt := 81) C dX9_watches_73 (by decide) (fun c73 => ?_) (fun c73 => ?_)
  · replace h := (if_pos c73).symm.trans h
    refine g_iload_n C dX9_watches_81 rfl 2 rfl ?_
    obtain rfl := Option.some.inj h
    exact g_iret C hr rfl hz ⟨rfl, rfl, fun _ => rfl, fun _ => rfl⟩ ⟨rfl, rfl⟩ (fun j x h => by simp at h) dX9_watches_82
  · replace h := (if_neg c73).symm.trans h
    refine g_aload_n C dX9_watches_76 rfl 0 rfl ?_
    obtain ⟨v4, hv4, h⟩ := bind_of h
    refine g_cVi (n := 0) (exc := []) (exr := []) C [] _ rfl rfl [] [] rfl rfl rfl rfl (fun _ h => absurd h (by simp)) (fun _ h => absurd h (by simp)) (fun _ h => absurd h (by simp)) (fun sz => k_X9_goesDown l M ρ hρ w _  _ hv4 D E sz) rfl gw_1493 gw_9 gw_1490 gw_1492 gs_44 ⟨by decide +kernel, by decide +kernel, by decide +kernel⟩ ⟨rfl, rfl⟩ ⟨Nat.le_of_ble_eq_true rfl, Nat.le_of_ble_eq_true rfl⟩ (rcvT (lvY0 hρ) rfl rfl rfl) (Nat.le_of_ble_eq_true rfl) dX9_watches_77 ⟨by decide, by decide⟩ (fun r u hp hx => ?_)
    obtain ⟨er, rfl⟩ := hp
    rw [er]
    try dsimp only [List.append_nil]
    refine g_pop C dX9_watches_80 rfl ?_
    refine g_iload_n C dX9_watches_81 rfl 2 rfl ?_
    obtain rfl := Option.some.inj h
    exact g_iret C hr rfl hz ⟨rfl, rfl, fun _ => rfl, fun _ => rfl⟩ ⟨rfl, rfl⟩ (fun j x h => by simp at h) dX9_watches_82
noncomputable def b_X9_watches_31  (w : Nat) (a : AS) (x1 x2 : Int32) : Option (AS × Int32) := bif ixB x1 2 then (if ((a 0 1) - (a 10 x1.toNatClampNeg)) = (15 : Int32) then ((f_X9_sends w a x1 (2 : Int32) (0 : Int32) (0 : Int32) (0 : Int32) (0 : Int32)).bind (fun v5 => yl (x2 + (1 : Int32)) (fun t6 => b_X9_watches_60  w v5.1 x1 t6))) else (b_X9_watches_60  w a x1 x2)) else none
set_option maxHeartbeats 4000000 in
set_option maxRecDepth 100000 in
theorem lb_X9_watches_31 {p : Program} {l : Launch} {e : Env} {s : State} {m : MethodId} {args : Array Value} {below : List Frame} {meth : Method} {c : Code} {D : va_G} {E : Nat → ClassId} {sz : Nat} {M : Nat → Nat → Nat → Int32} {a0 : AS} {ρ : YR} {w : Nat} {r0 : AS × Int32} (C : cx p s m args meth c D E (Aof (mx M a0, ρ) [] s.heap.size) cX9_watches 3 "TradeLineModel") (hr : meth.sig.returnType = (some .int)) (hz : s.heap.size = sz) (hρ : rsh ρ) {a : AS} {x1 x2 : Int32}   (h : b_X9_watches_31  w a x1 x2 = some r0) : G p l e ({ frames := 3, cells := 0, slots := 0, locals := 73 } : Room) s m args below meth c D E (Aof (mx M a0, ρ) [] s.heap.size) 3 (MQ below (cQ D E sz (mx M a0, ρ) [] (pI (fun r u => r = r0.2 ∧ u = ((mx M r0.1, ρ), [])))) args s 0 0 (Aof (mx M a0, ρ) [] s.heap.size)) (mx M a, ρ) [] 0 0 31 [(0, .ref (ρ.2.2.2 40 0)), (1, .int x1), (2, .int x2)] [] := by
  unfold b_X9_watches_31 at h
  refine g_aload_n C dX9_watches_31 rfl 0 rfl ?_
  refine g_get (k := 40) (i := 0) (ref := "TradeLineModel") (v := .int (a 0 1)) C rfl (lvY0 hρ) rfl rfl inGX9 1 (by decide) gw_1330 (fun _ h => h) rfl dX9_watches_32 ?_
  refine g_aload_n C dX9_watches_35 rfl 0 rfl ?_
  refine g_get (k := 40) (i := 0) (ref := "TradeLineModel") (v := .ref (ρ.2.2.2 (40 + 10) 0)) C rfl (lvY0 hρ) rfl rfl inGX9 10 (by decide) gw_1339 (fun _ h => h) rfl dX9_watches_36 ?_
  refine g_iload_n C dX9_watches_39 rfl 1 rfl ?_
  obtain ⟨g2, h⟩ := of_guard h
  refine q_iald C hρ (j := 10) (N := 2) (List.mem_of_getElem? (i := 7) rfl) rfl rfl g2 dX9_watches_40 ?_
  refine g_isub C dX9_watches_41 ?_
  refine g_bipush (v := (15 : Int32)) C dX9_watches_42 (by decide) ?_
  refine g_icmp_ne (tgt := 60) C dX9_watches_44 (by decide) (fun c44 => ?_) (fun c44 => ?_)
  · replace h := (if_neg c44).symm.trans h
    refine g_lv [0, 1, 2] rfl ?_
    exact lb_X9_watches_60 C hr hz hρ  h
  · replace h := (if_pos c44).symm.trans h
    refine g_aload_n C dX9_watches_47 rfl 0 rfl ?_
    refine g_iload_n C dX9_watches_48 rfl 1 rfl ?_
    refine g_iconst (v := (2 : Int32)) C dX9_watches_49 (by decide) ?_
    refine g_iconst (v := (0 : Int32)) C dX9_watches_50 (by decide) ?_
    refine g_iconst (v := (0 : Int32)) C dX9_watches_51 (by decide) ?_
    refine g_iconst (v := (0 : Int32)) C dX9_watches_52 (by decide) ?_
    refine g_iconst (v := (0 : Int32)) C dX9_watches_53 (by decide) ?_
    obtain ⟨v5, hv5, h⟩ := bind_of h
    refine g_cVv (n := 6) (exc := []) (exr := []) C [_, _, _, _, _, _] _ rfl rfl [] [] rfl rfl rfl rfl (fun _ h => absurd h (by simp)) (fun _ h => absurd h (by simp)) (fun _ h => absurd h (by simp)) (fun sz => k_X9_sends l M ρ hρ w _ _ _ _ _ _ _ _ hv5 D E sz) rfl gw_1476 gw_9 gw_1473 gw_1475 gs_41 ⟨by decide +kernel, by decide +kernel, by decide +kernel⟩ ⟨rfl, rfl⟩ ⟨Nat.le_of_ble_eq_true rfl, Nat.le_of_ble_eq_true rfl⟩ (rcvT (lvY0 hρ) rfl rfl rfl) (Nat.le_of_ble_eq_true rfl) dX9_watches_54 ⟨by decide, by decide⟩ (fun u hp hx => ?_)
    obtain rfl := hp
    try dsimp only [List.append_nil]
    obtain ⟨t6, et6⟩ : ∃ y : Int32, x2 + (1 : Int32) = y := ⟨_, rfl⟩
    replace h := yl_of h et6
    refine g_iinc (v := t6) (lv' := [(2, .int t6), (0, .ref (ρ.2.2.2 40 0)), (1, .int x1)]) C dX9_watches_57 2 rfl (by rw [← et6]; rfl) (by decide) rfl ?_
    refine g_lv [1, 2, 0] rfl ?_
    exact lb_X9_watches_60 C hr hz hρ  h
noncomputable def f_X9_watches  (w : Nat) (a : AS) (x1 : Int32) : Option (AS × Int32) := bif ixB x1 2 then (if ((a 0 1) - (a 9 x1.toNatClampNeg)) < (10 : Int32) then (b_X9_watches_31  w a x1 (0 : Int32)) else ((f_X9_sends w a x1 (1 : Int32) (0 : Int32) (0 : Int32) (0 : Int32) (0 : Int32)).bind (fun v7 => yl ((0 : Int32) + (1 : Int32)) (fun t8 => b_X9_watches_31  w v7.1 x1 t8)))) else none
set_option maxHeartbeats 4000000 in
set_option maxRecDepth 100000 in
theorem lb_X9_watches_0 {p : Program} {l : Launch} {e : Env} {s : State} {m : MethodId} {args : Array Value} {below : List Frame} {meth : Method} {c : Code} {D : va_G} {E : Nat → ClassId} {sz : Nat} {M : Nat → Nat → Nat → Int32} {a0 : AS} {ρ : YR} {w : Nat} {r0 : AS × Int32} (C : cx p s m args meth c D E (Aof (mx M a0, ρ) [] s.heap.size) cX9_watches 3 "TradeLineModel") (hr : meth.sig.returnType = (some .int)) (hz : s.heap.size = sz) (hρ : rsh ρ) {a : AS} {x1 : Int32}   (h : f_X9_watches  w a x1 = some r0) : G p l e ({ frames := 3, cells := 0, slots := 0, locals := 73 } : Room) s m args below meth c D E (Aof (mx M a0, ρ) [] s.heap.size) 3 (MQ below (cQ D E sz (mx M a0, ρ) [] (pI (fun r u => r = r0.2 ∧ u = ((mx M r0.1, ρ), [])))) args s 0 0 (Aof (mx M a0, ρ) [] s.heap.size)) (mx M a, ρ) [] 0 0 0 [(0, .ref (ρ.2.2.2 40 0)), (1, .int x1)] [] := by
  unfold f_X9_watches at h
  refine g_iconst (v := (0 : Int32)) C dX9_watches_0 (by decide) ?_
  refine g_istore_n (lv' := [(2, .int (0 : Int32)), (0, .ref (ρ.2.2.2 40 0)), (1, .int x1)]) C dX9_watches_1 rfl (by decide) rfl ?_
  refine g_aload_n C dX9_watches_2 rfl 1 rfl ?_
  refine g_get (k := 40) (i := 0) (ref := "TradeLineModel") (v := .int (a 0 1)) C rfl (lvY0 hρ) rfl rfl inGX9 1 (by decide) gw_1330 (fun _ h => h) rfl dX9_watches_3 ?_
  refine g_aload_n C dX9_watches_6 rfl 1 rfl ?_
  refine g_get (k := 40) (i := 0) (ref := "TradeLineModel") (v := .ref (ρ.2.2.2 (40 + 9) 0)) C rfl (lvY0 hρ) rfl rfl inGX9 9 (by decide) gw_1338 (fun _ h => h) rfl dX9_watches_7 ?_
  refine g_iload_n C dX9_watches_10 rfl 2 rfl ?_
  obtain ⟨g1, h⟩ := of_guard h
  refine q_iald C hρ (j := 9) (N := 2) (List.mem_of_getElem? (i := 6) rfl) rfl rfl g1 dX9_watches_11 ?_
  refine g_isub C dX9_watches_12 ?_
  refine g_bipush (v := (10 : Int32)) C dX9_watches_13 (by decide) ?_
  refine g_icmp_lt (tgt := 31) C dX9_watches_15 (by decide) (fun c15 => ?_) (fun c15 => ?_)
  · replace h := (if_pos c15).symm.trans h
    refine g_lv [1, 2, 0] rfl ?_
    exact lb_X9_watches_31 C hr hz hρ  h
  · replace h := (if_neg c15).symm.trans h
    refine g_aload_n C dX9_watches_18 rfl 1 rfl ?_
    refine g_iload_n C dX9_watches_19 rfl 2 rfl ?_
    refine g_iconst (v := (1 : Int32)) C dX9_watches_20 (by decide) ?_
    refine g_iconst (v := (0 : Int32)) C dX9_watches_21 (by decide) ?_
    refine g_iconst (v := (0 : Int32)) C dX9_watches_22 (by decide) ?_
    refine g_iconst (v := (0 : Int32)) C dX9_watches_23 (by decide) ?_
    refine g_iconst (v := (0 : Int32)) C dX9_watches_24 (by decide) ?_
    obtain ⟨v7, hv7, h⟩ := bind_of h
    refine g_cVv (n := 6) (exc := []) (exr := []) C [_, _, _, _, _, _] _ rfl rfl [] [] rfl rfl rfl rfl (fun _ h => absurd h (by simp)) (fun _ h => absurd h (by simp)) (fun _ h => absurd h (by simp)) (fun sz => k_X9_sends l M ρ hρ w _ _ _ _ _ _ _ _ hv7 D E sz) rfl gw_1476 gw_9 gw_1473 gw_1475 gs_41 ⟨by decide +kernel, by decide +kernel, by decide +kernel⟩ ⟨rfl, rfl⟩ ⟨Nat.le_of_ble_eq_true rfl, Nat.le_of_ble_eq_true rfl⟩ (rcvT (lvY0 hρ) rfl rfl rfl) (Nat.le_of_ble_eq_true rfl) dX9_watches_25 ⟨by decide, by decide⟩ (fun u hp hx => ?_)
    obtain rfl := hp
    try dsimp only [List.append_nil]
    obtain ⟨t8, et8⟩ : ∃ y : Int32, (0 : Int32) + (1 : Int32) = y := ⟨_, rfl⟩
    replace h := yl_of h et8
    refine g_iinc (v := t8) (lv' := [(2, .int t8), (0, .ref (ρ.2.2.2 40 0)), (1, .int x1)]) C dX9_watches_28 0 rfl (by rw [← et8]; rfl) (by decide) rfl ?_
    refine g_lv [1, 2, 0] rfl ?_
    exact lb_X9_watches_31 C hr hz hρ  h
theorem k_X9_watches (l : Launch) (M : Nat → Nat → Nat → Int32) (ρ : YR) (hρ : rsh ρ) (w : Nat) (a : AS) (x1 : Int32) (r0 : AS × Int32) (h : f_X9_watches w a x1 = some r0) : ∀ D E sz, Met l yX9_watches gwX9_watches ({ frames := 3, cells := 0, slots := 0, locals := 73 } : Room) (cP D E sz (mx M a, ρ) [] [.ref (ρ.2.2.2 40 0), .int x1]) (cQ D E sz (mx M a, ρ) [] (pI (fun r u => r = r0.2 ∧ u = ((mx M r0.1, ρ), [])))) (0) (0) (Aof (mx M a, ρ) [] sz) := by
  intro D E sz
  refine g_of (cc := cX9_watches) (maxL := 3) (ret := (some .int)) (own := "TradeLineModel") (by decide) rfl rfl (Nat.le_of_ble_eq_true rfl) ?_
  intro p e s m args below meth c C hr hin hz ha hwr
  refine g_lv [0, 1] rfl ?_
  exact lb_X9_watches_0 C hr hz hρ h
noncomputable def b_X9_pass_85 (k23 : AS → Int32 → Int32 → Int32 → Option (AS × Int32)) (w : Nat) (a : AS) (x1 x3 s0 s1 : Int32) : Option (AS × Int32) := yl ((s1 + s0)) (fun t7 => yl (x3 + (1 : Int32)) (fun t8 => k23 a x1 t7 t8))
set_option maxHeartbeats 4000000 in
set_option maxRecDepth 100000 in
theorem lb_X9_pass_85 {p : Program} {l : Launch} {e : Env} {s : State} {m : MethodId} {args : Array Value} {below : List Frame} {meth : Method} {c : Code} {D : va_G} {E : Nat → ClassId} {sz : Nat} {M : Nat → Nat → Nat → Int32} {a0 : AS} {ρ : YR} {w : Nat} {r0 : AS × Int32} (C : cx p s m args meth c D E (Aof (mx M a0, ρ) [] s.heap.size) cX9_pass 4 "TradeLineModel") (hr : meth.sig.returnType = (some .int)) (hz : s.heap.size = sz) (hρ : rsh ρ) {a : AS} {x1 x3 s0 s1 : Int32} {k23 : AS → Int32 → Int32 → Int32 → Option (AS × Int32)} (hk23 : ∀ (a1 : AS) (z1 z2 z3 : Int32), k23 a1 z1 z2 z3 = some r0 → G p l e ({ frames := 4, cells := 0, slots := 0, locals := 95 } : Room) s m args below meth c D E (Aof (mx M a0, ρ) [] s.heap.size) 4 (MQ below (cQ D E sz (mx M a0, ρ) [] (pI (fun r u => r = r0.2 ∧ u = ((mx M r0.1, ρ), [])))) args s 0 0 (Aof (mx M a0, ρ) [] s.heap.size)) (mx M a1, ρ) [] 0 0 23 [(0, .ref (ρ.2.2.2 40 0)), (1, .int z1), (2, .int z2), (3, .int z3)] []) (h : b_X9_pass_85 k23 w a x1 x3 s0 s1 = some r0) : G p l e ({ frames := 4, cells := 0, slots := 0, locals := 95 } : Room) s m args below meth c D E (Aof (mx M a0, ρ) [] s.heap.size) 4 (MQ below (cQ D E sz (mx M a0, ρ) [] (pI (fun r u => r = r0.2 ∧ u = ((mx M r0.1, ρ), [])))) args s 0 0 (Aof (mx M a0, ρ) [] s.heap.size)) (mx M a, ρ) [] 0 0 85 [(0, .ref (ρ.2.2.2 40 0)), (1, .int x1), (3, .int x3)] [.int s0, .int s1] := by
  unfold b_X9_pass_85 at h
  refine g_iadd C dX9_pass_85 ?_
  refine q_topi (fun t7 et7 => ?_)
  replace h := yl_of h et7
  refine g_istore_n (lv' := [(2, .int t7), (0, .ref (ρ.2.2.2 40 0)), (1, .int x1), (3, .int x3)]) C dX9_pass_86 rfl (by decide) rfl ?_
  obtain ⟨t8, et8⟩ : ∃ y : Int32, x3 + (1 : Int32) = y := ⟨_, rfl⟩
  replace h := yl_of h et8
  refine g_iinc (v := t8) (lv' := [(3, .int t8), (2, .int t7), (0, .ref (ρ.2.2.2 40 0)), (1, .int x1)]) C dX9_pass_87 3 rfl (by rw [← et8]; rfl) (by decide) rfl ?_
  refine g_goto (tgt := 23) C dX9_pass_90 (by decide) ?_
  refine g_lv [2, 3, 1, 0] rfl ?_
  exact hk23 _ _ _ _ h
noncomputable def b_X9_pass_64 (k23 : AS → Int32 → Int32 → Int32 → Option (AS × Int32)) (w : Nat) (a : AS) (x1 x3 s0 s1 : Int32) : Option (AS × Int32) := yl ((s1 + s0)) (fun t5 => bif ixB (1 : Int32) 2 then (if (a 3 (1 : Int32).toNatClampNeg) = (0 : Int32) then (b_X9_pass_85 k23 w a x1 x3 (0 : Int32) t5) else ((f_X9_watches w a (1 : Int32)).bind (fun v9 => b_X9_pass_85 k23 w v9.1 x1 x3 v9.2 t5))) else none)
set_option maxHeartbeats 4000000 in
set_option maxRecDepth 100000 in
theorem lb_X9_pass_64 {p : Program} {l : Launch} {e : Env} {s : State} {m : MethodId} {args : Array Value} {below : List Frame} {meth : Method} {c : Code} {D : va_G} {E : Nat → ClassId} {sz : Nat} {M : Nat → Nat → Nat → Int32} {a0 : AS} {ρ : YR} {w : Nat} {r0 : AS × Int32} (C : cx p s m args meth c D E (Aof (mx M a0, ρ) [] s.heap.size) cX9_pass 4 "TradeLineModel") (hr : meth.sig.returnType = (some .int)) (hz : s.heap.size = sz) (hρ : rsh ρ) {a : AS} {x1 x3 s0 s1 : Int32} {k23 : AS → Int32 → Int32 → Int32 → Option (AS × Int32)} (hk23 : ∀ (a1 : AS) (z1 z2 z3 : Int32), k23 a1 z1 z2 z3 = some r0 → G p l e ({ frames := 4, cells := 0, slots := 0, locals := 95 } : Room) s m args below meth c D E (Aof (mx M a0, ρ) [] s.heap.size) 4 (MQ below (cQ D E sz (mx M a0, ρ) [] (pI (fun r u => r = r0.2 ∧ u = ((mx M r0.1, ρ), [])))) args s 0 0 (Aof (mx M a0, ρ) [] s.heap.size)) (mx M a1, ρ) [] 0 0 23 [(0, .ref (ρ.2.2.2 40 0)), (1, .int z1), (2, .int z2), (3, .int z3)] []) (h : b_X9_pass_64 k23 w a x1 x3 s0 s1 = some r0) : G p l e ({ frames := 4, cells := 0, slots := 0, locals := 95 } : Room) s m args below meth c D E (Aof (mx M a0, ρ) [] s.heap.size) 4 (MQ below (cQ D E sz (mx M a0, ρ) [] (pI (fun r u => r = r0.2 ∧ u = ((mx M r0.1, ρ), [])))) args s 0 0 (Aof (mx M a0, ρ) [] s.heap.size)) (mx M a, ρ) [] 0 0 64 [(0, .ref (ρ.2.2.2 40 0)), (1, .int x1), (3, .int x3)] [.int s0, .int s1] := by
  unfold b_X9_pass_64 at h
  refine g_iadd C dX9_pass_64 ?_
  refine q_topi (fun t5 et5 => ?_)
  replace h := yl_of h et5
  refine g_istore_n (lv' := [(2, .int t5), (0, .ref (ρ.2.2.2 40 0)), (1, .int x1), (3, .int x3)]) C dX9_pass_65 rfl (by decide) rfl ?_
  refine g_iload_n C dX9_pass_66 rfl 0 rfl ?_
  refine g_aload_n C dX9_pass_67 rfl 1 rfl ?_
  refine g_get (k := 40) (i := 0) (ref := "TradeLineModel") (v := .ref (ρ.2.2.2 (40 + 3) 0)) C rfl (lvY0 hρ) rfl rfl inGX9 3 (by decide) gw_1332 (fun _ h => h) rfl dX9_pass_68 ?_
  refine g_iconst (v := (1 : Int32)) C dX9_pass_71 (by decide) ?_
  obtain ⟨g6, h⟩ := of_guard h
  refine q_zald C hρ (j := 3) (N := 2) (List.mem_of_getElem? (i := 0) rfl) rfl rfl g6 dX9_pass_72 ?_
  refine g_if_eq (tgt := 84) C dX9_pass_73 (by decide) (fun c73 => ?_) (fun c73 => ?_)
  · replace h := (if_pos c73).symm.trans h
    refine g_iconst (v := (0 : Int32)) C dX9_pass_84 (by decide) ?_
    refine g_lv [1, 2, 3] rfl ?_
    exact lb_X9_pass_85 C hr hz hρ hk23 h
  · replace h := (if_neg c73).symm.trans h
    refine g_aload_n C dX9_pass_76 rfl 1 rfl ?_
    refine g_iconst (v := (1 : Int32)) C dX9_pass_77 (by decide) ?_
    obtain ⟨v9, hv9, h⟩ := bind_of h
    refine g_cVi (n := 1) (exc := []) (exr := []) C [_] _ rfl rfl [] [] rfl rfl rfl rfl (fun _ h => absurd h (by simp)) (fun _ h => absurd h (by simp)) (fun _ h => absurd h (by simp)) (fun sz => k_X9_watches l M ρ hρ w _ _ _ hv9 D E sz) rfl gw_1587 gw_9 gw_1584 gw_1586 gs_63 ⟨by decide +kernel, by decide +kernel, by decide +kernel⟩ ⟨rfl, rfl⟩ ⟨Nat.le_of_ble_eq_true rfl, Nat.le_of_ble_eq_true rfl⟩ (rcvT (lvY0 hρ) rfl rfl rfl) (Nat.le_of_ble_eq_true rfl) dX9_pass_78 ⟨by decide, by decide⟩ (fun r u hp hx => ?_)
    obtain ⟨er, rfl⟩ := hp
    rw [er]
    try dsimp only [List.append_nil]
    refine g_goto (tgt := 85) C dX9_pass_81 (by decide) ?_
    refine g_lv [1, 2, 3] rfl ?_
    exact lb_X9_pass_85 C hr hz hρ hk23 h
noncomputable def b_X9_pass_23 (k23 : AS → Int32 → Int32 → Int32 → Option (AS × Int32)) (w : Nat) (a : AS) (x1 x2 x3 : Int32) : Option (AS × Int32) := (if x1 ≤ x3 then (some (a, x2)) else ((if (a 0 0) = (0 : Int32) then (yl (up2 a 0 1 ((a 0 1) + (1 : Int32))) (fun a3 => bif ixB (0 : Int32) 2 then (if (a3 3 (0 : Int32).toNatClampNeg) = (0 : Int32) then (b_X9_pass_64 k23 w a3 x1 x3 (0 : Int32) x2) else ((f_X9_watches w a3 (0 : Int32)).bind (fun v10 => b_X9_pass_64 k23 w v10.1 x1 x3 v10.2 x2))) else none)) else (some (a, x2)))))
set_option maxHeartbeats 4000000 in
set_option maxRecDepth 100000 in
theorem lb_X9_pass_23 {p : Program} {l : Launch} {e : Env} {s : State} {m : MethodId} {args : Array Value} {below : List Frame} {meth : Method} {c : Code} {D : va_G} {E : Nat → ClassId} {sz : Nat} {M : Nat → Nat → Nat → Int32} {a0 : AS} {ρ : YR} {w : Nat} {r0 : AS × Int32} (C : cx p s m args meth c D E (Aof (mx M a0, ρ) [] s.heap.size) cX9_pass 4 "TradeLineModel") (hr : meth.sig.returnType = (some .int)) (hz : s.heap.size = sz) (hρ : rsh ρ) {a : AS} {x1 x2 x3 : Int32} {k23 : AS → Int32 → Int32 → Int32 → Option (AS × Int32)} (hk23 : ∀ (a1 : AS) (z1 z2 z3 : Int32), k23 a1 z1 z2 z3 = some r0 → G p l e ({ frames := 4, cells := 0, slots := 0, locals := 95 } : Room) s m args below meth c D E (Aof (mx M a0, ρ) [] s.heap.size) 4 (MQ below (cQ D E sz (mx M a0, ρ) [] (pI (fun r u => r = r0.2 ∧ u = ((mx M r0.1, ρ), [])))) args s 0 0 (Aof (mx M a0, ρ) [] s.heap.size)) (mx M a1, ρ) [] 0 0 23 [(0, .ref (ρ.2.2.2 40 0)), (1, .int z1), (2, .int z2), (3, .int z3)] []) (h : b_X9_pass_23 k23 w a x1 x2 x3 = some r0) : G p l e ({ frames := 4, cells := 0, slots := 0, locals := 95 } : Room) s m args below meth c D E (Aof (mx M a0, ρ) [] s.heap.size) 4 (MQ below (cQ D E sz (mx M a0, ρ) [] (pI (fun r u => r = r0.2 ∧ u = ((mx M r0.1, ρ), [])))) args s 0 0 (Aof (mx M a0, ρ) [] s.heap.size)) (mx M a, ρ) [] 0 0 23 [(0, .ref (ρ.2.2.2 40 0)), (1, .int x1), (2, .int x2), (3, .int x3)] [] := by
  unfold b_X9_pass_23 at h
  refine g_iload_n C dX9_pass_23 rfl 3 rfl ?_
  refine g_iload_n C dX9_pass_24 rfl 1 rfl ?_
  refine g_icmp_ge (tgt := 93) C dX9_pass_25 (by decide) (fun c25 => ?_) (fun c25 => ?_)
  · replace h := (if_pos c25).symm.trans h
    refine g_iload_n C dX9_pass_93 rfl 2 rfl ?_
    obtain rfl := Option.some.inj h
    exact g_iret C hr rfl hz ⟨rfl, rfl, fun _ => rfl, fun _ => rfl⟩ ⟨rfl, rfl⟩ (fun j x h => by simp at h) dX9_pass_94
  · replace h := (if_neg c25).symm.trans h
    refine g_aload_n C dX9_pass_28 rfl 0 rfl ?_
    refine g_get (k := 40) (i := 0) (ref := "TradeLineModel") (v := .int (a 0 0)) C rfl (lvY0 hρ) rfl rfl inGX9 0 (by decide) gw_1329 (fun _ h => h) rfl dX9_pass_29 ?_
    refine g_if_ne (tgt := 93) C dX9_pass_32 (by decide) (fun c32 => ?_) (fun c32 => ?_)
    · replace h := (if_neg c32).symm.trans h
      refine g_iload_n C dX9_pass_93 rfl 2 rfl ?_
      obtain rfl := Option.some.inj h
      exact g_iret C hr rfl hz ⟨rfl, rfl, fun _ => rfl, fun _ => rfl⟩ ⟨rfl, rfl⟩ (fun j x h => by simp at h) dX9_pass_94
    · replace h := (if_pos c32).symm.trans h
      refine g_aload_n C dX9_pass_35 rfl 0 rfl ?_
      refine g_dup C dX9_pass_36 rfl ?_
      refine g_get (k := 40) (i := 0) (ref := "TradeLineModel") (v := .int (a 0 1)) C rfl (lvY0 hρ) rfl rfl inGX9 1 (by decide) gw_1330 (fun _ h => h) rfl dX9_pass_37 ?_
      refine g_iconst (v := (1 : Int32)) C dX9_pass_40 (by decide) ?_
      refine g_iadd C dX9_pass_41 ?_
      refine q_put C hρ (j := 1) (by decide) gw_1330 rfl rfl (tyX9_ok 1 (by decide)) rfl rfl (by simp [fvs, up1]) dX9_pass_42 (fun a3 ea3 => ?_)
      replace h := yl_of h ea3
      refine g_iload_n C dX9_pass_45 rfl 2 rfl ?_
      refine g_aload_n C dX9_pass_46 rfl 0 rfl ?_
      refine g_get (k := 40) (i := 0) (ref := "TradeLineModel") (v := .ref (ρ.2.2.2 (40 + 3) 0)) C rfl (lvY0 hρ) rfl rfl inGX9 3 (by decide) gw_1332 (fun _ h => h) rfl dX9_pass_47 ?_
      refine g_iconst (v := (0 : Int32)) C dX9_pass_50 (by decide) ?_
      obtain ⟨g4, h⟩ := of_guard h
      refine q_zald C hρ (j := 3) (N := 2) (List.mem_of_getElem? (i := 0) rfl) rfl rfl g4 dX9_pass_51 ?_
      refine g_if_eq (tgt := 63) C dX9_pass_52 (by decide) (fun c52 => ?_) (fun c52 => ?_)
      · replace h := (if_pos c52).symm.trans h
        refine g_iconst (v := (0 : Int32)) C dX9_pass_63 (by decide) ?_
        refine g_lv [0, 1, 3] rfl ?_
        exact lb_X9_pass_64 C hr hz hρ hk23 h
      · replace h := (if_neg c52).symm.trans h
        refine g_aload_n C dX9_pass_55 rfl 0 rfl ?_
        refine g_iconst (v := (0 : Int32)) C dX9_pass_56 (by decide) ?_
        obtain ⟨v10, hv10, h⟩ := bind_of h
        refine g_cVi (n := 1) (exc := []) (exr := []) C [_] _ rfl rfl [] [] rfl rfl rfl rfl (fun _ h => absurd h (by simp)) (fun _ h => absurd h (by simp)) (fun _ h => absurd h (by simp)) (fun sz => k_X9_watches l M ρ hρ w _ _ _ hv10 D E sz) rfl gw_1587 gw_9 gw_1584 gw_1586 gs_63 ⟨by decide +kernel, by decide +kernel, by decide +kernel⟩ ⟨rfl, rfl⟩ ⟨Nat.le_of_ble_eq_true rfl, Nat.le_of_ble_eq_true rfl⟩ (rcvT (lvY0 hρ) rfl rfl rfl) (Nat.le_of_ble_eq_true rfl) dX9_pass_57 ⟨by decide, by decide⟩ (fun r u hp hx => ?_)
        obtain ⟨er, rfl⟩ := hp
        rw [er]
        try dsimp only [List.append_nil]
        refine g_goto (tgt := 64) C dX9_pass_60 (by decide) ?_
        refine g_lv [0, 1, 3] rfl ?_
        exact lb_X9_pass_64 C hr hz hρ hk23 h
noncomputable def l_X9_pass_23  (w : Nat) : Nat → AS → Int32 → Int32 → Int32 → Option (AS × Int32)
  | 0 => fun _ _ _ _ => none
  | n + 1 => fun a x1 x2 x3 => b_X9_pass_23  (l_X9_pass_23  w n) w a x1 x2 x3
theorem ll_X9_pass_23 {p : Program} {l : Launch} {e : Env} {s : State} {m : MethodId} {args : Array Value} {below : List Frame} {meth : Method} {c : Code} {D : va_G} {E : Nat → ClassId} {sz : Nat} {M : Nat → Nat → Nat → Int32} {a0 : AS} {ρ : YR} {w : Nat} {r0 : AS × Int32} (C : cx p s m args meth c D E (Aof (mx M a0, ρ) [] s.heap.size) cX9_pass 4 "TradeLineModel") (hr : meth.sig.returnType = (some .int)) (hz : s.heap.size = sz) (hρ : rsh ρ)   : ∀ (n : Nat) (a : AS) (x1 x2 x3 : Int32), l_X9_pass_23  w n a x1 x2 x3 = some r0 → G p l e ({ frames := 4, cells := 0, slots := 0, locals := 95 } : Room) s m args below meth c D E (Aof (mx M a0, ρ) [] s.heap.size) 4 (MQ below (cQ D E sz (mx M a0, ρ) [] (pI (fun r u => r = r0.2 ∧ u = ((mx M r0.1, ρ), [])))) args s 0 0 (Aof (mx M a0, ρ) [] s.heap.size)) (mx M a, ρ) [] 0 0 23 [(0, .ref (ρ.2.2.2 40 0)), (1, .int x1), (2, .int x2), (3, .int x3)] [] := by
  intro n
  induction n with
  | zero => exact fun a x1 x2 x3 h => absurd (show (none : Option (AS × Int32)) = some r0 from h) (by simp)
  | succ n ih => exact fun a x1 x2 x3 h => lb_X9_pass_23 (w := w) C hr hz hρ  ih h
noncomputable def b_X9_pass_16  (w : Nat) (a : AS) (x1 s0 : Int32) : Option (AS × Int32) := yl (up2 a 0 0 s0) (fun a2 => l_X9_pass_23  w w a2 x1 (0 : Int32) (0 : Int32))
set_option maxHeartbeats 4000000 in
set_option maxRecDepth 100000 in
theorem lb_X9_pass_16 {p : Program} {l : Launch} {e : Env} {s : State} {m : MethodId} {args : Array Value} {below : List Frame} {meth : Method} {c : Code} {D : va_G} {E : Nat → ClassId} {sz : Nat} {M : Nat → Nat → Nat → Int32} {a0 : AS} {ρ : YR} {w : Nat} {r0 : AS × Int32} (C : cx p s m args meth c D E (Aof (mx M a0, ρ) [] s.heap.size) cX9_pass 4 "TradeLineModel") (hr : meth.sig.returnType = (some .int)) (hz : s.heap.size = sz) (hρ : rsh ρ) {a : AS} {x1 s0 : Int32}   (h : b_X9_pass_16  w a x1 s0 = some r0) : G p l e ({ frames := 4, cells := 0, slots := 0, locals := 95 } : Room) s m args below meth c D E (Aof (mx M a0, ρ) [] s.heap.size) 4 (MQ below (cQ D E sz (mx M a0, ρ) [] (pI (fun r u => r = r0.2 ∧ u = ((mx M r0.1, ρ), [])))) args s 0 0 (Aof (mx M a0, ρ) [] s.heap.size)) (mx M a, ρ) [] 0 0 16 [(0, .ref (ρ.2.2.2 40 0)), (1, .int x1)] [.int s0, .ref (ρ.2.2.2 40 0)] := by
  unfold b_X9_pass_16 at h
  refine q_put C hρ (j := 0) (by decide) gw_1329 rfl rfl (tyX9_ok 0 (by decide)) rfl rfl (by simp [fvs, up1]) dX9_pass_16 (fun a2 ea2 => ?_)
  replace h := yl_of h ea2
  refine g_iconst (v := (0 : Int32)) C dX9_pass_19 (by decide) ?_
  refine g_istore_n (lv' := [(2, .int (0 : Int32)), (0, .ref (ρ.2.2.2 40 0)), (1, .int x1)]) C dX9_pass_20 rfl (by decide) rfl ?_
  refine g_iconst (v := (0 : Int32)) C dX9_pass_21 (by decide) ?_
  refine g_istore_n (lv' := [(3, .int (0 : Int32)), (2, .int (0 : Int32)), (0, .ref (ρ.2.2.2 40 0)), (1, .int x1)]) C dX9_pass_22 rfl (by decide) rfl ?_
  refine g_lv [2, 3, 1, 0] rfl ?_
  exact ll_X9_pass_23 C hr hz hρ  w _ _ _ _ h
noncomputable def f_X9_pass  (w : Nat) (a : AS) (x1 : Int32) : Option (AS × Int32) := (f_X9_in w a x1 (1 : Int32) (50 : Int32)).bind (fun v1 => (if v1 = (0 : Int32) then (b_X9_pass_16  w a x1 (1 : Int32)) else (b_X9_pass_16  w a x1 (0 : Int32))))
set_option maxHeartbeats 4000000 in
set_option maxRecDepth 100000 in
theorem lb_X9_pass_0 {p : Program} {l : Launch} {e : Env} {s : State} {m : MethodId} {args : Array Value} {below : List Frame} {meth : Method} {c : Code} {D : va_G} {E : Nat → ClassId} {sz : Nat} {M : Nat → Nat → Nat → Int32} {a0 : AS} {ρ : YR} {w : Nat} {r0 : AS × Int32} (C : cx p s m args meth c D E (Aof (mx M a0, ρ) [] s.heap.size) cX9_pass 4 "TradeLineModel") (hr : meth.sig.returnType = (some .int)) (hz : s.heap.size = sz) (hρ : rsh ρ) {a : AS} {x1 : Int32}   (h : f_X9_pass  w a x1 = some r0) : G p l e ({ frames := 4, cells := 0, slots := 0, locals := 95 } : Room) s m args below meth c D E (Aof (mx M a0, ρ) [] s.heap.size) 4 (MQ below (cQ D E sz (mx M a0, ρ) [] (pI (fun r u => r = r0.2 ∧ u = ((mx M r0.1, ρ), [])))) args s 0 0 (Aof (mx M a0, ρ) [] s.heap.size)) (mx M a, ρ) [] 0 0 0 [(0, .ref (ρ.2.2.2 40 0)), (1, .int x1)] [] := by
  unfold f_X9_pass at h
  refine g_aload_n C dX9_pass_0 rfl 0 rfl ?_
  refine g_iload_n C dX9_pass_1 rfl 1 rfl ?_
  refine g_iconst (v := (1 : Int32)) C dX9_pass_2 (by decide) ?_
  refine g_bipush (v := (50 : Int32)) C dX9_pass_3 (by decide) ?_
  obtain ⟨v1, hv1, h⟩ := bind_of h
  refine g_cSi (n := 3) (exc := []) (exr := []) C [_, _, _] _ rfl rfl [] [] rfl rfl rfl rfl (fun _ h => absurd h (by simp)) (fun _ h => absurd h (by simp)) (fun _ h => absurd h (by simp)) (fun sz => k_X9_in l M ρ hρ w _ _ _ _ _ hv1 D E sz) rfl gw_1507 gw_9 gw_1505 gw_1506 ⟨by decide +kernel, by decide +kernel, by decide +kernel⟩ ⟨rfl, rfl⟩ ⟨Nat.le_of_ble_eq_true rfl, Nat.le_of_ble_eq_true rfl⟩ (Nat.le_of_ble_eq_true rfl) dX9_pass_5 ⟨by decide, by decide⟩ (fun r u hp hx => ?_)
  obtain ⟨er, rfl⟩ := hp
  rw [er]
  try dsimp only [List.append_nil]
  refine g_if_eq (tgt := 15) C dX9_pass_8 (by decide) (fun c8 => ?_) (fun c8 => ?_)
  · replace h := (if_pos c8).symm.trans h
    refine g_iconst (v := (1 : Int32)) C dX9_pass_15 (by decide) ?_
    refine g_lv [0, 1] rfl ?_
    exact lb_X9_pass_16 C hr hz hρ  h
  · replace h := (if_neg c8).symm.trans h
    refine g_iconst (v := (0 : Int32)) C dX9_pass_11 (by decide) ?_
    refine g_goto (tgt := 16) C dX9_pass_12 (by decide) ?_
    refine g_lv [0, 1] rfl ?_
    exact lb_X9_pass_16 C hr hz hρ  h
theorem k_X9_pass (l : Launch) (M : Nat → Nat → Nat → Int32) (ρ : YR) (hρ : rsh ρ) (w : Nat) (a : AS) (x1 : Int32) (r0 : AS × Int32) (h : f_X9_pass w a x1 = some r0) : ∀ D E sz, Met l yX9_pass gwX9_pass ({ frames := 4, cells := 0, slots := 0, locals := 95 } : Room) (cP D E sz (mx M a, ρ) [] [.ref (ρ.2.2.2 40 0), .int x1]) (cQ D E sz (mx M a, ρ) [] (pI (fun r u => r = r0.2 ∧ u = ((mx M r0.1, ρ), [])))) (0) (0) (Aof (mx M a, ρ) [] sz) := by
  intro D E sz
  refine g_of (cc := cX9_pass) (maxL := 4) (ret := (some .int)) (own := "TradeLineModel") (by decide) rfl rfl (Nat.le_of_ble_eq_true rfl) ?_
  intro p e s m args below meth c C hr hin hz ha hwr
  refine g_lv [0, 1] rfl ?_
  exact lb_X9_pass_0 C hr hz hρ h
noncomputable def f_X9_isUp  (w : Nat) (a : AS) : Option (AS × Int32) := yl (up2 a 0 0 (0 : Int32)) (fun a1 => bif boB (a1 0 2) then some (a1, (a1 0 2)) else none)
set_option maxHeartbeats 4000000 in
set_option maxRecDepth 100000 in
theorem lb_X9_isUp_0 {p : Program} {l : Launch} {e : Env} {s : State} {m : MethodId} {args : Array Value} {below : List Frame} {meth : Method} {c : Code} {D : va_G} {E : Nat → ClassId} {sz : Nat} {M : Nat → Nat → Nat → Int32} {a0 : AS} {ρ : YR} {w : Nat} {r0 : AS × Int32} (C : cx p s m args meth c D E (Aof (mx M a0, ρ) [] s.heap.size) cX9_isUp 1 "TradeLineModel") (hr : meth.sig.returnType = (some .boolean)) (hz : s.heap.size = sz) (hρ : rsh ρ) {a : AS}   (h : f_X9_isUp  w a  = some r0) : G p l e ({ frames := 0, cells := 0, slots := 0, locals := 0 } : Room) s m args below meth c D E (Aof (mx M a0, ρ) [] s.heap.size) 1 (MQ below (cQ D E sz (mx M a0, ρ) [] (pI (fun r u => r = r0.2 ∧ u = ((mx M r0.1, ρ), [])))) args s 0 0 (Aof (mx M a0, ρ) [] s.heap.size)) (mx M a, ρ) [] 0 0 0 [(0, .ref (ρ.2.2.2 40 0))] [] := by
  unfold f_X9_isUp at h
  refine g_aload_n C dX9_isUp_0 rfl 0 rfl ?_
  refine g_iconst (v := (0 : Int32)) C dX9_isUp_1 (by decide) ?_
  refine q_put C hρ (j := 0) (by decide) gw_1329 rfl rfl (tyX9_ok 0 (by decide)) rfl rfl (by simp [fvs, up1]) dX9_isUp_2 (fun a1 ea1 => ?_)
  replace h := yl_of h ea1
  refine g_aload_n C dX9_isUp_5 rfl 0 rfl ?_
  refine g_get (k := 40) (i := 0) (ref := "TradeLineModel") (v := .int (a1 0 2)) C rfl (lvY0 hρ) rfl rfl inGX9 2 (by decide) gw_1331 (fun _ h => h) rfl dX9_isUp_6 ?_
  obtain ⟨g2, h⟩ := of_guard h
  obtain rfl := Option.some.inj h
  exact g_iret C hr (boB_n g2) hz ⟨rfl, rfl, fun _ => rfl, fun _ => rfl⟩ ⟨rfl, rfl⟩ (fun j x h => by simp at h) dX9_isUp_9
theorem k_X9_isUp (l : Launch) (M : Nat → Nat → Nat → Int32) (ρ : YR) (hρ : rsh ρ) (w : Nat) (a : AS) (r0 : AS × Int32) (h : f_X9_isUp w a  = some r0) : ∀ D E sz, Met l yX9_isUp gwX9_isUp ({ frames := 0, cells := 0, slots := 0, locals := 0 } : Room) (cP D E sz (mx M a, ρ) [] [.ref (ρ.2.2.2 40 0)]) (cQ D E sz (mx M a, ρ) [] (pI (fun r u => r = r0.2 ∧ u = ((mx M r0.1, ρ), [])))) (0) (0) (Aof (mx M a, ρ) [] sz) := by
  intro D E sz
  refine g_of (cc := cX9_isUp) (maxL := 1) (ret := (some .boolean)) (own := "TradeLineModel") (by decide) rfl rfl (Nat.le_of_ble_eq_true rfl) ?_
  intro p e s m args below meth c C hr hin hz ha hwr
  refine g_lv [0] rfl ?_
  exact lb_X9_isUp_0 C hr hz hρ h
noncomputable def b_X9_asks_13  (w : Nat) (a : AS) (s0 : Int32) : Option (AS × Int32) := yl (up2 a 0 0 s0) (fun a2 => (if (a2 0 0) = (0 : Int32) then (some (a2, (1 : Int32))) else (some (a2, (0 : Int32)))))
set_option maxHeartbeats 4000000 in
set_option maxRecDepth 100000 in
theorem lb_X9_asks_13 {p : Program} {l : Launch} {e : Env} {s : State} {m : MethodId} {args : Array Value} {below : List Frame} {meth : Method} {c : Code} {D : va_G} {E : Nat → ClassId} {sz : Nat} {M : Nat → Nat → Nat → Int32} {a0 : AS} {ρ : YR} {w : Nat} {r0 : AS × Int32} (C : cx p s m args meth c D E (Aof (mx M a0, ρ) [] s.heap.size) cX9_asks 2 "TradeLineModel") (hr : meth.sig.returnType = (some .boolean)) (hz : s.heap.size = sz) (hρ : rsh ρ) {a : AS} {s0 : Int32}   (h : b_X9_asks_13  w a s0 = some r0) : G p l e ({ frames := 2, cells := 0, slots := 0, locals := 42 } : Room) s m args below meth c D E (Aof (mx M a0, ρ) [] s.heap.size) 2 (MQ below (cQ D E sz (mx M a0, ρ) [] (pI (fun r u => r = r0.2 ∧ u = ((mx M r0.1, ρ), [])))) args s 0 0 (Aof (mx M a0, ρ) [] s.heap.size)) (mx M a, ρ) [] 0 0 13 [(0, .ref (ρ.2.2.2 40 0))] [.int s0, .ref (ρ.2.2.2 40 0)] := by
  unfold b_X9_asks_13 at h
  refine q_put C hρ (j := 0) (by decide) gw_1329 rfl rfl (tyX9_ok 0 (by decide)) rfl rfl (by simp [fvs, up1]) dX9_asks_13 (fun a2 ea2 => ?_)
  replace h := yl_of h ea2
  refine g_aload_n C dX9_asks_16 rfl 0 rfl ?_
  refine g_get (k := 40) (i := 0) (ref := "TradeLineModel") (v := .int (a2 0 0)) C rfl (lvY0 hρ) rfl rfl inGX9 0 (by decide) gw_1329 (fun _ h => h) rfl dX9_asks_17 ?_
  refine g_if_ne (tgt := 27) C dX9_asks_20 (by decide) (fun c20 => ?_) (fun c20 => ?_)
  · replace h := (if_neg c20).symm.trans h
    refine g_iconst (v := (0 : Int32)) C dX9_asks_27 (by decide) ?_
    obtain rfl := Option.some.inj h
    exact g_iret C hr rfl hz ⟨rfl, rfl, fun _ => rfl, fun _ => rfl⟩ ⟨rfl, rfl⟩ (fun j x h => by simp at h) dX9_asks_28
  · replace h := (if_pos c20).symm.trans h
    refine g_iconst (v := (1 : Int32)) C dX9_asks_23 (by decide) ?_
    refine g_goto (tgt := 28) C dX9_asks_24 (by decide) ?_
    obtain rfl := Option.some.inj h
    exact g_iret C hr rfl hz ⟨rfl, rfl, fun _ => rfl, fun _ => rfl⟩ ⟨rfl, rfl⟩ (fun j x h => by simp at h) dX9_asks_28
noncomputable def f_X9_asks  (w : Nat) (a : AS) (x1 : Int32) : Option (AS × Int32) := (f_X9_isSide w a x1).bind (fun v1 => (if v1 = (0 : Int32) then (b_X9_asks_13  w a (1 : Int32)) else (b_X9_asks_13  w a (0 : Int32))))
set_option maxHeartbeats 4000000 in
set_option maxRecDepth 100000 in
theorem lb_X9_asks_0 {p : Program} {l : Launch} {e : Env} {s : State} {m : MethodId} {args : Array Value} {below : List Frame} {meth : Method} {c : Code} {D : va_G} {E : Nat → ClassId} {sz : Nat} {M : Nat → Nat → Nat → Int32} {a0 : AS} {ρ : YR} {w : Nat} {r0 : AS × Int32} (C : cx p s m args meth c D E (Aof (mx M a0, ρ) [] s.heap.size) cX9_asks 2 "TradeLineModel") (hr : meth.sig.returnType = (some .boolean)) (hz : s.heap.size = sz) (hρ : rsh ρ) {a : AS} {x1 : Int32}   (h : f_X9_asks  w a x1 = some r0) : G p l e ({ frames := 2, cells := 0, slots := 0, locals := 42 } : Room) s m args below meth c D E (Aof (mx M a0, ρ) [] s.heap.size) 2 (MQ below (cQ D E sz (mx M a0, ρ) [] (pI (fun r u => r = r0.2 ∧ u = ((mx M r0.1, ρ), [])))) args s 0 0 (Aof (mx M a0, ρ) [] s.heap.size)) (mx M a, ρ) [] 0 0 0 [(0, .ref (ρ.2.2.2 40 0)), (1, .int x1)] [] := by
  unfold f_X9_asks at h
  refine g_aload_n C dX9_asks_0 rfl 0 rfl ?_
  refine g_iload_n C dX9_asks_1 rfl 1 rfl ?_
  obtain ⟨v1, hv1, h⟩ := bind_of h
  refine g_cSi (n := 1) (exc := []) (exr := []) C [_] _ rfl rfl [] [] rfl rfl rfl rfl (fun _ h => absurd h (by simp)) (fun _ h => absurd h (by simp)) (fun _ h => absurd h (by simp)) (fun sz => k_X9_isSide l M ρ hρ w _ _ _ hv1 D E sz) rfl gw_1504 gw_9 gw_1502 gw_1503 ⟨by decide +kernel, by decide +kernel, by decide +kernel⟩ ⟨rfl, rfl⟩ ⟨Nat.le_of_ble_eq_true rfl, Nat.le_of_ble_eq_true rfl⟩ (Nat.le_of_ble_eq_true rfl) dX9_asks_2 ⟨by decide, by decide⟩ (fun r u hp hx => ?_)
  obtain ⟨er, rfl⟩ := hp
  rw [er]
  try dsimp only [List.append_nil]
  refine g_if_eq (tgt := 12) C dX9_asks_5 (by decide) (fun c5 => ?_) (fun c5 => ?_)
  · replace h := (if_pos c5).symm.trans h
    refine g_iconst (v := (1 : Int32)) C dX9_asks_12 (by decide) ?_
    refine g_lv [0] rfl ?_
    exact lb_X9_asks_13 C hr hz hρ  h
  · replace h := (if_neg c5).symm.trans h
    refine g_iconst (v := (0 : Int32)) C dX9_asks_8 (by decide) ?_
    refine g_goto (tgt := 13) C dX9_asks_9 (by decide) ?_
    refine g_lv [0] rfl ?_
    exact lb_X9_asks_13 C hr hz hρ  h
theorem k_X9_asks (l : Launch) (M : Nat → Nat → Nat → Int32) (ρ : YR) (hρ : rsh ρ) (w : Nat) (a : AS) (x1 : Int32) (r0 : AS × Int32) (h : f_X9_asks w a x1 = some r0) : ∀ D E sz, Met l yX9_asks gwX9_asks ({ frames := 2, cells := 0, slots := 0, locals := 42 } : Room) (cP D E sz (mx M a, ρ) [] [.ref (ρ.2.2.2 40 0), .int x1]) (cQ D E sz (mx M a, ρ) [] (pI (fun r u => r = r0.2 ∧ u = ((mx M r0.1, ρ), [])))) (0) (0) (Aof (mx M a, ρ) [] sz) := by
  intro D E sz
  refine g_of (cc := cX9_asks) (maxL := 2) (ret := (some .boolean)) (own := "TradeLineModel") (by decide) rfl rfl (Nat.le_of_ble_eq_true rfl) ?_
  intro p e s m args below meth c C hr hin hz ha hwr
  refine g_lv [0, 1] rfl ?_
  exact lb_X9_asks_0 C hr hz hρ h
noncomputable def f_X9_isOn  (w : Nat) (a : AS) (x1 : Int32) : Option (AS × Int32) := (f_X9_asks w a x1).bind (fun v1 => (if v1.2 = (0 : Int32) then (some (v1.1, (0 : Int32))) else (bif ixB x1 2 then (if (v1.1 3 x1.toNatClampNeg) = (0 : Int32) then (some (v1.1, (0 : Int32))) else (some (v1.1, (1 : Int32)))) else none)))
set_option maxHeartbeats 4000000 in
set_option maxRecDepth 100000 in
theorem lb_X9_isOn_0 {p : Program} {l : Launch} {e : Env} {s : State} {m : MethodId} {args : Array Value} {below : List Frame} {meth : Method} {c : Code} {D : va_G} {E : Nat → ClassId} {sz : Nat} {M : Nat → Nat → Nat → Int32} {a0 : AS} {ρ : YR} {w : Nat} {r0 : AS × Int32} (C : cx p s m args meth c D E (Aof (mx M a0, ρ) [] s.heap.size) cX9_isOn 2 "TradeLineModel") (hr : meth.sig.returnType = (some .boolean)) (hz : s.heap.size = sz) (hρ : rsh ρ) {a : AS} {x1 : Int32}   (h : f_X9_isOn  w a x1 = some r0) : G p l e ({ frames := 3, cells := 0, slots := 0, locals := 63 } : Room) s m args below meth c D E (Aof (mx M a0, ρ) [] s.heap.size) 2 (MQ below (cQ D E sz (mx M a0, ρ) [] (pI (fun r u => r = r0.2 ∧ u = ((mx M r0.1, ρ), [])))) args s 0 0 (Aof (mx M a0, ρ) [] s.heap.size)) (mx M a, ρ) [] 0 0 0 [(0, .ref (ρ.2.2.2 40 0)), (1, .int x1)] [] := by
  unfold f_X9_isOn at h
  refine g_aload_n C dX9_isOn_0 rfl 0 rfl ?_
  refine g_iload_n C dX9_isOn_1 rfl 1 rfl ?_
  obtain ⟨v1, hv1, h⟩ := bind_of h
  refine g_cVi (n := 1) (exc := []) (exr := []) C [_] _ rfl rfl [] [] rfl rfl rfl rfl (fun _ h => absurd h (by simp)) (fun _ h => absurd h (by simp)) (fun _ h => absurd h (by simp)) (fun sz => k_X9_asks l M ρ hρ w _ _ _ hv1 D E sz) rfl gw_1599 gw_9 gw_1596 gw_1598 gs_64 ⟨by decide +kernel, by decide +kernel, by decide +kernel⟩ ⟨rfl, rfl⟩ ⟨Nat.le_of_ble_eq_true rfl, Nat.le_of_ble_eq_true rfl⟩ (rcvT (lvY0 hρ) rfl rfl rfl) (Nat.le_of_ble_eq_true rfl) dX9_isOn_2 ⟨by decide, by decide⟩ (fun r u hp hx => ?_)
  obtain ⟨er, rfl⟩ := hp
  rw [er]
  try dsimp only [List.append_nil]
  refine g_if_eq (tgt := 21) C dX9_isOn_5 (by decide) (fun c5 => ?_) (fun c5 => ?_)
  · replace h := (if_pos c5).symm.trans h
    refine g_iconst (v := (0 : Int32)) C dX9_isOn_21 (by decide) ?_
    obtain rfl := Option.some.inj h
    exact g_iret C hr rfl hz ⟨rfl, rfl, fun _ => rfl, fun _ => rfl⟩ ⟨rfl, rfl⟩ (fun j x h => by simp at h) dX9_isOn_22
  · replace h := (if_neg c5).symm.trans h
    refine g_aload_n C dX9_isOn_8 rfl 0 rfl ?_
    refine g_get (k := 40) (i := 0) (ref := "TradeLineModel") (v := .ref (ρ.2.2.2 (40 + 3) 0)) C rfl (lvY0 hρ) rfl rfl inGX9 3 (by decide) gw_1332 (fun _ h => h) rfl dX9_isOn_9 ?_
    refine g_iload_n C dX9_isOn_12 rfl 1 rfl ?_
    obtain ⟨g2, h⟩ := of_guard h
    refine q_zald C hρ (j := 3) (N := 2) (List.mem_of_getElem? (i := 0) rfl) rfl rfl g2 dX9_isOn_13 ?_
    refine g_if_eq (tgt := 21) C dX9_isOn_14 (by decide) (fun c14 => ?_) (fun c14 => ?_)
    · replace h := (if_pos c14).symm.trans h
      refine g_iconst (v := (0 : Int32)) C dX9_isOn_21 (by decide) ?_
      obtain rfl := Option.some.inj h
      exact g_iret C hr rfl hz ⟨rfl, rfl, fun _ => rfl, fun _ => rfl⟩ ⟨rfl, rfl⟩ (fun j x h => by simp at h) dX9_isOn_22
    · replace h := (if_neg c14).symm.trans h
      refine g_iconst (v := (1 : Int32)) C dX9_isOn_17 (by decide) ?_
      refine g_goto (tgt := 22) C dX9_isOn_18 (by decide) ?_
      obtain rfl := Option.some.inj h
      exact g_iret C hr rfl hz ⟨rfl, rfl, fun _ => rfl, fun _ => rfl⟩ ⟨rfl, rfl⟩ (fun j x h => by simp at h) dX9_isOn_22
theorem k_X9_isOn (l : Launch) (M : Nat → Nat → Nat → Int32) (ρ : YR) (hρ : rsh ρ) (w : Nat) (a : AS) (x1 : Int32) (r0 : AS × Int32) (h : f_X9_isOn w a x1 = some r0) : ∀ D E sz, Met l yX9_isOn gwX9_isOn ({ frames := 3, cells := 0, slots := 0, locals := 63 } : Room) (cP D E sz (mx M a, ρ) [] [.ref (ρ.2.2.2 40 0), .int x1]) (cQ D E sz (mx M a, ρ) [] (pI (fun r u => r = r0.2 ∧ u = ((mx M r0.1, ρ), [])))) (0) (0) (Aof (mx M a, ρ) [] sz) := by
  intro D E sz
  refine g_of (cc := cX9_isOn) (maxL := 2) (ret := (some .boolean)) (own := "TradeLineModel") (by decide) rfl rfl (Nat.le_of_ble_eq_true rfl) ?_
  intro p e s m args below meth c C hr hin hz ha hwr
  refine g_lv [0, 1] rfl ?_
  exact lb_X9_isOn_0 C hr hz hρ h
noncomputable def f_X9_onWay  (w : Nat) (a : AS) (x1 : Int32) : Option (AS × Int32) := (f_X9_asks w a x1).bind (fun v1 => (if v1.2 = (0 : Int32) then (some (v1.1, (0 : Int32))) else (bif ixB x1 2 then some (v1.1, (v1.1 20 x1.toNatClampNeg)) else none)))
set_option maxHeartbeats 4000000 in
set_option maxRecDepth 100000 in
theorem lb_X9_onWay_0 {p : Program} {l : Launch} {e : Env} {s : State} {m : MethodId} {args : Array Value} {below : List Frame} {meth : Method} {c : Code} {D : va_G} {E : Nat → ClassId} {sz : Nat} {M : Nat → Nat → Nat → Int32} {a0 : AS} {ρ : YR} {w : Nat} {r0 : AS × Int32} (C : cx p s m args meth c D E (Aof (mx M a0, ρ) [] s.heap.size) cX9_onWay 2 "TradeLineModel") (hr : meth.sig.returnType = (some .int)) (hz : s.heap.size = sz) (hρ : rsh ρ) {a : AS} {x1 : Int32}   (h : f_X9_onWay  w a x1 = some r0) : G p l e ({ frames := 3, cells := 0, slots := 0, locals := 63 } : Room) s m args below meth c D E (Aof (mx M a0, ρ) [] s.heap.size) 2 (MQ below (cQ D E sz (mx M a0, ρ) [] (pI (fun r u => r = r0.2 ∧ u = ((mx M r0.1, ρ), [])))) args s 0 0 (Aof (mx M a0, ρ) [] s.heap.size)) (mx M a, ρ) [] 0 0 0 [(0, .ref (ρ.2.2.2 40 0)), (1, .int x1)] [] := by
  unfold f_X9_onWay at h
  refine g_aload_n C dX9_onWay_0 rfl 0 rfl ?_
  refine g_iload_n C dX9_onWay_1 rfl 1 rfl ?_
  obtain ⟨v1, hv1, h⟩ := bind_of h
  refine g_cVi (n := 1) (exc := []) (exr := []) C [_] _ rfl rfl [] [] rfl rfl rfl rfl (fun _ h => absurd h (by simp)) (fun _ h => absurd h (by simp)) (fun _ h => absurd h (by simp)) (fun sz => k_X9_asks l M ρ hρ w _ _ _ hv1 D E sz) rfl gw_1599 gw_9 gw_1596 gw_1598 gs_64 ⟨by decide +kernel, by decide +kernel, by decide +kernel⟩ ⟨rfl, rfl⟩ ⟨Nat.le_of_ble_eq_true rfl, Nat.le_of_ble_eq_true rfl⟩ (rcvT (lvY0 hρ) rfl rfl rfl) (Nat.le_of_ble_eq_true rfl) dX9_onWay_2 ⟨by decide, by decide⟩ (fun r u hp hx => ?_)
  obtain ⟨er, rfl⟩ := hp
  rw [er]
  try dsimp only [List.append_nil]
  refine g_if_eq (tgt := 17) C dX9_onWay_5 (by decide) (fun c5 => ?_) (fun c5 => ?_)
  · replace h := (if_pos c5).symm.trans h
    refine g_iconst (v := (0 : Int32)) C dX9_onWay_17 (by decide) ?_
    obtain rfl := Option.some.inj h
    exact g_iret C hr rfl hz ⟨rfl, rfl, fun _ => rfl, fun _ => rfl⟩ ⟨rfl, rfl⟩ (fun j x h => by simp at h) dX9_onWay_18
  · replace h := (if_neg c5).symm.trans h
    refine g_aload_n C dX9_onWay_8 rfl 0 rfl ?_
    refine g_get (k := 40) (i := 0) (ref := "TradeLineModel") (v := .ref (ρ.2.2.2 (40 + 20) 0)) C rfl (lvY0 hρ) rfl rfl inGX9 20 (by decide) gw_1349 (fun _ h => h) rfl dX9_onWay_9 ?_
    refine g_iload_n C dX9_onWay_12 rfl 1 rfl ?_
    obtain ⟨g2, h⟩ := of_guard h
    refine q_iald C hρ (j := 20) (N := 2) (List.mem_of_getElem? (i := 17) rfl) rfl rfl g2 dX9_onWay_13 ?_
    refine g_goto (tgt := 18) C dX9_onWay_14 (by decide) ?_
    obtain rfl := Option.some.inj h
    exact g_iret C hr rfl hz ⟨rfl, rfl, fun _ => rfl, fun _ => rfl⟩ ⟨rfl, rfl⟩ (fun j x h => by simp at h) dX9_onWay_18
theorem k_X9_onWay (l : Launch) (M : Nat → Nat → Nat → Int32) (ρ : YR) (hρ : rsh ρ) (w : Nat) (a : AS) (x1 : Int32) (r0 : AS × Int32) (h : f_X9_onWay w a x1 = some r0) : ∀ D E sz, Met l yX9_onWay gwX9_onWay ({ frames := 3, cells := 0, slots := 0, locals := 63 } : Room) (cP D E sz (mx M a, ρ) [] [.ref (ρ.2.2.2 40 0), .int x1]) (cQ D E sz (mx M a, ρ) [] (pI (fun r u => r = r0.2 ∧ u = ((mx M r0.1, ρ), [])))) (0) (0) (Aof (mx M a, ρ) [] sz) := by
  intro D E sz
  refine g_of (cc := cX9_onWay) (maxL := 2) (ret := (some .int)) (own := "TradeLineModel") (by decide) rfl rfl (Nat.le_of_ble_eq_true rfl) ?_
  intro p e s m args below meth c C hr hin hz ha hwr
  refine g_lv [0, 1] rfl ?_
  exact lb_X9_onWay_0 C hr hz hρ h
noncomputable def f_X9_sent  (w : Nat) (a : AS) (x1 : Int32) : Option (AS × Int32) := (f_X9_asks w a x1).bind (fun v1 => (if v1.2 = (0 : Int32) then (some (v1.1, (0 : Int32))) else (bif ixB x1 2 then some (v1.1, (v1.1 4 x1.toNatClampNeg)) else none)))
set_option maxHeartbeats 4000000 in
set_option maxRecDepth 100000 in
theorem lb_X9_sent_0 {p : Program} {l : Launch} {e : Env} {s : State} {m : MethodId} {args : Array Value} {below : List Frame} {meth : Method} {c : Code} {D : va_G} {E : Nat → ClassId} {sz : Nat} {M : Nat → Nat → Nat → Int32} {a0 : AS} {ρ : YR} {w : Nat} {r0 : AS × Int32} (C : cx p s m args meth c D E (Aof (mx M a0, ρ) [] s.heap.size) cX9_sent 2 "TradeLineModel") (hr : meth.sig.returnType = (some .int)) (hz : s.heap.size = sz) (hρ : rsh ρ) {a : AS} {x1 : Int32}   (h : f_X9_sent  w a x1 = some r0) : G p l e ({ frames := 3, cells := 0, slots := 0, locals := 63 } : Room) s m args below meth c D E (Aof (mx M a0, ρ) [] s.heap.size) 2 (MQ below (cQ D E sz (mx M a0, ρ) [] (pI (fun r u => r = r0.2 ∧ u = ((mx M r0.1, ρ), [])))) args s 0 0 (Aof (mx M a0, ρ) [] s.heap.size)) (mx M a, ρ) [] 0 0 0 [(0, .ref (ρ.2.2.2 40 0)), (1, .int x1)] [] := by
  unfold f_X9_sent at h
  refine g_aload_n C dX9_sent_0 rfl 0 rfl ?_
  refine g_iload_n C dX9_sent_1 rfl 1 rfl ?_
  obtain ⟨v1, hv1, h⟩ := bind_of h
  refine g_cVi (n := 1) (exc := []) (exr := []) C [_] _ rfl rfl [] [] rfl rfl rfl rfl (fun _ h => absurd h (by simp)) (fun _ h => absurd h (by simp)) (fun _ h => absurd h (by simp)) (fun sz => k_X9_asks l M ρ hρ w _ _ _ hv1 D E sz) rfl gw_1599 gw_9 gw_1596 gw_1598 gs_64 ⟨by decide +kernel, by decide +kernel, by decide +kernel⟩ ⟨rfl, rfl⟩ ⟨Nat.le_of_ble_eq_true rfl, Nat.le_of_ble_eq_true rfl⟩ (rcvT (lvY0 hρ) rfl rfl rfl) (Nat.le_of_ble_eq_true rfl) dX9_sent_2 ⟨by decide, by decide⟩ (fun r u hp hx => ?_)
  obtain ⟨er, rfl⟩ := hp
  rw [er]
  try dsimp only [List.append_nil]
  refine g_if_eq (tgt := 17) C dX9_sent_5 (by decide) (fun c5 => ?_) (fun c5 => ?_)
  · replace h := (if_pos c5).symm.trans h
    refine g_iconst (v := (0 : Int32)) C dX9_sent_17 (by decide) ?_
    obtain rfl := Option.some.inj h
    exact g_iret C hr rfl hz ⟨rfl, rfl, fun _ => rfl, fun _ => rfl⟩ ⟨rfl, rfl⟩ (fun j x h => by simp at h) dX9_sent_18
  · replace h := (if_neg c5).symm.trans h
    refine g_aload_n C dX9_sent_8 rfl 0 rfl ?_
    refine g_get (k := 40) (i := 0) (ref := "TradeLineModel") (v := .ref (ρ.2.2.2 (40 + 4) 0)) C rfl (lvY0 hρ) rfl rfl inGX9 4 (by decide) gw_1333 (fun _ h => h) rfl dX9_sent_9 ?_
    refine g_iload_n C dX9_sent_12 rfl 1 rfl ?_
    obtain ⟨g2, h⟩ := of_guard h
    refine q_iald C hρ (j := 4) (N := 2) (List.mem_of_getElem? (i := 1) rfl) rfl rfl g2 dX9_sent_13 ?_
    refine g_goto (tgt := 18) C dX9_sent_14 (by decide) ?_
    obtain rfl := Option.some.inj h
    exact g_iret C hr rfl hz ⟨rfl, rfl, fun _ => rfl, fun _ => rfl⟩ ⟨rfl, rfl⟩ (fun j x h => by simp at h) dX9_sent_18
theorem k_X9_sent (l : Launch) (M : Nat → Nat → Nat → Int32) (ρ : YR) (hρ : rsh ρ) (w : Nat) (a : AS) (x1 : Int32) (r0 : AS × Int32) (h : f_X9_sent w a x1 = some r0) : ∀ D E sz, Met l yX9_sent gwX9_sent ({ frames := 3, cells := 0, slots := 0, locals := 63 } : Room) (cP D E sz (mx M a, ρ) [] [.ref (ρ.2.2.2 40 0), .int x1]) (cQ D E sz (mx M a, ρ) [] (pI (fun r u => r = r0.2 ∧ u = ((mx M r0.1, ρ), [])))) (0) (0) (Aof (mx M a, ρ) [] sz) := by
  intro D E sz
  refine g_of (cc := cX9_sent) (maxL := 2) (ret := (some .int)) (own := "TradeLineModel") (by decide) rfl rfl (Nat.le_of_ble_eq_true rfl) ?_
  intro p e s m args below meth c C hr hin hz ha hwr
  refine g_lv [0, 1] rfl ?_
  exact lb_X9_sent_0 C hr hz hρ h
noncomputable def f_X9_expected  (w : Nat) (a : AS) (x1 : Int32) : Option (AS × Int32) := (f_X9_asks w a x1).bind (fun v1 => (if v1.2 = (0 : Int32) then (some (v1.1, (0 : Int32))) else (bif ixB x1 2 then some (v1.1, (v1.1 5 x1.toNatClampNeg)) else none)))
set_option maxHeartbeats 4000000 in
set_option maxRecDepth 100000 in
theorem lb_X9_expected_0 {p : Program} {l : Launch} {e : Env} {s : State} {m : MethodId} {args : Array Value} {below : List Frame} {meth : Method} {c : Code} {D : va_G} {E : Nat → ClassId} {sz : Nat} {M : Nat → Nat → Nat → Int32} {a0 : AS} {ρ : YR} {w : Nat} {r0 : AS × Int32} (C : cx p s m args meth c D E (Aof (mx M a0, ρ) [] s.heap.size) cX9_expected 2 "TradeLineModel") (hr : meth.sig.returnType = (some .int)) (hz : s.heap.size = sz) (hρ : rsh ρ) {a : AS} {x1 : Int32}   (h : f_X9_expected  w a x1 = some r0) : G p l e ({ frames := 3, cells := 0, slots := 0, locals := 63 } : Room) s m args below meth c D E (Aof (mx M a0, ρ) [] s.heap.size) 2 (MQ below (cQ D E sz (mx M a0, ρ) [] (pI (fun r u => r = r0.2 ∧ u = ((mx M r0.1, ρ), [])))) args s 0 0 (Aof (mx M a0, ρ) [] s.heap.size)) (mx M a, ρ) [] 0 0 0 [(0, .ref (ρ.2.2.2 40 0)), (1, .int x1)] [] := by
  unfold f_X9_expected at h
  refine g_aload_n C dX9_expected_0 rfl 0 rfl ?_
  refine g_iload_n C dX9_expected_1 rfl 1 rfl ?_
  obtain ⟨v1, hv1, h⟩ := bind_of h
  refine g_cVi (n := 1) (exc := []) (exr := []) C [_] _ rfl rfl [] [] rfl rfl rfl rfl (fun _ h => absurd h (by simp)) (fun _ h => absurd h (by simp)) (fun _ h => absurd h (by simp)) (fun sz => k_X9_asks l M ρ hρ w _ _ _ hv1 D E sz) rfl gw_1599 gw_9 gw_1596 gw_1598 gs_64 ⟨by decide +kernel, by decide +kernel, by decide +kernel⟩ ⟨rfl, rfl⟩ ⟨Nat.le_of_ble_eq_true rfl, Nat.le_of_ble_eq_true rfl⟩ (rcvT (lvY0 hρ) rfl rfl rfl) (Nat.le_of_ble_eq_true rfl) dX9_expected_2 ⟨by decide, by decide⟩ (fun r u hp hx => ?_)
  obtain ⟨er, rfl⟩ := hp
  rw [er]
  try dsimp only [List.append_nil]
  refine g_if_eq (tgt := 17) C dX9_expected_5 (by decide) (fun c5 => ?_) (fun c5 => ?_)
  · replace h := (if_pos c5).symm.trans h
    refine g_iconst (v := (0 : Int32)) C dX9_expected_17 (by decide) ?_
    obtain rfl := Option.some.inj h
    exact g_iret C hr rfl hz ⟨rfl, rfl, fun _ => rfl, fun _ => rfl⟩ ⟨rfl, rfl⟩ (fun j x h => by simp at h) dX9_expected_18
  · replace h := (if_neg c5).symm.trans h
    refine g_aload_n C dX9_expected_8 rfl 0 rfl ?_
    refine g_get (k := 40) (i := 0) (ref := "TradeLineModel") (v := .ref (ρ.2.2.2 (40 + 5) 0)) C rfl (lvY0 hρ) rfl rfl inGX9 5 (by decide) gw_1334 (fun _ h => h) rfl dX9_expected_9 ?_
    refine g_iload_n C dX9_expected_12 rfl 1 rfl ?_
    obtain ⟨g2, h⟩ := of_guard h
    refine q_iald C hρ (j := 5) (N := 2) (List.mem_of_getElem? (i := 2) rfl) rfl rfl g2 dX9_expected_13 ?_
    refine g_goto (tgt := 18) C dX9_expected_14 (by decide) ?_
    obtain rfl := Option.some.inj h
    exact g_iret C hr rfl hz ⟨rfl, rfl, fun _ => rfl, fun _ => rfl⟩ ⟨rfl, rfl⟩ (fun j x h => by simp at h) dX9_expected_18
theorem k_X9_expected (l : Launch) (M : Nat → Nat → Nat → Int32) (ρ : YR) (hρ : rsh ρ) (w : Nat) (a : AS) (x1 : Int32) (r0 : AS × Int32) (h : f_X9_expected w a x1 = some r0) : ∀ D E sz, Met l yX9_expected gwX9_expected ({ frames := 3, cells := 0, slots := 0, locals := 63 } : Room) (cP D E sz (mx M a, ρ) [] [.ref (ρ.2.2.2 40 0), .int x1]) (cQ D E sz (mx M a, ρ) [] (pI (fun r u => r = r0.2 ∧ u = ((mx M r0.1, ρ), [])))) (0) (0) (Aof (mx M a, ρ) [] sz) := by
  intro D E sz
  refine g_of (cc := cX9_expected) (maxL := 2) (ret := (some .int)) (own := "TradeLineModel") (by decide) rfl rfl (Nat.le_of_ble_eq_true rfl) ?_
  intro p e s m args below meth c C hr hin hz ha hwr
  refine g_lv [0, 1] rfl ?_
  exact lb_X9_expected_0 C hr hz hρ h
noncomputable def f_X9_held  (w : Nat) (a : AS) (x1 : Int32) : Option (AS × Int32) := (f_X9_asks w a x1).bind (fun v1 => (if v1.2 = (0 : Int32) then (some (v1.1, (0 : Int32))) else (bif ixB x1 2 then some (v1.1, (v1.1 6 x1.toNatClampNeg)) else none)))
set_option maxHeartbeats 4000000 in
set_option maxRecDepth 100000 in
theorem lb_X9_held_0 {p : Program} {l : Launch} {e : Env} {s : State} {m : MethodId} {args : Array Value} {below : List Frame} {meth : Method} {c : Code} {D : va_G} {E : Nat → ClassId} {sz : Nat} {M : Nat → Nat → Nat → Int32} {a0 : AS} {ρ : YR} {w : Nat} {r0 : AS × Int32} (C : cx p s m args meth c D E (Aof (mx M a0, ρ) [] s.heap.size) cX9_held 2 "TradeLineModel") (hr : meth.sig.returnType = (some .int)) (hz : s.heap.size = sz) (hρ : rsh ρ) {a : AS} {x1 : Int32}   (h : f_X9_held  w a x1 = some r0) : G p l e ({ frames := 3, cells := 0, slots := 0, locals := 63 } : Room) s m args below meth c D E (Aof (mx M a0, ρ) [] s.heap.size) 2 (MQ below (cQ D E sz (mx M a0, ρ) [] (pI (fun r u => r = r0.2 ∧ u = ((mx M r0.1, ρ), [])))) args s 0 0 (Aof (mx M a0, ρ) [] s.heap.size)) (mx M a, ρ) [] 0 0 0 [(0, .ref (ρ.2.2.2 40 0)), (1, .int x1)] [] := by
  unfold f_X9_held at h
  refine g_aload_n C dX9_held_0 rfl 0 rfl ?_
  refine g_iload_n C dX9_held_1 rfl 1 rfl ?_
  obtain ⟨v1, hv1, h⟩ := bind_of h
  refine g_cVi (n := 1) (exc := []) (exr := []) C [_] _ rfl rfl [] [] rfl rfl rfl rfl (fun _ h => absurd h (by simp)) (fun _ h => absurd h (by simp)) (fun _ h => absurd h (by simp)) (fun sz => k_X9_asks l M ρ hρ w _ _ _ hv1 D E sz) rfl gw_1599 gw_9 gw_1596 gw_1598 gs_64 ⟨by decide +kernel, by decide +kernel, by decide +kernel⟩ ⟨rfl, rfl⟩ ⟨Nat.le_of_ble_eq_true rfl, Nat.le_of_ble_eq_true rfl⟩ (rcvT (lvY0 hρ) rfl rfl rfl) (Nat.le_of_ble_eq_true rfl) dX9_held_2 ⟨by decide, by decide⟩ (fun r u hp hx => ?_)
  obtain ⟨er, rfl⟩ := hp
  rw [er]
  try dsimp only [List.append_nil]
  refine g_if_eq (tgt := 17) C dX9_held_5 (by decide) (fun c5 => ?_) (fun c5 => ?_)
  · replace h := (if_pos c5).symm.trans h
    refine g_iconst (v := (0 : Int32)) C dX9_held_17 (by decide) ?_
    obtain rfl := Option.some.inj h
    exact g_iret C hr rfl hz ⟨rfl, rfl, fun _ => rfl, fun _ => rfl⟩ ⟨rfl, rfl⟩ (fun j x h => by simp at h) dX9_held_18
  · replace h := (if_neg c5).symm.trans h
    refine g_aload_n C dX9_held_8 rfl 0 rfl ?_
    refine g_get (k := 40) (i := 0) (ref := "TradeLineModel") (v := .ref (ρ.2.2.2 (40 + 6) 0)) C rfl (lvY0 hρ) rfl rfl inGX9 6 (by decide) gw_1335 (fun _ h => h) rfl dX9_held_9 ?_
    refine g_iload_n C dX9_held_12 rfl 1 rfl ?_
    obtain ⟨g2, h⟩ := of_guard h
    refine q_iald C hρ (j := 6) (N := 2) (List.mem_of_getElem? (i := 3) rfl) rfl rfl g2 dX9_held_13 ?_
    refine g_goto (tgt := 18) C dX9_held_14 (by decide) ?_
    obtain rfl := Option.some.inj h
    exact g_iret C hr rfl hz ⟨rfl, rfl, fun _ => rfl, fun _ => rfl⟩ ⟨rfl, rfl⟩ (fun j x h => by simp at h) dX9_held_18
theorem k_X9_held (l : Launch) (M : Nat → Nat → Nat → Int32) (ρ : YR) (hρ : rsh ρ) (w : Nat) (a : AS) (x1 : Int32) (r0 : AS × Int32) (h : f_X9_held w a x1 = some r0) : ∀ D E sz, Met l yX9_held gwX9_held ({ frames := 3, cells := 0, slots := 0, locals := 63 } : Room) (cP D E sz (mx M a, ρ) [] [.ref (ρ.2.2.2 40 0), .int x1]) (cQ D E sz (mx M a, ρ) [] (pI (fun r u => r = r0.2 ∧ u = ((mx M r0.1, ρ), [])))) (0) (0) (Aof (mx M a, ρ) [] sz) := by
  intro D E sz
  refine g_of (cc := cX9_held) (maxL := 2) (ret := (some .int)) (own := "TradeLineModel") (by decide) rfl rfl (Nat.le_of_ble_eq_true rfl) ?_
  intro p e s m args below meth c C hr hin hz ha hwr
  refine g_lv [0, 1] rfl ?_
  exact lb_X9_held_0 C hr hz hρ h
noncomputable def b_X9_manyOwn_70  (w : Nat) (a : AS) (x1 s0 : Int32) : Option (Int32) := bif ixB x1 16384 then (if (a 11 x1.toNatClampNeg) = (3 : Int32) then (some (1 : Int32)) else ((if (a 11 x1.toNatClampNeg) = (6 : Int32) then (some (1 : Int32)) else ((if (a 11 x1.toNatClampNeg) = (5 : Int32) then (some (4 : Int32)) else ((if (a 11 x1.toNatClampNeg) = (7 : Int32) then (some (3 : Int32)) else ((if (a 11 x1.toNatClampNeg) = (8 : Int32) then (some ((2 : Int32) + s0)) else (some (0 : Int32))))))))))) else none
set_option maxHeartbeats 4000000 in
set_option maxRecDepth 100000 in
theorem lb_X9_manyOwn_70 {p : Program} {l : Launch} {e : Env} {s : State} {m : MethodId} {args : Array Value} {below : List Frame} {meth : Method} {c : Code} {D : va_G} {E : Nat → ClassId} {sz : Nat} {M : Nat → Nat → Nat → Int32} {a : AS} {ρ : YR} {w : Nat} {r0 : Int32} (C : cx p s m args meth c D E (Aof (mx M a, ρ) [] s.heap.size) cX9_manyOwn 4 "TradeLineModel") (hr : meth.sig.returnType = (some .int)) (hz : s.heap.size = sz) (hρ : rsh ρ) {x1 s0 : Int32}   (h : b_X9_manyOwn_70  w a x1 s0 = some r0) : G p l e ({ frames := 0, cells := 0, slots := 0, locals := 0 } : Room) s m args below meth c D E (Aof (mx M a, ρ) [] s.heap.size) 4 (MQ below (cQ D E sz (mx M a, ρ) [] (pI (fun r u => r = r0 ∧ u = ((mx M a, ρ), [])))) args s 0 0 (Aof (mx M a, ρ) [] s.heap.size)) (mx M a, ρ) [] 0 0 70 [(0, .ref (ρ.2.2.2 40 0)), (1, .int x1)] [.int s0] := by
  unfold b_X9_manyOwn_70 at h
  refine g_istore_n (lv' := [(3, .int s0), (0, .ref (ρ.2.2.2 40 0)), (1, .int x1)]) C dX9_manyOwn_70 rfl (by decide) rfl ?_
  refine g_aload_n C dX9_manyOwn_71 rfl 1 rfl ?_
  refine g_get (k := 40) (i := 0) (ref := "TradeLineModel") (v := .ref (ρ.2.2.2 (40 + 11) 0)) C rfl (lvY0 hρ) rfl rfl inGX9 11 (by decide) gw_1340 (fun _ h => h) rfl dX9_manyOwn_72 ?_
  refine g_iload_n C dX9_manyOwn_75 rfl 2 rfl ?_
  obtain ⟨g2, h⟩ := of_guard h
  refine q_iald C hρ (j := 11) (N := 16384) (List.mem_of_getElem? (i := 8) rfl) rfl rfl g2 dX9_manyOwn_76 ?_
  refine g_iconst (v := (3 : Int32)) C dX9_manyOwn_77 (by decide) ?_
  refine g_icmp_eq (tgt := 92) C dX9_manyOwn_78 (by decide) (fun c78 => ?_) (fun c78 => ?_)
  · replace h := (if_pos c78).symm.trans h
    refine g_iconst (v := (1 : Int32)) C dX9_manyOwn_92 (by decide) ?_
    refine g_goto (tgt := 143) C dX9_manyOwn_93 (by decide) ?_
    exact g_iret C hr rfl hz ⟨rfl, rfl, fun _ => rfl, fun _ => rfl⟩ ⟨Option.some.inj h, rfl⟩ (fun j x h => by simp at h) dX9_manyOwn_143
  · replace h := (if_neg c78).symm.trans h
    refine g_aload_n C dX9_manyOwn_81 rfl 1 rfl ?_
    refine g_get (k := 40) (i := 0) (ref := "TradeLineModel") (v := .ref (ρ.2.2.2 (40 + 11) 0)) C rfl (lvY0 hρ) rfl rfl inGX9 11 (by decide) gw_1340 (fun _ h => h) rfl dX9_manyOwn_82 ?_
    refine g_iload_n C dX9_manyOwn_85 rfl 2 rfl ?_
    refine q_iald C hρ (j := 11) (N := 16384) (List.mem_of_getElem? (i := 8) rfl) rfl rfl g2 dX9_manyOwn_86 ?_
    refine g_bipush (v := (6 : Int32)) C dX9_manyOwn_87 (by decide) ?_
    refine g_icmp_ne (tgt := 96) C dX9_manyOwn_89 (by decide) (fun c89 => ?_) (fun c89 => ?_)
    · replace h := (if_neg c89).symm.trans h
      refine g_aload_n C dX9_manyOwn_96 rfl 1 rfl ?_
      refine g_get (k := 40) (i := 0) (ref := "TradeLineModel") (v := .ref (ρ.2.2.2 (40 + 11) 0)) C rfl (lvY0 hρ) rfl rfl inGX9 11 (by decide) gw_1340 (fun _ h => h) rfl dX9_manyOwn_97 ?_
      refine g_iload_n C dX9_manyOwn_100 rfl 2 rfl ?_
      refine q_iald C hρ (j := 11) (N := 16384) (List.mem_of_getElem? (i := 8) rfl) rfl rfl g2 dX9_manyOwn_101 ?_
      refine g_iconst (v := (5 : Int32)) C dX9_manyOwn_102 (by decide) ?_
      refine g_icmp_ne (tgt := 110) C dX9_manyOwn_103 (by decide) (fun c103 => ?_) (fun c103 => ?_)
      · replace h := (if_neg c103).symm.trans h
        refine g_aload_n C dX9_manyOwn_110 rfl 1 rfl ?_
        refine g_get (k := 40) (i := 0) (ref := "TradeLineModel") (v := .ref (ρ.2.2.2 (40 + 11) 0)) C rfl (lvY0 hρ) rfl rfl inGX9 11 (by decide) gw_1340 (fun _ h => h) rfl dX9_manyOwn_111 ?_
        refine g_iload_n C dX9_manyOwn_114 rfl 2 rfl ?_
        refine q_iald C hρ (j := 11) (N := 16384) (List.mem_of_getElem? (i := 8) rfl) rfl rfl g2 dX9_manyOwn_115 ?_
        refine g_bipush (v := (7 : Int32)) C dX9_manyOwn_116 (by decide) ?_
        refine g_icmp_ne (tgt := 125) C dX9_manyOwn_118 (by decide) (fun c118 => ?_) (fun c118 => ?_)
        · replace h := (if_neg c118).symm.trans h
          refine g_aload_n C dX9_manyOwn_125 rfl 1 rfl ?_
          refine g_get (k := 40) (i := 0) (ref := "TradeLineModel") (v := .ref (ρ.2.2.2 (40 + 11) 0)) C rfl (lvY0 hρ) rfl rfl inGX9 11 (by decide) gw_1340 (fun _ h => h) rfl dX9_manyOwn_126 ?_
          refine g_iload_n C dX9_manyOwn_129 rfl 2 rfl ?_
          refine q_iald C hρ (j := 11) (N := 16384) (List.mem_of_getElem? (i := 8) rfl) rfl rfl g2 dX9_manyOwn_130 ?_
          refine g_bipush (v := (8 : Int32)) C dX9_manyOwn_131 (by decide) ?_
          refine g_icmp_ne (tgt := 142) C dX9_manyOwn_133 (by decide) (fun c133 => ?_) (fun c133 => ?_)
          · replace h := (if_neg c133).symm.trans h
            refine g_iconst (v := (0 : Int32)) C dX9_manyOwn_142 (by decide) ?_
            exact g_iret C hr rfl hz ⟨rfl, rfl, fun _ => rfl, fun _ => rfl⟩ ⟨Option.some.inj h, rfl⟩ (fun j x h => by simp at h) dX9_manyOwn_143
          · replace h := (if_pos c133).symm.trans h
            refine g_iconst (v := (2 : Int32)) C dX9_manyOwn_136 (by decide) ?_
            refine g_iload_n C dX9_manyOwn_137 rfl 0 rfl ?_
            refine g_iadd C dX9_manyOwn_138 ?_
            refine g_goto (tgt := 143) C dX9_manyOwn_139 (by decide) ?_
            exact g_iret C hr rfl hz ⟨rfl, rfl, fun _ => rfl, fun _ => rfl⟩ ⟨Option.some.inj h, rfl⟩ (fun j x h => by simp at h) dX9_manyOwn_143
        · replace h := (if_pos c118).symm.trans h
          refine g_iconst (v := (3 : Int32)) C dX9_manyOwn_121 (by decide) ?_
          refine g_goto (tgt := 143) C dX9_manyOwn_122 (by decide) ?_
          exact g_iret C hr rfl hz ⟨rfl, rfl, fun _ => rfl, fun _ => rfl⟩ ⟨Option.some.inj h, rfl⟩ (fun j x h => by simp at h) dX9_manyOwn_143
      · replace h := (if_pos c103).symm.trans h
        refine g_iconst (v := (4 : Int32)) C dX9_manyOwn_106 (by decide) ?_
        refine g_goto (tgt := 143) C dX9_manyOwn_107 (by decide) ?_
        exact g_iret C hr rfl hz ⟨rfl, rfl, fun _ => rfl, fun _ => rfl⟩ ⟨Option.some.inj h, rfl⟩ (fun j x h => by simp at h) dX9_manyOwn_143
    · replace h := (if_pos c89).symm.trans h
      refine g_iconst (v := (1 : Int32)) C dX9_manyOwn_92 (by decide) ?_
      refine g_goto (tgt := 143) C dX9_manyOwn_93 (by decide) ?_
      exact g_iret C hr rfl hz ⟨rfl, rfl, fun _ => rfl, fun _ => rfl⟩ ⟨Option.some.inj h, rfl⟩ (fun j x h => by simp at h) dX9_manyOwn_143
noncomputable def b_X9_manyOwn_50  (w : Nat) (a : AS) (x1 : Int32) : Option (Int32) := b_X9_manyOwn_70  w a x1 (1 : Int32)
set_option maxHeartbeats 4000000 in
set_option maxRecDepth 100000 in
theorem lb_X9_manyOwn_50 {p : Program} {l : Launch} {e : Env} {s : State} {m : MethodId} {args : Array Value} {below : List Frame} {meth : Method} {c : Code} {D : va_G} {E : Nat → ClassId} {sz : Nat} {M : Nat → Nat → Nat → Int32} {a : AS} {ρ : YR} {w : Nat} {r0 : Int32} (C : cx p s m args meth c D E (Aof (mx M a, ρ) [] s.heap.size) cX9_manyOwn 4 "TradeLineModel") (hr : meth.sig.returnType = (some .int)) (hz : s.heap.size = sz) (hρ : rsh ρ) {x1 : Int32}   (h : b_X9_manyOwn_50  w a x1 = some r0) : G p l e ({ frames := 0, cells := 0, slots := 0, locals := 0 } : Room) s m args below meth c D E (Aof (mx M a, ρ) [] s.heap.size) 4 (MQ below (cQ D E sz (mx M a, ρ) [] (pI (fun r u => r = r0 ∧ u = ((mx M a, ρ), [])))) args s 0 0 (Aof (mx M a, ρ) [] s.heap.size)) (mx M a, ρ) [] 0 0 50 [(0, .ref (ρ.2.2.2 40 0)), (1, .int x1)] [] := by
  unfold b_X9_manyOwn_50 at h
  refine g_iconst (v := (1 : Int32)) C dX9_manyOwn_50 (by decide) ?_
  refine g_goto (tgt := 70) C dX9_manyOwn_51 (by decide) ?_
  refine g_lv [0, 1] rfl ?_
  exact lb_X9_manyOwn_70 C hr hz hρ  h
noncomputable def b_X9_manyOwn_65  (w : Nat) (a : AS) (x1 : Int32) : Option (Int32) := b_X9_manyOwn_70  w a x1 (2 : Int32)
set_option maxHeartbeats 4000000 in
set_option maxRecDepth 100000 in
theorem lb_X9_manyOwn_65 {p : Program} {l : Launch} {e : Env} {s : State} {m : MethodId} {args : Array Value} {below : List Frame} {meth : Method} {c : Code} {D : va_G} {E : Nat → ClassId} {sz : Nat} {M : Nat → Nat → Nat → Int32} {a : AS} {ρ : YR} {w : Nat} {r0 : Int32} (C : cx p s m args meth c D E (Aof (mx M a, ρ) [] s.heap.size) cX9_manyOwn 4 "TradeLineModel") (hr : meth.sig.returnType = (some .int)) (hz : s.heap.size = sz) (hρ : rsh ρ) {x1 : Int32}   (h : b_X9_manyOwn_65  w a x1 = some r0) : G p l e ({ frames := 0, cells := 0, slots := 0, locals := 0 } : Room) s m args below meth c D E (Aof (mx M a, ρ) [] s.heap.size) 4 (MQ below (cQ D E sz (mx M a, ρ) [] (pI (fun r u => r = r0 ∧ u = ((mx M a, ρ), [])))) args s 0 0 (Aof (mx M a, ρ) [] s.heap.size)) (mx M a, ρ) [] 0 0 65 [(0, .ref (ρ.2.2.2 40 0)), (1, .int x1)] [] := by
  unfold b_X9_manyOwn_65 at h
  refine g_iconst (v := (2 : Int32)) C dX9_manyOwn_65 (by decide) ?_
  refine g_goto (tgt := 70) C dX9_manyOwn_66 (by decide) ?_
  refine g_lv [0, 1] rfl ?_
  exact lb_X9_manyOwn_70 C hr hz hρ  h
noncomputable def b_X9_manyOwn_21  (w : Nat) (a : AS) (x1 s0 : Int32) : Option (Int32) := (if s0 = (1 : Int32) then (bif ixB x1 16384 then b_X9_manyOwn_70  w a x1 ((1 : Int32) + ((4 : Int32) * (a 17 x1.toNatClampNeg))) else none) else ((if s0 = (2 : Int32) then (b_X9_manyOwn_50  w a x1) else ((if s0 = (5 : Int32) then (b_X9_manyOwn_50  w a x1) else ((if s0 = (3 : Int32) then (b_X9_manyOwn_65  w a x1) else ((if s0 = (6 : Int32) then (b_X9_manyOwn_65  w a x1) else (b_X9_manyOwn_70  w a x1 (0 : Int32)))))))))))
set_option maxHeartbeats 4000000 in
set_option maxRecDepth 100000 in
theorem lb_X9_manyOwn_21 {p : Program} {l : Launch} {e : Env} {s : State} {m : MethodId} {args : Array Value} {below : List Frame} {meth : Method} {c : Code} {D : va_G} {E : Nat → ClassId} {sz : Nat} {M : Nat → Nat → Nat → Int32} {a : AS} {ρ : YR} {w : Nat} {r0 : Int32} (C : cx p s m args meth c D E (Aof (mx M a, ρ) [] s.heap.size) cX9_manyOwn 4 "TradeLineModel") (hr : meth.sig.returnType = (some .int)) (hz : s.heap.size = sz) (hρ : rsh ρ) {x1 s0 : Int32}   (h : b_X9_manyOwn_21  w a x1 s0 = some r0) : G p l e ({ frames := 0, cells := 0, slots := 0, locals := 0 } : Room) s m args below meth c D E (Aof (mx M a, ρ) [] s.heap.size) 4 (MQ below (cQ D E sz (mx M a, ρ) [] (pI (fun r u => r = r0 ∧ u = ((mx M a, ρ), [])))) args s 0 0 (Aof (mx M a, ρ) [] s.heap.size)) (mx M a, ρ) [] 0 0 21 [(0, .ref (ρ.2.2.2 40 0)), (1, .int x1)] [.int s0] := by
  unfold b_X9_manyOwn_21 at h
  refine g_istore_n (lv' := [(2, .int s0), (0, .ref (ρ.2.2.2 40 0)), (1, .int x1)]) C dX9_manyOwn_21 rfl (by decide) rfl ?_
  refine g_iload_n C dX9_manyOwn_22 rfl 0 rfl ?_
  refine g_iconst (v := (1 : Int32)) C dX9_manyOwn_23 (by decide) ?_
  refine g_icmp_ne (tgt := 40) C dX9_manyOwn_24 (by decide) (fun c24 => ?_) (fun c24 => ?_)
  · replace h := (if_neg c24).symm.trans h
    refine g_iload_n C dX9_manyOwn_40 rfl 0 rfl ?_
    refine g_iconst (v := (2 : Int32)) C dX9_manyOwn_41 (by decide) ?_
    refine g_icmp_eq (tgt := 50) C dX9_manyOwn_42 (by decide) (fun c42 => ?_) (fun c42 => ?_)
    · replace h := (if_pos c42).symm.trans h
      refine g_lv [1, 2] rfl ?_
      exact lb_X9_manyOwn_50 C hr hz hρ  h
    · replace h := (if_neg c42).symm.trans h
      refine g_iload_n C dX9_manyOwn_45 rfl 0 rfl ?_
      refine g_iconst (v := (5 : Int32)) C dX9_manyOwn_46 (by decide) ?_
      refine g_icmp_ne (tgt := 54) C dX9_manyOwn_47 (by decide) (fun c47 => ?_) (fun c47 => ?_)
      · replace h := (if_neg c47).symm.trans h
        refine g_iload_n C dX9_manyOwn_54 rfl 0 rfl ?_
        refine g_iconst (v := (3 : Int32)) C dX9_manyOwn_55 (by decide) ?_
        refine g_icmp_eq (tgt := 65) C dX9_manyOwn_56 (by decide) (fun c56 => ?_) (fun c56 => ?_)
        · replace h := (if_pos c56).symm.trans h
          refine g_lv [1, 2] rfl ?_
          exact lb_X9_manyOwn_65 C hr hz hρ  h
        · replace h := (if_neg c56).symm.trans h
          refine g_iload_n C dX9_manyOwn_59 rfl 0 rfl ?_
          refine g_bipush (v := (6 : Int32)) C dX9_manyOwn_60 (by decide) ?_
          refine g_icmp_ne (tgt := 69) C dX9_manyOwn_62 (by decide) (fun c62 => ?_) (fun c62 => ?_)
          · replace h := (if_neg c62).symm.trans h
            refine g_iconst (v := (0 : Int32)) C dX9_manyOwn_69 (by decide) ?_
            refine g_lv [1, 2] rfl ?_
            exact lb_X9_manyOwn_70 C hr hz hρ  h
          · replace h := (if_pos c62).symm.trans h
            refine g_lv [1, 2] rfl ?_
            exact lb_X9_manyOwn_65 C hr hz hρ  h
      · replace h := (if_pos c47).symm.trans h
        refine g_lv [1, 2] rfl ?_
        exact lb_X9_manyOwn_50 C hr hz hρ  h
  · replace h := (if_pos c24).symm.trans h
    refine g_iconst (v := (1 : Int32)) C dX9_manyOwn_27 (by decide) ?_
    refine g_iconst (v := (4 : Int32)) C dX9_manyOwn_28 (by decide) ?_
    refine g_aload_n C dX9_manyOwn_29 rfl 1 rfl ?_
    refine g_get (k := 40) (i := 0) (ref := "TradeLineModel") (v := .ref (ρ.2.2.2 (40 + 17) 0)) C rfl (lvY0 hρ) rfl rfl inGX9 17 (by decide) gw_1346 (fun _ h => h) rfl dX9_manyOwn_30 ?_
    refine g_iload_n C dX9_manyOwn_33 rfl 2 rfl ?_
    obtain ⟨g3, h⟩ := of_guard h
    refine q_iald C hρ (j := 17) (N := 16384) (List.mem_of_getElem? (i := 14) rfl) rfl rfl g3 dX9_manyOwn_34 ?_
    refine g_imul C dX9_manyOwn_35 ?_
    refine g_iadd C dX9_manyOwn_36 ?_
    refine g_goto (tgt := 70) C dX9_manyOwn_37 (by decide) ?_
    refine g_lv [1, 2] rfl ?_
    exact lb_X9_manyOwn_70 C hr hz hρ  h
noncomputable def f_X9_manyOwn  (w : Nat) (a : AS) (x1 : Int32) : Option (Int32) := bif ixB x1 16384 then (if (a 11 x1.toNatClampNeg) = (8 : Int32) then (b_X9_manyOwn_21  w a x1 (a 14 x1.toNatClampNeg)) else (b_X9_manyOwn_21  w a x1 (-1 : Int32))) else none
set_option maxHeartbeats 4000000 in
set_option maxRecDepth 100000 in
theorem lb_X9_manyOwn_0 {p : Program} {l : Launch} {e : Env} {s : State} {m : MethodId} {args : Array Value} {below : List Frame} {meth : Method} {c : Code} {D : va_G} {E : Nat → ClassId} {sz : Nat} {M : Nat → Nat → Nat → Int32} {a : AS} {ρ : YR} {w : Nat} {r0 : Int32} (C : cx p s m args meth c D E (Aof (mx M a, ρ) [] s.heap.size) cX9_manyOwn 4 "TradeLineModel") (hr : meth.sig.returnType = (some .int)) (hz : s.heap.size = sz) (hρ : rsh ρ) {x1 : Int32}   (h : f_X9_manyOwn  w a x1 = some r0) : G p l e ({ frames := 0, cells := 0, slots := 0, locals := 0 } : Room) s m args below meth c D E (Aof (mx M a, ρ) [] s.heap.size) 4 (MQ below (cQ D E sz (mx M a, ρ) [] (pI (fun r u => r = r0 ∧ u = ((mx M a, ρ), [])))) args s 0 0 (Aof (mx M a, ρ) [] s.heap.size)) (mx M a, ρ) [] 0 0 0 [(0, .ref (ρ.2.2.2 40 0)), (1, .int x1)] [] := by
  unfold f_X9_manyOwn at h
  refine g_aload_n C dX9_manyOwn_0 rfl 0 rfl ?_
  refine g_get (k := 40) (i := 0) (ref := "TradeLineModel") (v := .ref (ρ.2.2.2 (40 + 11) 0)) C rfl (lvY0 hρ) rfl rfl inGX9 11 (by decide) gw_1340 (fun _ h => h) rfl dX9_manyOwn_1 ?_
  refine g_iload_n C dX9_manyOwn_4 rfl 1 rfl ?_
  obtain ⟨g1, h⟩ := of_guard h
  refine q_iald C hρ (j := 11) (N := 16384) (List.mem_of_getElem? (i := 8) rfl) rfl rfl g1 dX9_manyOwn_5 ?_
  refine g_bipush (v := (8 : Int32)) C dX9_manyOwn_6 (by decide) ?_
  refine g_icmp_ne (tgt := 20) C dX9_manyOwn_8 (by decide) (fun c8 => ?_) (fun c8 => ?_)
  · replace h := (if_neg c8).symm.trans h
    refine g_iconst (v := (-1 : Int32)) C dX9_manyOwn_20 (by decide) ?_
    refine g_lv [0, 1] rfl ?_
    exact lb_X9_manyOwn_21 C hr hz hρ  h
  · replace h := (if_pos c8).symm.trans h
    refine g_aload_n C dX9_manyOwn_11 rfl 0 rfl ?_
    refine g_get (k := 40) (i := 0) (ref := "TradeLineModel") (v := .ref (ρ.2.2.2 (40 + 14) 0)) C rfl (lvY0 hρ) rfl rfl inGX9 14 (by decide) gw_1343 (fun _ h => h) rfl dX9_manyOwn_12 ?_
    refine g_iload_n C dX9_manyOwn_15 rfl 1 rfl ?_
    refine q_iald C hρ (j := 14) (N := 16384) (List.mem_of_getElem? (i := 11) rfl) rfl rfl g1 dX9_manyOwn_16 ?_
    refine g_goto (tgt := 21) C dX9_manyOwn_17 (by decide) ?_
    refine g_lv [0, 1] rfl ?_
    exact lb_X9_manyOwn_21 C hr hz hρ  h
theorem k_X9_manyOwn (l : Launch) (M : Nat → Nat → Nat → Int32) (ρ : YR) (hρ : rsh ρ) (w : Nat) (a : AS) (x1 : Int32) (r0 : Int32) (h : f_X9_manyOwn w a x1 = some r0) : ∀ D E sz, Met l yX9_manyOwn gwX9_manyOwn ({ frames := 0, cells := 0, slots := 0, locals := 0 } : Room) (cP D E sz (mx M a, ρ) [] [.ref (ρ.2.2.2 40 0), .int x1]) (cQ D E sz (mx M a, ρ) [] (pI (fun r u => r = r0 ∧ u = ((mx M a, ρ), [])))) (0) (0) (Aof (mx M a, ρ) [] sz) := by
  intro D E sz
  refine g_of (cc := cX9_manyOwn) (maxL := 4) (ret := (some .int)) (own := "TradeLineModel") (by decide) rfl rfl (Nat.le_of_ble_eq_true rfl) ?_
  intro p e s m args below meth c C hr hin hz ha hwr
  refine g_lv [0, 1] rfl ?_
  exact lb_X9_manyOwn_0 C hr hz hρ h
