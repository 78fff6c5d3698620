noncomputable def b_X9_quoted_43  (w : Nat) (a : AS) (s0 s1 : Int32) : Option (AS × Int32) := bif ixB (s1 + s0) 6 then some (a, (a 34 (s1 + s0).toNatClampNeg)) else none
set_option maxHeartbeats 4000000 in
set_option maxRecDepth 100000 in
theorem lb_X9_quoted_43 {p : Program} {l : Launch} {e : Env} {s : State} {m : MethodId} {args : Array Value} {below : List Frame} {meth : Method} {c : Code} {D : va_G} {E : Nat → ClassId} {sz : Nat} {M : Nat → Nat → Nat → Int32} {a0 : AS} {ρ : YR} {w : Nat} {r0 : AS × Int32} (C : cx p s m args meth c D E (Aof (mx M a0, ρ) [] s.heap.size) cX9_quoted 3 "TradeLineModel") (hr : meth.sig.returnType = (some .int)) (hz : s.heap.size = sz) (hρ : rsh ρ) {a : AS} {s0 s1 : Int32}   (h : b_X9_quoted_43  w a s0 s1 = some r0) : G p l e ({ frames := 2, cells := 0, slots := 0, locals := 42 } : Room) s m args below meth c D E (Aof (mx M a0, ρ) [] s.heap.size) 3 (MQ below (cQ D E sz (mx M a0, ρ) [] (pI (fun r u => r = r0.2 ∧ u = ((mx M r0.1, ρ), [])))) args s 0 0 (Aof (mx M a0, ρ) [] s.heap.size)) (mx M a, ρ) [] 0 0 43 [(0, .ref (ρ.2.2.2 40 0))] [.int s0, .int s1, .ref (ρ.2.2.2 (40 + 34) 0)] := by
  unfold b_X9_quoted_43 at h
  refine g_iadd C dX9_quoted_43 ?_
  obtain ⟨g3, h⟩ := of_guard h
  refine q_iald C hρ (j := 34) (N := 6) (List.mem_of_getElem? (i := 29) rfl) rfl rfl g3 dX9_quoted_44 ?_
  obtain rfl := Option.some.inj h
  exact g_iret C hr rfl hz ⟨rfl, rfl, fun _ => rfl, fun _ => rfl⟩ ⟨rfl, rfl⟩ (fun j x h => by simp at h) dX9_quoted_45
noncomputable def b_X9_quoted_13  (w : Nat) (a : AS) (x1 x2 s0 : Int32) : Option (AS × Int32) := yl (up2 a 0 0 s0) (fun a2 => (if (a2 0 0) ≤ (0 : Int32) then ((if x2 = (0 : Int32) then (b_X9_quoted_43  w a2 (0 : Int32) ((2 : Int32) * x1)) else (b_X9_quoted_43  w a2 (1 : Int32) ((2 : Int32) * x1)))) else (some (a2, (0 : Int32)))))
set_option maxHeartbeats 4000000 in
set_option maxRecDepth 100000 in
theorem lb_X9_quoted_13 {p : Program} {l : Launch} {e : Env} {s : State} {m : MethodId} {args : Array Value} {below : List Frame} {meth : Method} {c : Code} {D : va_G} {E : Nat → ClassId} {sz : Nat} {M : Nat → Nat → Nat → Int32} {a0 : AS} {ρ : YR} {w : Nat} {r0 : AS × Int32} (C : cx p s m args meth c D E (Aof (mx M a0, ρ) [] s.heap.size) cX9_quoted 3 "TradeLineModel") (hr : meth.sig.returnType = (some .int)) (hz : s.heap.size = sz) (hρ : rsh ρ) {a : AS} {x1 x2 s0 : Int32}   (h : b_X9_quoted_13  w a x1 x2 s0 = some r0) : G p l e ({ frames := 2, cells := 0, slots := 0, locals := 42 } : Room) s m args below meth c D E (Aof (mx M a0, ρ) [] s.heap.size) 3 (MQ below (cQ D E sz (mx M a0, ρ) [] (pI (fun r u => r = r0.2 ∧ u = ((mx M r0.1, ρ), [])))) args s 0 0 (Aof (mx M a0, ρ) [] s.heap.size)) (mx M a, ρ) [] 0 0 13 [(0, .ref (ρ.2.2.2 40 0)), (1, .int x1), (2, .int x2)] [.int s0, .ref (ρ.2.2.2 40 0)] := by
  unfold b_X9_quoted_13 at h
  refine q_put C hρ (j := 0) (by decide) gw_1329 rfl rfl (tyX9_ok 0 (by decide)) rfl rfl (by simp [fvs, up1]) dX9_quoted_13 (fun a2 ea2 => ?_)
  replace h := yl_of h ea2
  refine g_aload_n C dX9_quoted_16 rfl 0 rfl ?_
  refine g_get (k := 40) (i := 0) (ref := "TradeLineModel") (v := .int (a2 0 0)) C rfl (lvY0 hρ) rfl rfl inGX9 0 (by decide) gw_1329 (fun _ h => h) rfl dX9_quoted_17 ?_
  refine g_if_le (tgt := 27) C dX9_quoted_20 (by decide) (fun c20 => ?_) (fun c20 => ?_)
  · replace h := (if_pos c20).symm.trans h
    refine g_aload_n C dX9_quoted_27 rfl 0 rfl ?_
    refine g_get (k := 40) (i := 0) (ref := "TradeLineModel") (v := .ref (ρ.2.2.2 (40 + 34) 0)) C rfl (lvY0 hρ) rfl rfl inGX9 34 (by decide) gw_1363 (fun _ h => h) rfl dX9_quoted_28 ?_
    refine g_iconst (v := (2 : Int32)) C dX9_quoted_31 (by decide) ?_
    refine g_iload_n C dX9_quoted_32 rfl 1 rfl ?_
    refine g_imul C dX9_quoted_33 ?_
    refine g_iload_n C dX9_quoted_34 rfl 2 rfl ?_
    refine g_if_eq (tgt := 42) C dX9_quoted_35 (by decide) (fun c35 => ?_) (fun c35 => ?_)
    · replace h := (if_pos c35).symm.trans h
      refine g_iconst (v := (0 : Int32)) C dX9_quoted_42 (by decide) ?_
      refine g_lv [0] rfl ?_
      exact lb_X9_quoted_43 C hr hz hρ  h
    · replace h := (if_neg c35).symm.trans h
      refine g_iconst (v := (1 : Int32)) C dX9_quoted_38 (by decide) ?_
      refine g_goto (tgt := 43) C dX9_quoted_39 (by decide) ?_
      refine g_lv [0] rfl ?_
      exact lb_X9_quoted_43 C hr hz hρ  h
  · replace h := (if_neg c20).symm.trans h
    refine g_iconst (v := (0 : Int32)) C dX9_quoted_23 (by decide) ?_
    refine g_goto (tgt := 45) C dX9_quoted_24 (by decide) ?_
    obtain rfl := Option.some.inj h
    exact g_iret C hr rfl hz ⟨rfl, rfl, fun _ => rfl, fun _ => rfl⟩ ⟨rfl, rfl⟩ (fun j x h => by simp at h) dX9_quoted_45
noncomputable def f_X9_quoted  (w : Nat) (a : AS) (x1 x2 : Int32) : Option (AS × Int32) := (f_X9_isVenue w a x1).bind (fun v1 => (if v1 = (0 : Int32) then (b_X9_quoted_13  w a x1 x2 (1 : Int32)) else (b_X9_quoted_13  w a x1 x2 (0 : Int32))))
set_option maxHeartbeats 4000000 in
set_option maxRecDepth 100000 in
theorem lb_X9_quoted_0 {p : Program} {l : Launch} {e : Env} {s : State} {m : MethodId} {args : Array Value} {below : List Frame} {meth : Method} {c : Code} {D : va_G} {E : Nat → ClassId} {sz : Nat} {M : Nat → Nat → Nat → Int32} {a0 : AS} {ρ : YR} {w : Nat} {r0 : AS × Int32} (C : cx p s m args meth c D E (Aof (mx M a0, ρ) [] s.heap.size) cX9_quoted 3 "TradeLineModel") (hr : meth.sig.returnType = (some .int)) (hz : s.heap.size = sz) (hρ : rsh ρ) {a : AS} {x1 x2 : Int32}   (h : f_X9_quoted  w a x1 x2 = some r0) : G p l e ({ frames := 2, cells := 0, slots := 0, locals := 42 } : Room) s m args below meth c D E (Aof (mx M a0, ρ) [] s.heap.size) 3 (MQ below (cQ D E sz (mx M a0, ρ) [] (pI (fun r u => r = r0.2 ∧ u = ((mx M r0.1, ρ), [])))) args s 0 0 (Aof (mx M a0, ρ) [] s.heap.size)) (mx M a, ρ) [] 0 0 0 [(0, .ref (ρ.2.2.2 40 0)), (1, .int x1), (2, .int x2)] [] := by
  unfold f_X9_quoted at h
  refine g_aload_n C dX9_quoted_0 rfl 0 rfl ?_
  refine g_iload_n C dX9_quoted_1 rfl 1 rfl ?_
  obtain ⟨v1, hv1, h⟩ := bind_of h
  refine g_cSi (n := 1) (exc := []) (exr := []) C [_] _ rfl rfl [] [] rfl rfl rfl rfl (fun _ h => absurd h (by simp)) (fun _ h => absurd h (by simp)) (fun _ h => absurd h (by simp)) (fun sz => k_X9_isVenue l M ρ hρ w _ _ _ hv1 D E sz) rfl gw_1714 gw_9 gw_1712 gw_1713 ⟨by decide +kernel, by decide +kernel, by decide +kernel⟩ ⟨rfl, rfl⟩ ⟨Nat.le_of_ble_eq_true rfl, Nat.le_of_ble_eq_true rfl⟩ (Nat.le_of_ble_eq_true rfl) dX9_quoted_2 ⟨by decide, by decide⟩ (fun r u hp hx => ?_)
  obtain ⟨er, rfl⟩ := hp
  rw [er]
  try dsimp only [List.append_nil]
  refine g_if_eq (tgt := 12) C dX9_quoted_5 (by decide) (fun c5 => ?_) (fun c5 => ?_)
  · replace h := (if_pos c5).symm.trans h
    refine g_iconst (v := (1 : Int32)) C dX9_quoted_12 (by decide) ?_
    refine g_lv [0, 1, 2] rfl ?_
    exact lb_X9_quoted_13 C hr hz hρ  h
  · replace h := (if_neg c5).symm.trans h
    refine g_iconst (v := (0 : Int32)) C dX9_quoted_8 (by decide) ?_
    refine g_goto (tgt := 13) C dX9_quoted_9 (by decide) ?_
    refine g_lv [0, 1, 2] rfl ?_
    exact lb_X9_quoted_13 C hr hz hρ  h
theorem k_X9_quoted (l : Launch) (M : Nat → Nat → Nat → Int32) (ρ : YR) (hρ : rsh ρ) (w : Nat) (a : AS) (x1 x2 : Int32) (r0 : AS × Int32) (h : f_X9_quoted w a x1 x2 = some r0) : ∀ D E sz, Met l yX9_quoted gwX9_quoted ({ frames := 2, cells := 0, slots := 0, locals := 42 } : Room) (cP D E sz (mx M a, ρ) [] [.ref (ρ.2.2.2 40 0), .int x1, .int x2]) (cQ D E sz (mx M a, ρ) [] (pI (fun r u => r = r0.2 ∧ u = ((mx M r0.1, ρ), [])))) (0) (0) (Aof (mx M a, ρ) [] sz) := by
  intro D E sz
  refine g_of (cc := cX9_quoted) (maxL := 3) (ret := (some .int)) (own := "TradeLineModel") (by decide) rfl rfl (Nat.le_of_ble_eq_true rfl) ?_
  intro p e s m args below meth c C hr hin hz ha hwr
  refine g_lv [0, 1, 2] rfl ?_
  exact lb_X9_quoted_0 C hr hz hρ h
noncomputable def b_X9_bust_36  (w : Nat) (a : AS) (x1 s0 : Int32) : Option (AS × Int32) := yl (up2 a 0 0 s0) (fun a3 => (if (a3 0 0) ≤ (0 : Int32) then (bif ixB x1 100 then yl (((40 : Int32) + (a3 36 x1.toNatClampNeg))) (fun t5 => bif ixB ((100 : Int32) + x1) 200 then yl (up2 a3 43 ((100 : Int32) + x1).toNatClampNeg (vp_nar .boolean (1 : Int32))) (fun a7 => bif ixB t5 80 then yl (up2 a7 27 t5.toNatClampNeg ((a7 27 t5.toNatClampNeg) - (a7 39 x1.toNatClampNeg))) (fun a9 => yl (up2 a9 28 t5.toNatClampNeg ((a9 28 t5.toNatClampNeg) + (a9 39 x1.toNatClampNeg))) (fun a10 => (f_X9_reports w a10 (5 : Int32) (a10 36 x1.toNatClampNeg) x1 (0 : Int32)).bind (fun v11 => some (v11.1, (v11.1 27 t5.toNatClampNeg))))) else none) else none) else none) else (some (a3, (0 : Int32)))))
set_option maxHeartbeats 4000000 in
set_option maxRecDepth 100000 in
theorem lb_X9_bust_36 {p : Program} {l : Launch} {e : Env} {s : State} {m : MethodId} {args : Array Value} {below : List Frame} {meth : Method} {c : Code} {D : va_G} {E : Nat → ClassId} {sz : Nat} {M : Nat → Nat → Nat → Int32} {a0 : AS} {ρ : YR} {w : Nat} {r0 : AS × Int32} (C : cx p s m args meth c D E (Aof (mx M a0, ρ) [] s.heap.size) cX9_bust 3 "TradeLineModel") (hr : meth.sig.returnType = (some .int)) (hz : s.heap.size = sz) (hρ : rsh ρ) {a : AS} {x1 s0 : Int32}   (h : b_X9_bust_36  w a x1 s0 = some r0) : G p l e ({ frames := 4, cells := 0, slots := 0, locals := 97 } : Room) s m args below meth c D E (Aof (mx M a0, ρ) [] s.heap.size) 3 (MQ below (cQ D E sz (mx M a0, ρ) [] (pI (fun r u => r = r0.2 ∧ u = ((mx M r0.1, ρ), [])))) args s 0 0 (Aof (mx M a0, ρ) [] s.heap.size)) (mx M a, ρ) [] 0 0 36 [(0, .ref (ρ.2.2.2 40 0)), (1, .int x1)] [.int s0, .ref (ρ.2.2.2 40 0)] := by
  unfold b_X9_bust_36 at h
  refine q_put C hρ (j := 0) (by decide) gw_1329 rfl rfl (tyX9_ok 0 (by decide)) rfl rfl (by simp [fvs, up1]) dX9_bust_36 (fun a3 ea3 => ?_)
  replace h := yl_of h ea3
  refine g_aload_n C dX9_bust_39 rfl 0 rfl ?_
  refine g_get (k := 40) (i := 0) (ref := "TradeLineModel") (v := .int (a3 0 0)) C rfl (lvY0 hρ) rfl rfl inGX9 0 (by decide) gw_1329 (fun _ h => h) rfl dX9_bust_40 ?_
  refine g_if_le (tgt := 48) C dX9_bust_43 (by decide) (fun c43 => ?_) (fun c43 => ?_)
  · replace h := (if_pos c43).symm.trans h
    refine g_bipush (v := (40 : Int32)) C dX9_bust_48 (by decide) ?_
    refine g_aload_n C dX9_bust_50 rfl 0 rfl ?_
    refine g_get (k := 40) (i := 0) (ref := "TradeLineModel") (v := .ref (ρ.2.2.2 (40 + 36) 0)) C rfl (lvY0 hρ) rfl rfl inGX9 36 (by decide) gw_1365 (fun _ h => h) rfl dX9_bust_51 ?_
    refine g_iload_n C dX9_bust_54 rfl 1 rfl ?_
    obtain ⟨g4, h⟩ := of_guard h
    refine q_iald C hρ (j := 36) (N := 100) (List.mem_of_getElem? (i := 30) rfl) rfl rfl g4 dX9_bust_55 ?_
    refine g_iadd C dX9_bust_56 ?_
    refine q_topi (fun t5 et5 => ?_)
    replace h := yl_of h et5
    refine g_istore_n (lv' := [(2, .int t5), (0, .ref (ρ.2.2.2 40 0)), (1, .int x1)]) C dX9_bust_57 rfl (by decide) rfl ?_
    refine g_aload_n C dX9_bust_58 rfl 1 rfl ?_
    refine g_get (k := 40) (i := 0) (ref := "TradeLineModel") (v := .ref (ρ.2.2.2 (40 + 43) 0)) C rfl (lvY0 hρ) rfl rfl inGX9 43 (by decide) gw_1372 (fun _ h => h) rfl dX9_bust_59 ?_
    refine g_bipush (v := (100 : Int32)) C dX9_bust_62 (by decide) ?_
    refine g_iload_n C dX9_bust_64 rfl 2 rfl ?_
    refine g_iadd C dX9_bust_65 ?_
    refine g_iconst (v := (1 : Int32)) C dX9_bust_66 (by decide) ?_
    obtain ⟨g6, h⟩ := of_guard h
    refine q_zast C hρ (j := 43) (N := 200) (List.mem_of_getElem? (i := 37) rfl) rfl rfl g6 dX9_bust_67 (fun a7 ea7 => ?_)
    replace h := yl_of h ea7
    refine g_aload_n C dX9_bust_68 rfl 1 rfl ?_
    refine g_get (k := 40) (i := 0) (ref := "TradeLineModel") (v := .ref (ρ.2.2.2 (40 + 27) 0)) C rfl (lvY0 hρ) rfl rfl inGX9 27 (by decide) gw_1356 (fun _ h => h) rfl dX9_bust_69 ?_
    refine g_iload_n C dX9_bust_72 rfl 0 rfl ?_
    refine g_dup2 C dX9_bust_73 rfl rfl ?_
    obtain ⟨g8, h⟩ := of_guard h
    refine q_iald C hρ (j := 27) (N := 80) (List.mem_of_getElem? (i := 23) rfl) rfl rfl g8 dX9_bust_74 ?_
    refine g_aload_n C dX9_bust_75 rfl 1 rfl ?_
    refine g_get (k := 40) (i := 0) (ref := "TradeLineModel") (v := .ref (ρ.2.2.2 (40 + 39) 0)) C rfl (lvY0 hρ) rfl rfl inGX9 39 (by decide) gw_1368 (fun _ h => h) rfl dX9_bust_76 ?_
    refine g_iload_n C dX9_bust_79 rfl 2 rfl ?_
    refine q_iald C hρ (j := 39) (N := 100) (List.mem_of_getElem? (i := 33) rfl) rfl rfl g4 dX9_bust_80 ?_
    refine g_isub C dX9_bust_81 ?_
    refine q_iast C hρ (j := 27) (N := 80) (List.mem_of_getElem? (i := 23) rfl) rfl rfl g8 dX9_bust_82 (fun a9 ea9 => ?_)
    replace h := yl_of h ea9
    refine g_aload_n C dX9_bust_83 rfl 1 rfl ?_
    refine g_get (k := 40) (i := 0) (ref := "TradeLineModel") (v := .ref (ρ.2.2.2 (40 + 28) 0)) C rfl (lvY0 hρ) rfl rfl inGX9 28 (by decide) gw_1357 (fun _ h => h) rfl dX9_bust_84 ?_
    refine g_iload_n C dX9_bust_87 rfl 0 rfl ?_
    refine g_dup2 C dX9_bust_88 rfl rfl ?_
    refine q_iald C hρ (j := 28) (N := 80) (List.mem_of_getElem? (i := 24) rfl) rfl rfl g8 dX9_bust_89 ?_
    refine g_aload_n C dX9_bust_90 rfl 1 rfl ?_
    refine g_get (k := 40) (i := 0) (ref := "TradeLineModel") (v := .ref (ρ.2.2.2 (40 + 39) 0)) C rfl (lvY0 hρ) rfl rfl inGX9 39 (by decide) gw_1368 (fun _ h => h) rfl dX9_bust_91 ?_
    refine g_iload_n C dX9_bust_94 rfl 2 rfl ?_
    refine q_iald C hρ (j := 39) (N := 100) (List.mem_of_getElem? (i := 33) rfl) rfl rfl g4 dX9_bust_95 ?_
    refine g_iadd C dX9_bust_96 ?_
    refine q_iast C hρ (j := 28) (N := 80) (List.mem_of_getElem? (i := 24) rfl) rfl rfl g8 dX9_bust_97 (fun a10 ea10 => ?_)
    replace h := yl_of h ea10
    refine g_aload_n C dX9_bust_98 rfl 1 rfl ?_
    refine g_iconst (v := (5 : Int32)) C dX9_bust_99 (by decide) ?_
    refine g_aload_n C dX9_bust_100 rfl 1 rfl ?_
    refine g_get (k := 40) (i := 0) (ref := "TradeLineModel") (v := .ref (ρ.2.2.2 (40 + 36) 0)) C rfl (lvY0 hρ) rfl rfl inGX9 36 (by decide) gw_1365 (fun _ h => h) rfl dX9_bust_101 ?_
    refine g_iload_n C dX9_bust_104 rfl 2 rfl ?_
    refine q_iald C hρ (j := 36) (N := 100) (List.mem_of_getElem? (i := 30) rfl) rfl rfl g4 dX9_bust_105 ?_
    refine g_iload_n C dX9_bust_106 rfl 2 rfl ?_
    refine g_iconst (v := (0 : Int32)) C dX9_bust_107 (by decide) ?_
    obtain ⟨v11, hv11, h⟩ := bind_of h
    refine g_cVv (n := 4) (exc := []) (exr := []) C [_, _, _, _] _ rfl rfl [] [] rfl rfl rfl rfl (fun _ h => absurd h (by simp)) (fun _ h => absurd h (by simp)) (fun _ h => absurd h (by simp)) (fun sz => k_X9_reports l M ρ hρ w _ _ _ _ _ _ hv11 D E sz) rfl gw_1547 gw_9 gw_1544 gw_1546 gs_55 ⟨by decide +kernel, by decide +kernel, by decide +kernel⟩ ⟨rfl, rfl⟩ ⟨Nat.le_of_ble_eq_true rfl, Nat.le_of_ble_eq_true rfl⟩ (rcvT (lvY0 hρ) rfl rfl rfl) (Nat.le_of_ble_eq_true rfl) dX9_bust_108 ⟨by decide, by decide⟩ (fun u hp hx => ?_)
    obtain rfl := hp
    try dsimp only [List.append_nil]
    refine g_aload_n C dX9_bust_111 rfl 1 rfl ?_
    refine g_get (k := 40) (i := 0) (ref := "TradeLineModel") (v := .ref (ρ.2.2.2 (40 + 27) 0)) C rfl (lvY0 hρ) rfl rfl inGX9 27 (by decide) gw_1356 (fun _ h => h) rfl dX9_bust_112 ?_
    refine g_iload_n C dX9_bust_115 rfl 0 rfl ?_
    refine q_iald C hρ (j := 27) (N := 80) (List.mem_of_getElem? (i := 23) rfl) rfl rfl g8 dX9_bust_116 ?_
    obtain rfl := Option.some.inj h
    exact g_iret C hr rfl hz ⟨rfl, rfl, fun _ => rfl, fun _ => rfl⟩ ⟨rfl, rfl⟩ (fun j x h => by simp at h) dX9_bust_117
  · replace h := (if_neg c43).symm.trans h
    refine g_iconst (v := (0 : Int32)) C dX9_bust_46 (by decide) ?_
    obtain rfl := Option.some.inj h
    exact g_iret C hr rfl hz ⟨rfl, rfl, fun _ => rfl, fun _ => rfl⟩ ⟨rfl, rfl⟩ (fun j x h => by simp at h) dX9_bust_47
noncomputable def f_X9_bust  (w : Nat) (a : AS) (x1 : Int32) : Option (AS × Int32) := (f_X9_in w a x1 (0 : Int32) ((a 0 35) - (1 : Int32))).bind (fun v1 => (if v1 = (0 : Int32) then (b_X9_bust_36  w a x1 (1 : Int32)) else (bif ixB ((100 : Int32) + x1) 200 then (if (a 43 ((100 : Int32) + x1).toNatClampNeg) = (0 : Int32) then (b_X9_bust_36  w a x1 (0 : Int32)) else (b_X9_bust_36  w a x1 (2 : Int32))) else none)))
set_option maxHeartbeats 4000000 in
set_option maxRecDepth 100000 in
theorem lb_X9_bust_0 {p : Program} {l : Launch} {e : Env} {s : State} {m : MethodId} {args : Array Value} {below : List Frame} {meth : Method} {c : Code} {D : va_G} {E : Nat → ClassId} {sz : Nat} {M : Nat → Nat → Nat → Int32} {a0 : AS} {ρ : YR} {w : Nat} {r0 : AS × Int32} (C : cx p s m args meth c D E (Aof (mx M a0, ρ) [] s.heap.size) cX9_bust 3 "TradeLineModel") (hr : meth.sig.returnType = (some .int)) (hz : s.heap.size = sz) (hρ : rsh ρ) {a : AS} {x1 : Int32}   (h : f_X9_bust  w a x1 = some r0) : G p l e ({ frames := 4, cells := 0, slots := 0, locals := 97 } : Room) s m args below meth c D E (Aof (mx M a0, ρ) [] s.heap.size) 3 (MQ below (cQ D E sz (mx M a0, ρ) [] (pI (fun r u => r = r0.2 ∧ u = ((mx M r0.1, ρ), [])))) args s 0 0 (Aof (mx M a0, ρ) [] s.heap.size)) (mx M a, ρ) [] 0 0 0 [(0, .ref (ρ.2.2.2 40 0)), (1, .int x1)] [] := by
  unfold f_X9_bust at h
  refine g_aload_n C dX9_bust_0 rfl 0 rfl ?_
  refine g_iload_n C dX9_bust_1 rfl 1 rfl ?_
  refine g_iconst (v := (0 : Int32)) C dX9_bust_2 (by decide) ?_
  refine g_aload_n C dX9_bust_3 rfl 0 rfl ?_
  refine g_get (k := 40) (i := 0) (ref := "TradeLineModel") (v := .int (a 0 35)) C rfl (lvY0 hρ) rfl rfl inGX9 35 (by decide) gw_1364 (fun _ h => h) rfl dX9_bust_4 ?_
  refine g_iconst (v := (1 : Int32)) C dX9_bust_7 (by decide) ?_
  refine g_isub C dX9_bust_8 ?_
  obtain ⟨v1, hv1, h⟩ := bind_of h
  refine g_cSi (n := 3) (exc := []) (exr := []) C [_, _, _] _ rfl rfl [] [] rfl rfl rfl rfl (fun _ h => absurd h (by simp)) (fun _ h => absurd h (by simp)) (fun _ h => absurd h (by simp)) (fun sz => k_X9_in l M ρ hρ w _ _ _ _ _ hv1 D E sz) rfl gw_1507 gw_9 gw_1505 gw_1506 ⟨by decide +kernel, by decide +kernel, by decide +kernel⟩ ⟨rfl, rfl⟩ ⟨Nat.le_of_ble_eq_true rfl, Nat.le_of_ble_eq_true rfl⟩ (Nat.le_of_ble_eq_true rfl) dX9_bust_9 ⟨by decide, by decide⟩ (fun r u hp hx => ?_)
  obtain ⟨er, rfl⟩ := hp
  rw [er]
  try dsimp only [List.append_nil]
  refine g_if_ne (tgt := 19) C dX9_bust_12 (by decide) (fun c12 => ?_) (fun c12 => ?_)
  · replace h := (if_neg c12).symm.trans h
    refine g_aload_n C dX9_bust_19 rfl 0 rfl ?_
    refine g_get (k := 40) (i := 0) (ref := "TradeLineModel") (v := .ref (ρ.2.2.2 (40 + 43) 0)) C rfl (lvY0 hρ) rfl rfl inGX9 43 (by decide) gw_1372 (fun _ h => h) rfl dX9_bust_20 ?_
    refine g_bipush (v := (100 : Int32)) C dX9_bust_23 (by decide) ?_
    refine g_iload_n C dX9_bust_25 rfl 1 rfl ?_
    refine g_iadd C dX9_bust_26 ?_
    obtain ⟨g2, h⟩ := of_guard h
    refine q_zald C hρ (j := 43) (N := 200) (List.mem_of_getElem? (i := 37) rfl) rfl rfl g2 dX9_bust_27 ?_
    refine g_if_eq (tgt := 35) C dX9_bust_28 (by decide) (fun c28 => ?_) (fun c28 => ?_)
    · replace h := (if_pos c28).symm.trans h
      refine g_iconst (v := (0 : Int32)) C dX9_bust_35 (by decide) ?_
      refine g_lv [0, 1] rfl ?_
      exact lb_X9_bust_36 C hr hz hρ  h
    · replace h := (if_neg c28).symm.trans h
      refine g_iconst (v := (2 : Int32)) C dX9_bust_31 (by decide) ?_
      refine g_goto (tgt := 36) C dX9_bust_32 (by decide) ?_
      refine g_lv [0, 1] rfl ?_
      exact lb_X9_bust_36 C hr hz hρ  h
  · replace h := (if_pos c12).symm.trans h
    refine g_iconst (v := (1 : Int32)) C dX9_bust_15 (by decide) ?_
    refine g_goto (tgt := 36) C dX9_bust_16 (by decide) ?_
    refine g_lv [0, 1] rfl ?_
    exact lb_X9_bust_36 C hr hz hρ  h
theorem k_X9_bust (l : Launch) (M : Nat → Nat → Nat → Int32) (ρ : YR) (hρ : rsh ρ) (w : Nat) (a : AS) (x1 : Int32) (r0 : AS × Int32) (h : f_X9_bust w a x1 = some r0) : ∀ D E sz, Met l yX9_bust gwX9_bust ({ frames := 4, cells := 0, slots := 0, locals := 97 } : Room) (cP D E sz (mx M a, ρ) [] [.ref (ρ.2.2.2 40 0), .int x1]) (cQ D E sz (mx M a, ρ) [] (pI (fun r u => r = r0.2 ∧ u = ((mx M r0.1, ρ), [])))) (0) (0) (Aof (mx M a, ρ) [] sz) := by
  intro D E sz
  refine g_of (cc := cX9_bust) (maxL := 3) (ret := (some .int)) (own := "TradeLineModel") (by decide) rfl rfl (Nat.le_of_ble_eq_true rfl) ?_
  intro p e s m args below meth c C hr hin hz ha hwr
  refine g_lv [0, 1] rfl ?_
  exact lb_X9_bust_0 C hr hz hρ h
noncomputable def b_X9_correct_50  (w : Nat) (a : AS) (x1 x2 s0 : Int32) : Option (AS × Int32) := yl (up2 a 0 0 s0) (fun a4 => (if (a4 0 0) ≤ (0 : Int32) then (bif ixB ((100 : Int32) + x1) 200 then yl ((a4 41 ((100 : Int32) + x1).toNatClampNeg)) (fun t6 => yl (up2 a4 41 ((100 : Int32) + x1).toNatClampNeg x2) (fun a7 => bif ixB x1 100 then (f_X9_reports w a7 (6 : Int32) (a7 36 x1.toNatClampNeg) x1 x2).bind (fun v9 => some (v9.1, t6)) else none)) else none) else (some (a4, (0 : Int32)))))
set_option maxHeartbeats 4000000 in
set_option maxRecDepth 100000 in
theorem lb_X9_correct_50 {p : Program} {l : Launch} {e : Env} {s : State} {m : MethodId} {args : Array Value} {below : List Frame} {meth : Method} {c : Code} {D : va_G} {E : Nat → ClassId} {sz : Nat} {M : Nat → Nat → Nat → Int32} {a0 : AS} {ρ : YR} {w : Nat} {r0 : AS × Int32} (C : cx p s m args meth c D E (Aof (mx M a0, ρ) [] s.heap.size) cX9_correct 4 "TradeLineModel") (hr : meth.sig.returnType = (some .int)) (hz : s.heap.size = sz) (hρ : rsh ρ) {a : AS} {x1 x2 s0 : Int32}   (h : b_X9_correct_50  w a x1 x2 s0 = some r0) : G p l e ({ frames := 4, cells := 0, slots := 0, locals := 97 } : Room) s m args below meth c D E (Aof (mx M a0, ρ) [] s.heap.size) 4 (MQ below (cQ D E sz (mx M a0, ρ) [] (pI (fun r u => r = r0.2 ∧ u = ((mx M r0.1, ρ), [])))) args s 0 0 (Aof (mx M a0, ρ) [] s.heap.size)) (mx M a, ρ) [] 0 0 50 [(0, .ref (ρ.2.2.2 40 0)), (1, .int x1), (2, .int x2)] [.int s0, .ref (ρ.2.2.2 40 0)] := by
  unfold b_X9_correct_50 at h
  refine q_put C hρ (j := 0) (by decide) gw_1329 rfl rfl (tyX9_ok 0 (by decide)) rfl rfl (by simp [fvs, up1]) dX9_correct_50 (fun a4 ea4 => ?_)
  replace h := yl_of h ea4
  refine g_aload_n C dX9_correct_53 rfl 0 rfl ?_
  refine g_get (k := 40) (i := 0) (ref := "TradeLineModel") (v := .int (a4 0 0)) C rfl (lvY0 hρ) rfl rfl inGX9 0 (by decide) gw_1329 (fun _ h => h) rfl dX9_correct_54 ?_
  refine g_if_le (tgt := 62) C dX9_correct_57 (by decide) (fun c57 => ?_) (fun c57 => ?_)
  · replace h := (if_pos c57).symm.trans h
    refine g_aload_n C dX9_correct_62 rfl 0 rfl ?_
    refine g_get (k := 40) (i := 0) (ref := "TradeLineModel") (v := .ref (ρ.2.2.2 (40 + 41) 0)) C rfl (lvY0 hρ) rfl rfl inGX9 41 (by decide) gw_1370 (fun _ h => h) rfl dX9_correct_63 ?_
    refine g_bipush (v := (100 : Int32)) C dX9_correct_66 (by decide) ?_
    refine g_iload_n C dX9_correct_68 rfl 1 rfl ?_
    refine g_iadd C dX9_correct_69 ?_
    obtain ⟨g5, h⟩ := of_guard h
    refine q_iald C hρ (j := 41) (N := 200) (List.mem_of_getElem? (i := 35) rfl) rfl rfl g5 dX9_correct_70 ?_
    refine q_topi (fun t6 et6 => ?_)
    replace h := yl_of h et6
    refine g_istore_n (lv' := [(3, .int t6), (0, .ref (ρ.2.2.2 40 0)), (1, .int x1), (2, .int x2)]) C dX9_correct_71 rfl (by decide) rfl ?_
    refine g_aload_n C dX9_correct_72 rfl 1 rfl ?_
    refine g_get (k := 40) (i := 0) (ref := "TradeLineModel") (v := .ref (ρ.2.2.2 (40 + 41) 0)) C rfl (lvY0 hρ) rfl rfl inGX9 41 (by decide) gw_1370 (fun _ h => h) rfl dX9_correct_73 ?_
    refine g_bipush (v := (100 : Int32)) C dX9_correct_76 (by decide) ?_
    refine g_iload_n C dX9_correct_78 rfl 2 rfl ?_
    refine g_iadd C dX9_correct_79 ?_
    refine g_iload_n C dX9_correct_80 rfl 3 rfl ?_
    refine q_iast C hρ (j := 41) (N := 200) (List.mem_of_getElem? (i := 35) rfl) rfl rfl g5 dX9_correct_81 (fun a7 ea7 => ?_)
    replace h := yl_of h ea7
    refine g_aload_n C dX9_correct_82 rfl 1 rfl ?_
    refine g_bipush (v := (6 : Int32)) C dX9_correct_83 (by decide) ?_
    refine g_aload_n C dX9_correct_85 rfl 1 rfl ?_
    refine g_get (k := 40) (i := 0) (ref := "TradeLineModel") (v := .ref (ρ.2.2.2 (40 + 36) 0)) C rfl (lvY0 hρ) rfl rfl inGX9 36 (by decide) gw_1365 (fun _ h => h) rfl dX9_correct_86 ?_
    refine g_iload_n C dX9_correct_89 rfl 2 rfl ?_
    obtain ⟨g8, h⟩ := of_guard h
    refine q_iald C hρ (j := 36) (N := 100) (List.mem_of_getElem? (i := 30) rfl) rfl rfl g8 dX9_correct_90 ?_
    refine g_iload_n C dX9_correct_91 rfl 2 rfl ?_
    refine g_iload_n C dX9_correct_92 rfl 3 rfl ?_
    obtain ⟨v9, hv9, h⟩ := bind_of h
    refine g_cVv (n := 4) (exc := []) (exr := []) C [_, _, _, _] _ rfl rfl [] [] rfl rfl rfl rfl (fun _ h => absurd h (by simp)) (fun _ h => absurd h (by simp)) (fun _ h => absurd h (by simp)) (fun sz => k_X9_reports l M ρ hρ w _ _ _ _ _ _ hv9 D E sz) rfl gw_1547 gw_9 gw_1544 gw_1546 gs_55 ⟨by decide +kernel, by decide +kernel, by decide +kernel⟩ ⟨rfl, rfl⟩ ⟨Nat.le_of_ble_eq_true rfl, Nat.le_of_ble_eq_true rfl⟩ (rcvT (lvY0 hρ) rfl rfl rfl) (Nat.le_of_ble_eq_true rfl) dX9_correct_93 ⟨by decide, by decide⟩ (fun u hp hx => ?_)
    obtain rfl := hp
    try dsimp only [List.append_nil]
    refine g_iload_n C dX9_correct_96 rfl 0 rfl ?_
    obtain rfl := Option.some.inj h
    exact g_iret C hr rfl hz ⟨rfl, rfl, fun _ => rfl, fun _ => rfl⟩ ⟨rfl, rfl⟩ (fun j x h => by simp at h) dX9_correct_97
  · replace h := (if_neg c57).symm.trans h
    refine g_iconst (v := (0 : Int32)) C dX9_correct_60 (by decide) ?_
    obtain rfl := Option.some.inj h
    exact g_iret C hr rfl hz ⟨rfl, rfl, fun _ => rfl, fun _ => rfl⟩ ⟨rfl, rfl⟩ (fun j x h => by simp at h) dX9_correct_61
noncomputable def f_X9_correct  (w : Nat) (a : AS) (x1 x2 : Int32) : Option (AS × Int32) := (f_X9_in w a x1 (0 : Int32) ((a 0 35) - (1 : Int32))).bind (fun v1 => (if v1 = (0 : Int32) then (b_X9_correct_50  w a x1 x2 (1 : Int32)) else ((f_X9_in w a x2 (1 : Int32) (100 : Int32)).bind (fun v2 => (if v2 = (0 : Int32) then (b_X9_correct_50  w a x1 x2 (2 : Int32)) else (bif ixB ((100 : Int32) + x1) 200 then (if (a 43 ((100 : Int32) + x1).toNatClampNeg) = (0 : Int32) then (b_X9_correct_50  w a x1 x2 (0 : Int32)) else (b_X9_correct_50  w a x1 x2 (3 : Int32))) else none))))))
set_option maxHeartbeats 4000000 in
set_option maxRecDepth 100000 in
theorem lb_X9_correct_0 {p : Program} {l : Launch} {e : Env} {s : State} {m : MethodId} {args : Array Value} {below : List Frame} {meth : Method} {c : Code} {D : va_G} {E : Nat → ClassId} {sz : Nat} {M : Nat → Nat → Nat → Int32} {a0 : AS} {ρ : YR} {w : Nat} {r0 : AS × Int32} (C : cx p s m args meth c D E (Aof (mx M a0, ρ) [] s.heap.size) cX9_correct 4 "TradeLineModel") (hr : meth.sig.returnType = (some .int)) (hz : s.heap.size = sz) (hρ : rsh ρ) {a : AS} {x1 x2 : Int32}   (h : f_X9_correct  w a x1 x2 = some r0) : G p l e ({ frames := 4, cells := 0, slots := 0, locals := 97 } : Room) s m args below meth c D E (Aof (mx M a0, ρ) [] s.heap.size) 4 (MQ below (cQ D E sz (mx M a0, ρ) [] (pI (fun r u => r = r0.2 ∧ u = ((mx M r0.1, ρ), [])))) args s 0 0 (Aof (mx M a0, ρ) [] s.heap.size)) (mx M a, ρ) [] 0 0 0 [(0, .ref (ρ.2.2.2 40 0)), (1, .int x1), (2, .int x2)] [] := by
  unfold f_X9_correct at h
  refine g_aload_n C dX9_correct_0 rfl 0 rfl ?_
  refine g_iload_n C dX9_correct_1 rfl 1 rfl ?_
  refine g_iconst (v := (0 : Int32)) C dX9_correct_2 (by decide) ?_
  refine g_aload_n C dX9_correct_3 rfl 0 rfl ?_
  refine g_get (k := 40) (i := 0) (ref := "TradeLineModel") (v := .int (a 0 35)) C rfl (lvY0 hρ) rfl rfl inGX9 35 (by decide) gw_1364 (fun _ h => h) rfl dX9_correct_4 ?_
  refine g_iconst (v := (1 : Int32)) C dX9_correct_7 (by decide) ?_
  refine g_isub C dX9_correct_8 ?_
  obtain ⟨v1, hv1, h⟩ := bind_of h
  refine g_cSi (n := 3) (exc := []) (exr := []) C [_, _, _] _ rfl rfl [] [] rfl rfl rfl rfl (fun _ h => absurd h (by simp)) (fun _ h => absurd h (by simp)) (fun _ h => absurd h (by simp)) (fun sz => k_X9_in l M ρ hρ w _ _ _ _ _ hv1 D E sz) rfl gw_1507 gw_9 gw_1505 gw_1506 ⟨by decide +kernel, by decide +kernel, by decide +kernel⟩ ⟨rfl, rfl⟩ ⟨Nat.le_of_ble_eq_true rfl, Nat.le_of_ble_eq_true rfl⟩ (Nat.le_of_ble_eq_true rfl) dX9_correct_9 ⟨by decide, by decide⟩ (fun r u hp hx => ?_)
  obtain ⟨er, rfl⟩ := hp
  rw [er]
  try dsimp only [List.append_nil]
  refine g_if_ne (tgt := 19) C dX9_correct_12 (by decide) (fun c12 => ?_) (fun c12 => ?_)
  · replace h := (if_neg c12).symm.trans h
    refine g_iload_n C dX9_correct_19 rfl 2 rfl ?_
    refine g_iconst (v := (1 : Int32)) C dX9_correct_20 (by decide) ?_
    refine g_bipush (v := (100 : Int32)) C dX9_correct_21 (by decide) ?_
    obtain ⟨v2, hv2, h⟩ := bind_of h
    refine g_cSi (n := 3) (exc := []) (exr := []) C [_, _, _] _ rfl rfl [] [] rfl rfl rfl rfl (fun _ h => absurd h (by simp)) (fun _ h => absurd h (by simp)) (fun _ h => absurd h (by simp)) (fun sz => k_X9_in l M ρ hρ w _ _ _ _ _ hv2 D E sz) rfl gw_1507 gw_9 gw_1505 gw_1506 ⟨by decide +kernel, by decide +kernel, by decide +kernel⟩ ⟨rfl, rfl⟩ ⟨Nat.le_of_ble_eq_true rfl, Nat.le_of_ble_eq_true rfl⟩ (Nat.le_of_ble_eq_true rfl) dX9_correct_23 ⟨by decide, by decide⟩ (fun r u hp hx => ?_)
    obtain ⟨er, rfl⟩ := hp
    rw [er]
    try dsimp only [List.append_nil]
    refine g_if_ne (tgt := 33) C dX9_correct_26 (by decide) (fun c26 => ?_) (fun c26 => ?_)
    · replace h := (if_neg c26).symm.trans h
      refine g_aload_n C dX9_correct_33 rfl 0 rfl ?_
      refine g_get (k := 40) (i := 0) (ref := "TradeLineModel") (v := .ref (ρ.2.2.2 (40 + 43) 0)) C rfl (lvY0 hρ) rfl rfl inGX9 43 (by decide) gw_1372 (fun _ h => h) rfl dX9_correct_34 ?_
      refine g_bipush (v := (100 : Int32)) C dX9_correct_37 (by decide) ?_
      refine g_iload_n C dX9_correct_39 rfl 1 rfl ?_
      refine g_iadd C dX9_correct_40 ?_
      obtain ⟨g3, h⟩ := of_guard h
      refine q_zald C hρ (j := 43) (N := 200) (List.mem_of_getElem? (i := 37) rfl) rfl rfl g3 dX9_correct_41 ?_
      refine g_if_eq (tgt := 49) C dX9_correct_42 (by decide) (fun c42 => ?_) (fun c42 => ?_)
      · replace h := (if_pos c42).symm.trans h
        refine g_iconst (v := (0 : Int32)) C dX9_correct_49 (by decide) ?_
        refine g_lv [0, 1, 2] rfl ?_
        exact lb_X9_correct_50 C hr hz hρ  h
      · replace h := (if_neg c42).symm.trans h
        refine g_iconst (v := (3 : Int32)) C dX9_correct_45 (by decide) ?_
        refine g_goto (tgt := 50) C dX9_correct_46 (by decide) ?_
        refine g_lv [0, 1, 2] rfl ?_
        exact lb_X9_correct_50 C hr hz hρ  h
    · replace h := (if_pos c26).symm.trans h
      refine g_iconst (v := (2 : Int32)) C dX9_correct_29 (by decide) ?_
      refine g_goto (tgt := 50) C dX9_correct_30 (by decide) ?_
      refine g_lv [0, 1, 2] rfl ?_
      exact lb_X9_correct_50 C hr hz hρ  h
  · replace h := (if_pos c12).symm.trans h
    refine g_iconst (v := (1 : Int32)) C dX9_correct_15 (by decide) ?_
    refine g_goto (tgt := 50) C dX9_correct_16 (by decide) ?_
    refine g_lv [0, 1, 2] rfl ?_
    exact lb_X9_correct_50 C hr hz hρ  h
theorem k_X9_correct (l : Launch) (M : Nat → Nat → Nat → Int32) (ρ : YR) (hρ : rsh ρ) (w : Nat) (a : AS) (x1 x2 : Int32) (r0 : AS × Int32) (h : f_X9_correct w a x1 x2 = some r0) : ∀ D E sz, Met l yX9_correct gwX9_correct ({ frames := 4, cells := 0, slots := 0, locals := 97 } : Room) (cP D E sz (mx M a, ρ) [] [.ref (ρ.2.2.2 40 0), .int x1, .int x2]) (cQ D E sz (mx M a, ρ) [] (pI (fun r u => r = r0.2 ∧ u = ((mx M r0.1, ρ), [])))) (0) (0) (Aof (mx M a, ρ) [] sz) := by
  intro D E sz
  refine g_of (cc := cX9_correct) (maxL := 4) (ret := (some .int)) (own := "TradeLineModel") (by decide) rfl rfl (Nat.le_of_ble_eq_true rfl) ?_
  intro p e s m args below meth c C hr hin hz ha hwr
  refine g_lv [0, 1, 2] rfl ?_
  exact lb_X9_correct_0 C hr hz hρ h
noncomputable def f_X9_executions  (w : Nat) (a : AS) : Option (AS × Int32) := yl (up2 a 0 0 (0 : Int32)) (fun a1 => some (a1, (a1 0 35)))
set_option maxHeartbeats 4000000 in
set_option maxRecDepth 100000 in
theorem lb_X9_executions_0 {p : Program} {l : Launch} {e : Env} {s : State} {m : MethodId} {args : Array Value} {below : List Frame} {meth : Method} {c : Code} {D : va_G} {E : Nat → ClassId} {sz : Nat} {M : Nat → Nat → Nat → Int32} {a0 : AS} {ρ : YR} {w : Nat} {r0 : AS × Int32} (C : cx p s m args meth c D E (Aof (mx M a0, ρ) [] s.heap.size) cX9_executions 1 "TradeLineModel") (hr : meth.sig.returnType = (some .int)) (hz : s.heap.size = sz) (hρ : rsh ρ) {a : AS}   (h : f_X9_executions  w a  = some r0) : G p l e ({ frames := 0, cells := 0, slots := 0, locals := 0 } : Room) s m args below meth c D E (Aof (mx M a0, ρ) [] s.heap.size) 1 (MQ below (cQ D E sz (mx M a0, ρ) [] (pI (fun r u => r = r0.2 ∧ u = ((mx M r0.1, ρ), [])))) args s 0 0 (Aof (mx M a0, ρ) [] s.heap.size)) (mx M a, ρ) [] 0 0 0 [(0, .ref (ρ.2.2.2 40 0))] [] := by
  unfold f_X9_executions at h
  refine g_aload_n C dX9_executions_0 rfl 0 rfl ?_
  refine g_iconst (v := (0 : Int32)) C dX9_executions_1 (by decide) ?_
  refine q_put C hρ (j := 0) (by decide) gw_1329 rfl rfl (tyX9_ok 0 (by decide)) rfl rfl (by simp [fvs, up1]) dX9_executions_2 (fun a1 ea1 => ?_)
  replace h := yl_of h ea1
  refine g_aload_n C dX9_executions_5 rfl 0 rfl ?_
  refine g_get (k := 40) (i := 0) (ref := "TradeLineModel") (v := .int (a1 0 35)) C rfl (lvY0 hρ) rfl rfl inGX9 35 (by decide) gw_1364 (fun _ h => h) rfl dX9_executions_6 ?_
  obtain rfl := Option.some.inj h
  exact g_iret C hr rfl hz ⟨rfl, rfl, fun _ => rfl, fun _ => rfl⟩ ⟨rfl, rfl⟩ (fun j x h => by simp at h) dX9_executions_9
theorem k_X9_executions (l : Launch) (M : Nat → Nat → Nat → Int32) (ρ : YR) (hρ : rsh ρ) (w : Nat) (a : AS) (r0 : AS × Int32) (h : f_X9_executions w a  = some r0) : ∀ D E sz, Met l yX9_executions gwX9_executions ({ frames := 0, cells := 0, slots := 0, locals := 0 } : Room) (cP D E sz (mx M a, ρ) [] [.ref (ρ.2.2.2 40 0)]) (cQ D E sz (mx M a, ρ) [] (pI (fun r u => r = r0.2 ∧ u = ((mx M r0.1, ρ), [])))) (0) (0) (Aof (mx M a, ρ) [] sz) := by
  intro D E sz
  refine g_of (cc := cX9_executions) (maxL := 1) (ret := (some .int)) (own := "TradeLineModel") (by decide) rfl rfl (Nat.le_of_ble_eq_true rfl) ?_
  intro p e s m args below meth c C hr hin hz ha hwr
  refine g_lv [0] rfl ?_
  exact lb_X9_executions_0 C hr hz hρ h
noncomputable def f_X9_endDay  (w : Nat) (a : AS) : Option (AS × Int32) := yl (up2 a 0 0 (0 : Int32)) (fun a1 => yl (up2 a1 0 44 ((a1 0 44) + (1 : Int32))) (fun a2 => some (a2, (a2 0 44))))
set_option maxHeartbeats 4000000 in
set_option maxRecDepth 100000 in
theorem lb_X9_endDay_0 {p : Program} {l : Launch} {e : Env} {s : State} {m : MethodId} {args : Array Value} {below : List Frame} {meth : Method} {c : Code} {D : va_G} {E : Nat → ClassId} {sz : Nat} {M : Nat → Nat → Nat → Int32} {a0 : AS} {ρ : YR} {w : Nat} {r0 : AS × Int32} (C : cx p s m args meth c D E (Aof (mx M a0, ρ) [] s.heap.size) cX9_endDay 1 "TradeLineModel") (hr : meth.sig.returnType = (some .int)) (hz : s.heap.size = sz) (hρ : rsh ρ) {a : AS}   (h : f_X9_endDay  w a  = some r0) : G p l e ({ frames := 0, cells := 0, slots := 0, locals := 0 } : Room) s m args below meth c D E (Aof (mx M a0, ρ) [] s.heap.size) 1 (MQ below (cQ D E sz (mx M a0, ρ) [] (pI (fun r u => r = r0.2 ∧ u = ((mx M r0.1, ρ), [])))) args s 0 0 (Aof (mx M a0, ρ) [] s.heap.size)) (mx M a, ρ) [] 0 0 0 [(0, .ref (ρ.2.2.2 40 0))] [] := by
  unfold f_X9_endDay at h
  refine g_aload_n C dX9_endDay_0 rfl 0 rfl ?_
  refine g_iconst (v := (0 : Int32)) C dX9_endDay_1 (by decide) ?_
  refine q_put C hρ (j := 0) (by decide) gw_1329 rfl rfl (tyX9_ok 0 (by decide)) rfl rfl (by simp [fvs, up1]) dX9_endDay_2 (fun a1 ea1 => ?_)
  replace h := yl_of h ea1
  refine g_aload_n C dX9_endDay_5 rfl 0 rfl ?_
  refine g_dup C dX9_endDay_6 rfl ?_
  refine g_get (k := 40) (i := 0) (ref := "TradeLineModel") (v := .int (a1 0 44)) C rfl (lvY0 hρ) rfl rfl inGX9 44 (by decide) gw_1373 (fun _ h => h) rfl dX9_endDay_7 ?_
  refine g_iconst (v := (1 : Int32)) C dX9_endDay_10 (by decide) ?_
  refine g_iadd C dX9_endDay_11 ?_
  refine q_put C hρ (j := 44) (by decide) gw_1373 rfl rfl (tyX9_ok 44 (by decide)) rfl rfl (by simp [fvs, up1]) dX9_endDay_12 (fun a2 ea2 => ?_)
  replace h := yl_of h ea2
  refine g_aload_n C dX9_endDay_15 rfl 0 rfl ?_
  refine g_get (k := 40) (i := 0) (ref := "TradeLineModel") (v := .int (a2 0 44)) C rfl (lvY0 hρ) rfl rfl inGX9 44 (by decide) gw_1373 (fun _ h => h) rfl dX9_endDay_16 ?_
  obtain rfl := Option.some.inj h
  exact g_iret C hr rfl hz ⟨rfl, rfl, fun _ => rfl, fun _ => rfl⟩ ⟨rfl, rfl⟩ (fun j x h => by simp at h) dX9_endDay_19
theorem k_X9_endDay (l : Launch) (M : Nat → Nat → Nat → Int32) (ρ : YR) (hρ : rsh ρ) (w : Nat) (a : AS) (r0 : AS × Int32) (h : f_X9_endDay w a  = some r0) : ∀ D E sz, Met l yX9_endDay gwX9_endDay ({ frames := 0, cells := 0, slots := 0, locals := 0 } : Room) (cP D E sz (mx M a, ρ) [] [.ref (ρ.2.2.2 40 0)]) (cQ D E sz (mx M a, ρ) [] (pI (fun r u => r = r0.2 ∧ u = ((mx M r0.1, ρ), [])))) (0) (0) (Aof (mx M a, ρ) [] sz) := by
  intro D E sz
  refine g_of (cc := cX9_endDay) (maxL := 1) (ret := (some .int)) (own := "TradeLineModel") (by decide) rfl rfl (Nat.le_of_ble_eq_true rfl) ?_
  intro p e s m args below meth c C hr hin hz ha hwr
  refine g_lv [0] rfl ?_
  exact lb_X9_endDay_0 C hr hz hρ h
noncomputable def f_X9_orders  (w : Nat) (a : AS) : Option (AS × Int32) := yl (up2 a 0 0 (0 : Int32)) (fun a1 => some (a1, (a1 0 22)))
set_option maxHeartbeats 4000000 in
set_option maxRecDepth 100000 in
theorem lb_X9_orders_0 {p : Program} {l : Launch} {e : Env} {s : State} {m : MethodId} {args : Array Value} {below : List Frame} {meth : Method} {c : Code} {D : va_G} {E : Nat → ClassId} {sz : Nat} {M : Nat → Nat → Nat → Int32} {a0 : AS} {ρ : YR} {w : Nat} {r0 : AS × Int32} (C : cx p s m args meth c D E (Aof (mx M a0, ρ) [] s.heap.size) cX9_orders 1 "TradeLineModel") (hr : meth.sig.returnType = (some .int)) (hz : s.heap.size = sz) (hρ : rsh ρ) {a : AS}   (h : f_X9_orders  w a  = some r0) : G p l e ({ frames := 0, cells := 0, slots := 0, locals := 0 } : Room) s m args below meth c D E (Aof (mx M a0, ρ) [] s.heap.size) 1 (MQ below (cQ D E sz (mx M a0, ρ) [] (pI (fun r u => r = r0.2 ∧ u = ((mx M r0.1, ρ), [])))) args s 0 0 (Aof (mx M a0, ρ) [] s.heap.size)) (mx M a, ρ) [] 0 0 0 [(0, .ref (ρ.2.2.2 40 0))] [] := by
  unfold f_X9_orders at h
  refine g_aload_n C dX9_orders_0 rfl 0 rfl ?_
  refine g_iconst (v := (0 : Int32)) C dX9_orders_1 (by decide) ?_
  refine q_put C hρ (j := 0) (by decide) gw_1329 rfl rfl (tyX9_ok 0 (by decide)) rfl rfl (by simp [fvs, up1]) dX9_orders_2 (fun a1 ea1 => ?_)
  replace h := yl_of h ea1
  refine g_aload_n C dX9_orders_5 rfl 0 rfl ?_
  refine g_get (k := 40) (i := 0) (ref := "TradeLineModel") (v := .int (a1 0 22)) C rfl (lvY0 hρ) rfl rfl inGX9 22 (by decide) gw_1351 (fun _ h => h) rfl dX9_orders_6 ?_
  obtain rfl := Option.some.inj h
  exact g_iret C hr rfl hz ⟨rfl, rfl, fun _ => rfl, fun _ => rfl⟩ ⟨rfl, rfl⟩ (fun j x h => by simp at h) dX9_orders_9
theorem k_X9_orders (l : Launch) (M : Nat → Nat → Nat → Int32) (ρ : YR) (hρ : rsh ρ) (w : Nat) (a : AS) (r0 : AS × Int32) (h : f_X9_orders w a  = some r0) : ∀ D E sz, Met l yX9_orders gwX9_orders ({ frames := 0, cells := 0, slots := 0, locals := 0 } : Room) (cP D E sz (mx M a, ρ) [] [.ref (ρ.2.2.2 40 0)]) (cQ D E sz (mx M a, ρ) [] (pI (fun r u => r = r0.2 ∧ u = ((mx M r0.1, ρ), [])))) (0) (0) (Aof (mx M a, ρ) [] sz) := by
  intro D E sz
  refine g_of (cc := cX9_orders) (maxL := 1) (ret := (some .int)) (own := "TradeLineModel") (by decide) rfl rfl (Nat.le_of_ble_eq_true rfl) ?_
  intro p e s m args below meth c C hr hin hz ha hwr
  refine g_lv [0] rfl ?_
  exact lb_X9_orders_0 C hr hz hρ h
noncomputable def b_X9_asksBook_21  (w : Nat) (a : AS) (s0 : Int32) : Option (AS × Int32) := yl (up2 a 0 0 s0) (fun a2 => (if (a2 0 0) = (0 : Int32) then (some (a2, (1 : Int32))) else (some (a2, (0 : Int32)))))
set_option maxHeartbeats 4000000 in
set_option maxRecDepth 100000 in
theorem lb_X9_asksBook_21 {p : Program} {l : Launch} {e : Env} {s : State} {m : MethodId} {args : Array Value} {below : List Frame} {meth : Method} {c : Code} {D : va_G} {E : Nat → ClassId} {sz : Nat} {M : Nat → Nat → Nat → Int32} {a0 : AS} {ρ : YR} {w : Nat} {r0 : AS × Int32} (C : cx p s m args meth c D E (Aof (mx M a0, ρ) [] s.heap.size) cX9_asksBook 3 "TradeLineModel") (hr : meth.sig.returnType = (some .boolean)) (hz : s.heap.size = sz) (hρ : rsh ρ) {a : AS} {s0 : Int32}   (h : b_X9_asksBook_21  w a s0 = some r0) : G p l e ({ frames := 2, cells := 0, slots := 0, locals := 43 } : Room) s m args below meth c D E (Aof (mx M a0, ρ) [] s.heap.size) 3 (MQ below (cQ D E sz (mx M a0, ρ) [] (pI (fun r u => r = r0.2 ∧ u = ((mx M r0.1, ρ), [])))) args s 0 0 (Aof (mx M a0, ρ) [] s.heap.size)) (mx M a, ρ) [] 0 0 21 [(0, .ref (ρ.2.2.2 40 0))] [.int s0, .ref (ρ.2.2.2 40 0)] := by
  unfold b_X9_asksBook_21 at h
  refine q_put C hρ (j := 0) (by decide) gw_1329 rfl rfl (tyX9_ok 0 (by decide)) rfl rfl (by simp [fvs, up1]) dX9_asksBook_21 (fun a2 ea2 => ?_)
  replace h := yl_of h ea2
  refine g_aload_n C dX9_asksBook_24 rfl 0 rfl ?_
  refine g_get (k := 40) (i := 0) (ref := "TradeLineModel") (v := .int (a2 0 0)) C rfl (lvY0 hρ) rfl rfl inGX9 0 (by decide) gw_1329 (fun _ h => h) rfl dX9_asksBook_25 ?_
  refine g_if_ne (tgt := 35) C dX9_asksBook_28 (by decide) (fun c28 => ?_) (fun c28 => ?_)
  · replace h := (if_neg c28).symm.trans h
    refine g_iconst (v := (0 : Int32)) C dX9_asksBook_35 (by decide) ?_
    obtain rfl := Option.some.inj h
    exact g_iret C hr rfl hz ⟨rfl, rfl, fun _ => rfl, fun _ => rfl⟩ ⟨rfl, rfl⟩ (fun j x h => by simp at h) dX9_asksBook_36
  · replace h := (if_pos c28).symm.trans h
    refine g_iconst (v := (1 : Int32)) C dX9_asksBook_31 (by decide) ?_
    refine g_goto (tgt := 36) C dX9_asksBook_32 (by decide) ?_
    obtain rfl := Option.some.inj h
    exact g_iret C hr rfl hz ⟨rfl, rfl, fun _ => rfl, fun _ => rfl⟩ ⟨rfl, rfl⟩ (fun j x h => by simp at h) dX9_asksBook_36
noncomputable def b_X9_asksBook_20  (w : Nat) (a : AS) : Option (AS × Int32) := b_X9_asksBook_21  w a (1 : Int32)
set_option maxHeartbeats 4000000 in
set_option maxRecDepth 100000 in
theorem lb_X9_asksBook_20 {p : Program} {l : Launch} {e : Env} {s : State} {m : MethodId} {args : Array Value} {below : List Frame} {meth : Method} {c : Code} {D : va_G} {E : Nat → ClassId} {sz : Nat} {M : Nat → Nat → Nat → Int32} {a0 : AS} {ρ : YR} {w : Nat} {r0 : AS × Int32} (C : cx p s m args meth c D E (Aof (mx M a0, ρ) [] s.heap.size) cX9_asksBook 3 "TradeLineModel") (hr : meth.sig.returnType = (some .boolean)) (hz : s.heap.size = sz) (hρ : rsh ρ) {a : AS}   (h : b_X9_asksBook_20  w a  = some r0) : G p l e ({ frames := 2, cells := 0, slots := 0, locals := 43 } : Room) s m args below meth c D E (Aof (mx M a0, ρ) [] s.heap.size) 3 (MQ below (cQ D E sz (mx M a0, ρ) [] (pI (fun r u => r = r0.2 ∧ u = ((mx M r0.1, ρ), [])))) args s 0 0 (Aof (mx M a0, ρ) [] s.heap.size)) (mx M a, ρ) [] 0 0 20 [(0, .ref (ρ.2.2.2 40 0))] [.ref (ρ.2.2.2 40 0)] := by
  unfold b_X9_asksBook_20 at h
  refine g_iconst (v := (1 : Int32)) C dX9_asksBook_20 (by decide) ?_
  refine g_lv [0] rfl ?_
  exact lb_X9_asksBook_21 C hr hz hρ  h
noncomputable def f_X9_asksBook  (w : Nat) (a : AS) (x1 x2 : Int32) : Option (AS × Int32) := (f_X9_isSide w a x1).bind (fun v1 => (if v1 = (0 : Int32) then (b_X9_asksBook_20  w a ) else ((f_X9_isOrder w a x2).bind (fun v3 => (if v3 = (0 : Int32) then (b_X9_asksBook_20  w a ) else (b_X9_asksBook_21  w a (0 : Int32)))))))
set_option maxHeartbeats 4000000 in
set_option maxRecDepth 100000 in
theorem lb_X9_asksBook_0 {p : Program} {l : Launch} {e : Env} {s : State} {m : MethodId} {args : Array Value} {below : List Frame} {meth : Method} {c : Code} {D : va_G} {E : Nat → ClassId} {sz : Nat} {M : Nat → Nat → Nat → Int32} {a0 : AS} {ρ : YR} {w : Nat} {r0 : AS × Int32} (C : cx p s m args meth c D E (Aof (mx M a0, ρ) [] s.heap.size) cX9_asksBook 3 "TradeLineModel") (hr : meth.sig.returnType = (some .boolean)) (hz : s.heap.size = sz) (hρ : rsh ρ) {a : AS} {x1 x2 : Int32}   (h : f_X9_asksBook  w a x1 x2 = some r0) : G p l e ({ frames := 2, cells := 0, slots := 0, locals := 43 } : Room) s m args below meth c D E (Aof (mx M a0, ρ) [] s.heap.size) 3 (MQ below (cQ D E sz (mx M a0, ρ) [] (pI (fun r u => r = r0.2 ∧ u = ((mx M r0.1, ρ), [])))) args s 0 0 (Aof (mx M a0, ρ) [] s.heap.size)) (mx M a, ρ) [] 0 0 0 [(0, .ref (ρ.2.2.2 40 0)), (1, .int x1), (2, .int x2)] [] := by
  unfold f_X9_asksBook at h
  refine g_aload_n C dX9_asksBook_0 rfl 0 rfl ?_
  refine g_iload_n C dX9_asksBook_1 rfl 1 rfl ?_
  obtain ⟨v1, hv1, h⟩ := bind_of h
  refine g_cSi (n := 1) (exc := []) (exr := []) C [_] _ rfl rfl [] [] rfl rfl rfl rfl (fun _ h => absurd h (by simp)) (fun _ h => absurd h (by simp)) (fun _ h => absurd h (by simp)) (fun sz => k_X9_isSide l M ρ hρ w _ _ _ hv1 D E sz) rfl gw_1504 gw_9 gw_1502 gw_1503 ⟨by decide +kernel, by decide +kernel, by decide +kernel⟩ ⟨rfl, rfl⟩ ⟨Nat.le_of_ble_eq_true rfl, Nat.le_of_ble_eq_true rfl⟩ (Nat.le_of_ble_eq_true rfl) dX9_asksBook_2 ⟨by decide, by decide⟩ (fun r u hp hx => ?_)
  obtain ⟨er, rfl⟩ := hp
  rw [er]
  try dsimp only [List.append_nil]
  refine g_if_eq (tgt := 20) C dX9_asksBook_5 (by decide) (fun c5 => ?_) (fun c5 => ?_)
  · replace h := (if_pos c5).symm.trans h
    refine g_lv [0] rfl ?_
    exact lb_X9_asksBook_20 C hr hz hρ  h
  · replace h := (if_neg c5).symm.trans h
    refine g_aload_n C dX9_asksBook_8 rfl 0 rfl ?_
    refine g_iload_n C dX9_asksBook_9 rfl 2 rfl ?_
    obtain ⟨v3, hv3, h⟩ := bind_of h
    refine g_cVi (n := 1) (exc := []) (exr := []) C [_] _ rfl rfl [] [] rfl rfl rfl rfl (fun _ h => absurd h (by simp)) (fun _ h => absurd h (by simp)) (fun _ h => absurd h (by simp)) (fun sz => k_X9_isOrder l M ρ hρ w _ _ _ hv3 D E sz) rfl gw_1675 gw_9 gw_1672 gw_1674 gs_74 ⟨by decide +kernel, by decide +kernel, by decide +kernel⟩ ⟨rfl, rfl⟩ ⟨Nat.le_of_ble_eq_true rfl, Nat.le_of_ble_eq_true rfl⟩ (rcvT (lvY0 hρ) rfl rfl rfl) (Nat.le_of_ble_eq_true rfl) dX9_asksBook_10 ⟨by decide, by decide⟩ (fun r u hp hx => ?_)
    obtain ⟨er, rfl⟩ := hp
    rw [er]
    try dsimp only [List.append_nil]
    refine g_if_eq (tgt := 20) C dX9_asksBook_13 (by decide) (fun c13 => ?_) (fun c13 => ?_)
    · replace h := (if_pos c13).symm.trans h
      refine g_lv [0] rfl ?_
      exact lb_X9_asksBook_20 C hr hz hρ  h
    · replace h := (if_neg c13).symm.trans h
      refine g_iconst (v := (0 : Int32)) C dX9_asksBook_16 (by decide) ?_
      refine g_goto (tgt := 21) C dX9_asksBook_17 (by decide) ?_
      refine g_lv [0] rfl ?_
      exact lb_X9_asksBook_21 C hr hz hρ  h
theorem k_X9_asksBook (l : Launch) (M : Nat → Nat → Nat → Int32) (ρ : YR) (hρ : rsh ρ) (w : Nat) (a : AS) (x1 x2 : Int32) (r0 : AS × Int32) (h : f_X9_asksBook w a x1 x2 = some r0) : ∀ D E sz, Met l yX9_asksBook gwX9_asksBook ({ frames := 2, cells := 0, slots := 0, locals := 43 } : Room) (cP D E sz (mx M a, ρ) [] [.ref (ρ.2.2.2 40 0), .int x1, .int x2]) (cQ D E sz (mx M a, ρ) [] (pI (fun r u => r = r0.2 ∧ u = ((mx M r0.1, ρ), [])))) (0) (0) (Aof (mx M a, ρ) [] sz) := by
  intro D E sz
  refine g_of (cc := cX9_asksBook) (maxL := 3) (ret := (some .boolean)) (own := "TradeLineModel") (by decide) rfl rfl (Nat.le_of_ble_eq_true rfl) ?_
  intro p e s m args below meth c C hr hin hz ha hwr
  refine g_lv [0, 1, 2] rfl ?_
  exact lb_X9_asksBook_0 C hr hz hρ h
noncomputable def f_X9_isNone  (w : Nat) (a : AS) (x1 x2 : Int32) : Option (Int32) := (if x1 = (1 : Int32) then (bif ixB ((40 : Int32) + x2) 80 then (if (a 24 ((40 : Int32) + x2).toNatClampNeg) = (0 : Int32) then (some (1 : Int32)) else (some (0 : Int32))) else none) else (some (0 : Int32)))
set_option maxHeartbeats 4000000 in
set_option maxRecDepth 100000 in
theorem lb_X9_isNone_0 {p : Program} {l : Launch} {e : Env} {s : State} {m : MethodId} {args : Array Value} {below : List Frame} {meth : Method} {c : Code} {D : va_G} {E : Nat → ClassId} {sz : Nat} {M : Nat → Nat → Nat → Int32} {a : AS} {ρ : YR} {w : Nat} {r0 : Int32} (C : cx p s m args meth c D E (Aof (mx M a, ρ) [] s.heap.size) cX9_isNone 3 "TradeLineModel") (hr : meth.sig.returnType = (some .boolean)) (hz : s.heap.size = sz) (hρ : rsh ρ) {x1 x2 : Int32}   (h : f_X9_isNone  w a x1 x2 = some r0) : G p l e ({ frames := 0, cells := 0, slots := 0, locals := 0 } : Room) s m args below meth c D E (Aof (mx M a, ρ) [] s.heap.size) 3 (MQ below (cQ D E sz (mx M a, ρ) [] (pI (fun r u => r = r0 ∧ u = ((mx M a, ρ), [])))) args s 0 0 (Aof (mx M a, ρ) [] s.heap.size)) (mx M a, ρ) [] 0 0 0 [(0, .ref (ρ.2.2.2 40 0)), (1, .int x1), (2, .int x2)] [] := by
  unfold f_X9_isNone at h
  refine g_iload_n C dX9_isNone_0 rfl 1 rfl ?_
  refine g_iconst (v := (1 : Int32)) C dX9_isNone_1 (by decide) ?_
  refine g_icmp_ne (tgt := 21) C dX9_isNone_2 (by decide) (fun c2 => ?_) (fun c2 => ?_)
  · replace h := (if_neg c2).symm.trans h
    refine g_iconst (v := (0 : Int32)) C dX9_isNone_21 (by decide) ?_
    exact g_iret C hr rfl hz ⟨rfl, rfl, fun _ => rfl, fun _ => rfl⟩ ⟨Option.some.inj h, rfl⟩ (fun j x h => by simp at h) dX9_isNone_22
  · replace h := (if_pos c2).symm.trans h
    refine g_aload_n C dX9_isNone_5 rfl 0 rfl ?_
    refine g_get (k := 40) (i := 0) (ref := "TradeLineModel") (v := .ref (ρ.2.2.2 (40 + 24) 0)) C rfl (lvY0 hρ) rfl rfl inGX9 24 (by decide) gw_1353 (fun _ h => h) rfl dX9_isNone_6 ?_
    refine g_bipush (v := (40 : Int32)) C dX9_isNone_9 (by decide) ?_
    refine g_iload_n C dX9_isNone_11 rfl 2 rfl ?_
    refine g_iadd C dX9_isNone_12 ?_
    obtain ⟨g1, h⟩ := of_guard h
    refine q_zald C hρ (j := 24) (N := 80) (List.mem_of_getElem? (i := 20) rfl) rfl rfl g1 dX9_isNone_13 ?_
    refine g_if_ne (tgt := 21) C dX9_isNone_14 (by decide) (fun c14 => ?_) (fun c14 => ?_)
    · replace h := (if_neg c14).symm.trans h
      refine g_iconst (v := (0 : Int32)) C dX9_isNone_21 (by decide) ?_
      exact g_iret C hr rfl hz ⟨rfl, rfl, fun _ => rfl, fun _ => rfl⟩ ⟨Option.some.inj h, rfl⟩ (fun j x h => by simp at h) dX9_isNone_22
    · replace h := (if_pos c14).symm.trans h
      refine g_iconst (v := (1 : Int32)) C dX9_isNone_17 (by decide) ?_
      refine g_goto (tgt := 22) C dX9_isNone_18 (by decide) ?_
      exact g_iret C hr rfl hz ⟨rfl, rfl, fun _ => rfl, fun _ => rfl⟩ ⟨Option.some.inj h, rfl⟩ (fun j x h => by simp at h) dX9_isNone_22
theorem k_X9_isNone (l : Launch) (M : Nat → Nat → Nat → Int32) (ρ : YR) (hρ : rsh ρ) (w : Nat) (a : AS) (x1 x2 : Int32) (r0 : Int32) (h : f_X9_isNone w a x1 x2 = some r0) : ∀ D E sz, Met l yX9_isNone gwX9_isNone ({ frames := 0, cells := 0, slots := 0, locals := 0 } : Room) (cP D E sz (mx M a, ρ) [] [.ref (ρ.2.2.2 40 0), .int x1, .int x2]) (cQ D E sz (mx M a, ρ) [] (pI (fun r u => r = r0 ∧ u = ((mx M a, ρ), [])))) (0) (0) (Aof (mx M a, ρ) [] sz) := by
  intro D E sz
  refine g_of (cc := cX9_isNone) (maxL := 3) (ret := (some .boolean)) (own := "TradeLineModel") (by decide) rfl rfl (Nat.le_of_ble_eq_true rfl) ?_
  intro p e s m args below meth c C hr hin hz ha hwr
  refine g_lv [0, 1, 2] rfl ?_
  exact lb_X9_isNone_0 C hr hz hρ h
noncomputable def b_X9_leftOf_29  (w : Nat) (a : AS) (x1 x2 : Int32) : Option (Int32) := (f_X9_leftIn w a (((40 : Int32) * x1) + x2)).bind (fun v2 => some v2)
set_option maxHeartbeats 4000000 in
set_option maxRecDepth 100000 in
theorem lb_X9_leftOf_29 {p : Program} {l : Launch} {e : Env} {s : State} {m : MethodId} {args : Array Value} {below : List Frame} {meth : Method} {c : Code} {D : va_G} {E : Nat → ClassId} {sz : Nat} {M : Nat → Nat → Nat → Int32} {a : AS} {ρ : YR} {w : Nat} {r0 : Int32} (C : cx p s m args meth c D E (Aof (mx M a, ρ) [] s.heap.size) cX9_leftOf 3 "TradeLineModel") (hr : meth.sig.returnType = (some .int)) (hz : s.heap.size = sz) (hρ : rsh ρ) {x1 x2 : Int32}   (h : b_X9_leftOf_29  w a x1 x2 = some r0) : G p l e ({ frames := 1, cells := 0, slots := 0, locals := 22 } : Room) s m args below meth c D E (Aof (mx M a, ρ) [] s.heap.size) 3 (MQ below (cQ D E sz (mx M a, ρ) [] (pI (fun r u => r = r0 ∧ u = ((mx M a, ρ), [])))) args s 0 0 (Aof (mx M a, ρ) [] s.heap.size)) (mx M a, ρ) [] 0 0 29 [(0, .ref (ρ.2.2.2 40 0)), (1, .int x1), (2, .int x2)] [] := by
  unfold b_X9_leftOf_29 at h
  refine g_aload_n C dX9_leftOf_29 rfl 0 rfl ?_
  refine g_bipush (v := (40 : Int32)) C dX9_leftOf_30 (by decide) ?_
  refine g_iload_n C dX9_leftOf_32 rfl 1 rfl ?_
  refine g_imul C dX9_leftOf_33 ?_
  refine g_iload_n C dX9_leftOf_34 rfl 2 rfl ?_
  refine g_iadd C dX9_leftOf_35 ?_
  obtain ⟨v2, hv2, h⟩ := bind_of h
  refine g_cVi (n := 1) (exc := []) (exr := []) C [_] _ rfl rfl [] [] rfl rfl rfl rfl (fun _ h => absurd h (by simp)) (fun _ h => absurd h (by simp)) (fun _ h => absurd h (by simp)) (fun sz => k_X9_leftIn l M ρ hρ w _ _ _ hv2 D E sz) rfl gw_1563 gw_9 gw_1560 gw_1562 gs_59 ⟨by decide +kernel, by decide +kernel, by decide +kernel⟩ ⟨rfl, rfl⟩ ⟨Nat.le_of_ble_eq_true rfl, Nat.le_of_ble_eq_true rfl⟩ (rcvT (lvY0 hρ) rfl rfl rfl) (Nat.le_of_ble_eq_true rfl) dX9_leftOf_36 ⟨by decide, by decide⟩ (fun r u hp hx => ?_)
  obtain ⟨er, rfl⟩ := hp
  rw [er]
  try dsimp only [List.append_nil]
  exact g_iret C hr rfl hz ⟨rfl, rfl, fun _ => rfl, fun _ => rfl⟩ ⟨Option.some.inj h, rfl⟩ (fun j x h => by simp at h) dX9_leftOf_39
noncomputable def f_X9_leftOf  (w : Nat) (a : AS) (x1 x2 : Int32) : Option (Int32) := (f_X9_isNone w a x1 x2).bind (fun v1 => (if v1 = (0 : Int32) then ((if x1 = (0 : Int32) then ((f_X9_isPending w a x2).bind (fun v3 => (if v3 = (0 : Int32) then (b_X9_leftOf_29  w a x1 x2) else (some (0 : Int32))))) else (b_X9_leftOf_29  w a x1 x2))) else (some (-1 : Int32))))
set_option maxHeartbeats 4000000 in
set_option maxRecDepth 100000 in
theorem lb_X9_leftOf_0 {p : Program} {l : Launch} {e : Env} {s : State} {m : MethodId} {args : Array Value} {below : List Frame} {meth : Method} {c : Code} {D : va_G} {E : Nat → ClassId} {sz : Nat} {M : Nat → Nat → Nat → Int32} {a : AS} {ρ : YR} {w : Nat} {r0 : Int32} (C : cx p s m args meth c D E (Aof (mx M a, ρ) [] s.heap.size) cX9_leftOf 3 "TradeLineModel") (hr : meth.sig.returnType = (some .int)) (hz : s.heap.size = sz) (hρ : rsh ρ) {x1 x2 : Int32}   (h : f_X9_leftOf  w a x1 x2 = some r0) : G p l e ({ frames := 1, cells := 0, slots := 0, locals := 22 } : Room) s m args below meth c D E (Aof (mx M a, ρ) [] s.heap.size) 3 (MQ below (cQ D E sz (mx M a, ρ) [] (pI (fun r u => r = r0 ∧ u = ((mx M a, ρ), [])))) args s 0 0 (Aof (mx M a, ρ) [] s.heap.size)) (mx M a, ρ) [] 0 0 0 [(0, .ref (ρ.2.2.2 40 0)), (1, .int x1), (2, .int x2)] [] := by
  unfold f_X9_leftOf at h
  refine g_aload_n C dX9_leftOf_0 rfl 0 rfl ?_
  refine g_iload_n C dX9_leftOf_1 rfl 1 rfl ?_
  refine g_iload_n C dX9_leftOf_2 rfl 2 rfl ?_
  obtain ⟨v1, hv1, h⟩ := bind_of h
  refine g_cVi (n := 2) (exc := []) (exr := []) C [_, _] _ rfl rfl [] [] rfl rfl rfl rfl (fun _ h => absurd h (by simp)) (fun _ h => absurd h (by simp)) (fun _ h => absurd h (by simp)) (fun sz => k_X9_isNone l M ρ hρ w _ _ _ _ hv1 D E sz) rfl gw_1766 gw_9 gw_1763 gw_1765 gs_84 ⟨by decide +kernel, by decide +kernel, by decide +kernel⟩ ⟨rfl, rfl⟩ ⟨Nat.le_of_ble_eq_true rfl, Nat.le_of_ble_eq_true rfl⟩ (rcvT (lvY0 hρ) rfl rfl rfl) (Nat.le_of_ble_eq_true rfl) dX9_leftOf_3 ⟨by decide, by decide⟩ (fun r u hp hx => ?_)
  obtain ⟨er, rfl⟩ := hp
  rw [er]
  try dsimp only [List.append_nil]
  refine g_if_eq (tgt := 13) C dX9_leftOf_6 (by decide) (fun c6 => ?_) (fun c6 => ?_)
  · replace h := (if_pos c6).symm.trans h
    refine g_iload_n C dX9_leftOf_13 rfl 1 rfl ?_
    refine g_if_ne (tgt := 29) C dX9_leftOf_14 (by decide) (fun c14 => ?_) (fun c14 => ?_)
    · replace h := (if_neg c14).symm.trans h
      refine g_lv [0, 1, 2] rfl ?_
      exact lb_X9_leftOf_29 C hr hz hρ  h
    · replace h := (if_pos c14).symm.trans h
      refine g_aload_n C dX9_leftOf_17 rfl 0 rfl ?_
      refine g_iload_n C dX9_leftOf_18 rfl 2 rfl ?_
      obtain ⟨v3, hv3, h⟩ := bind_of h
      refine g_cVi (n := 1) (exc := []) (exr := []) C [_] _ rfl rfl [] [] rfl rfl rfl rfl (fun _ h => absurd h (by simp)) (fun _ h => absurd h (by simp)) (fun _ h => absurd h (by simp)) (fun sz => k_X9_isPending l M ρ hρ w _ _ _ hv3 D E sz) rfl gw_1687 gw_9 gw_1684 gw_1686 gs_77 ⟨by decide +kernel, by decide +kernel, by decide +kernel⟩ ⟨rfl, rfl⟩ ⟨Nat.le_of_ble_eq_true rfl, Nat.le_of_ble_eq_true rfl⟩ (rcvT (lvY0 hρ) rfl rfl rfl) (Nat.le_of_ble_eq_true rfl) dX9_leftOf_19 ⟨by decide, by decide⟩ (fun r u hp hx => ?_)
      obtain ⟨er, rfl⟩ := hp
      rw [er]
      try dsimp only [List.append_nil]
      refine g_if_eq (tgt := 29) C dX9_leftOf_22 (by decide) (fun c22 => ?_) (fun c22 => ?_)
      · replace h := (if_pos c22).symm.trans h
        refine g_lv [0, 1, 2] rfl ?_
        exact lb_X9_leftOf_29 C hr hz hρ  h
      · replace h := (if_neg c22).symm.trans h
        refine g_iconst (v := (0 : Int32)) C dX9_leftOf_25 (by decide) ?_
        refine g_goto (tgt := 39) C dX9_leftOf_26 (by decide) ?_
        exact g_iret C hr rfl hz ⟨rfl, rfl, fun _ => rfl, fun _ => rfl⟩ ⟨Option.some.inj h, rfl⟩ (fun j x h => by simp at h) dX9_leftOf_39
  · replace h := (if_neg c6).symm.trans h
    refine g_iconst (v := (-1 : Int32)) C dX9_leftOf_9 (by decide) ?_
    refine g_goto (tgt := 39) C dX9_leftOf_10 (by decide) ?_
    exact g_iret C hr rfl hz ⟨rfl, rfl, fun _ => rfl, fun _ => rfl⟩ ⟨Option.some.inj h, rfl⟩ (fun j x h => by simp at h) dX9_leftOf_39
theorem k_X9_leftOf (l : Launch) (M : Nat → Nat → Nat → Int32) (ρ : YR) (hρ : rsh ρ) (w : Nat) (a : AS) (x1 x2 : Int32) (r0 : Int32) (h : f_X9_leftOf w a x1 x2 = some r0) : ∀ D E sz, Met l yX9_leftOf gwX9_leftOf ({ frames := 1, cells := 0, slots := 0, locals := 22 } : Room) (cP D E sz (mx M a, ρ) [] [.ref (ρ.2.2.2 40 0), .int x1, .int x2]) (cQ D E sz (mx M a, ρ) [] (pI (fun r u => r = r0 ∧ u = ((mx M a, ρ), [])))) (0) (0) (Aof (mx M a, ρ) [] sz) := by
  intro D E sz
  refine g_of (cc := cX9_leftOf) (maxL := 3) (ret := (some .int)) (own := "TradeLineModel") (by decide) rfl rfl (Nat.le_of_ble_eq_true rfl) ?_
  intro p e s m args below meth c C hr hin hz ha hwr
  refine g_lv [0, 1, 2] rfl ?_
  exact lb_X9_leftOf_0 C hr hz hρ h
noncomputable def f_X9_left  (w : Nat) (a : AS) (x1 x2 : Int32) : Option (AS × Int32) := (f_X9_asksBook w a x1 x2).bind (fun v1 => (if v1.2 = (0 : Int32) then (some (v1.1, (0 : Int32))) else ((f_X9_leftOf w v1.1 x1 x2).bind (fun v2 => some (v1.1, v2)))))
set_option maxHeartbeats 4000000 in
set_option maxRecDepth 100000 in
theorem lb_X9_left_0 {p : Program} {l : Launch} {e : Env} {s : State} {m : MethodId} {args : Array Value} {below : List Frame} {meth : Method} {c : Code} {D : va_G} {E : Nat → ClassId} {sz : Nat} {M : Nat → Nat → Nat → Int32} {a0 : AS} {ρ : YR} {w : Nat} {r0 : AS × Int32} (C : cx p s m args meth c D E (Aof (mx M a0, ρ) [] s.heap.size) cX9_left 3 "TradeLineModel") (hr : meth.sig.returnType = (some .int)) (hz : s.heap.size = sz) (hρ : rsh ρ) {a : AS} {x1 x2 : Int32}   (h : f_X9_left  w a x1 x2 = some r0) : G p l e ({ frames := 3, cells := 0, slots := 0, locals := 65 } : Room) s m args below meth c D E (Aof (mx M a0, ρ) [] s.heap.size) 3 (MQ below (cQ D E sz (mx M a0, ρ) [] (pI (fun r u => r = r0.2 ∧ u = ((mx M r0.1, ρ), [])))) args s 0 0 (Aof (mx M a0, ρ) [] s.heap.size)) (mx M a, ρ) [] 0 0 0 [(0, .ref (ρ.2.2.2 40 0)), (1, .int x1), (2, .int x2)] [] := by
  unfold f_X9_left at h
  refine g_aload_n C dX9_left_0 rfl 0 rfl ?_
  refine g_iload_n C dX9_left_1 rfl 1 rfl ?_
  refine g_iload_n C dX9_left_2 rfl 2 rfl ?_
  obtain ⟨v1, hv1, h⟩ := bind_of h
  refine g_cVi (n := 2) (exc := []) (exr := []) C [_, _] _ rfl rfl [] [] rfl rfl rfl rfl (fun _ h => absurd h (by simp)) (fun _ h => absurd h (by simp)) (fun _ h => absurd h (by simp)) (fun sz => k_X9_asksBook l M ρ hρ w _ _ _ _ hv1 D E sz) rfl gw_1758 gw_9 gw_1755 gw_1757 gs_82 ⟨by decide +kernel, by decide +kernel, by decide +kernel⟩ ⟨rfl, rfl⟩ ⟨Nat.le_of_ble_eq_true rfl, Nat.le_of_ble_eq_true rfl⟩ (rcvT (lvY0 hρ) rfl rfl rfl) (Nat.le_of_ble_eq_true rfl) dX9_left_3 ⟨by decide, by decide⟩ (fun r u hp hx => ?_)
  obtain ⟨er, rfl⟩ := hp
  rw [er]
  try dsimp only [List.append_nil]
  refine g_if_eq (tgt := 18) C dX9_left_6 (by decide) (fun c6 => ?_) (fun c6 => ?_)
  · replace h := (if_pos c6).symm.trans h
    refine g_iconst (v := (0 : Int32)) C dX9_left_18 (by decide) ?_
    obtain rfl := Option.some.inj h
    exact g_iret C hr rfl hz ⟨rfl, rfl, fun _ => rfl, fun _ => rfl⟩ ⟨rfl, rfl⟩ (fun j x h => by simp at h) dX9_left_19
  · replace h := (if_neg c6).symm.trans h
    refine g_aload_n C dX9_left_9 rfl 0 rfl ?_
    refine g_iload_n C dX9_left_10 rfl 1 rfl ?_
    refine g_iload_n C dX9_left_11 rfl 2 rfl ?_
    obtain ⟨v2, hv2, h⟩ := bind_of h
    refine g_cVi (n := 2) (exc := []) (exr := []) C [_, _] _ rfl rfl [] [] rfl rfl rfl rfl (fun _ h => absurd h (by simp)) (fun _ h => absurd h (by simp)) (fun _ h => absurd h (by simp)) (fun sz => k_X9_leftOf l M ρ hρ w _ _ _ _ hv2 D E sz) rfl gw_1762 gw_9 gw_1759 gw_1761 gs_83 ⟨by decide +kernel, by decide +kernel, by decide +kernel⟩ ⟨rfl, rfl⟩ ⟨Nat.le_of_ble_eq_true rfl, Nat.le_of_ble_eq_true rfl⟩ (rcvT (lvY0 hρ) rfl rfl rfl) (Nat.le_of_ble_eq_true rfl) dX9_left_12 ⟨by decide, by decide⟩ (fun r u hp hx => ?_)
    obtain ⟨er, rfl⟩ := hp
    rw [er]
    try dsimp only [List.append_nil]
    refine g_goto (tgt := 19) C dX9_left_15 (by decide) ?_
    obtain rfl := Option.some.inj h
    exact g_iret C hr rfl hz ⟨rfl, rfl, fun _ => rfl, fun _ => rfl⟩ ⟨rfl, rfl⟩ (fun j x h => by simp at h) dX9_left_19
theorem k_X9_left (l : Launch) (M : Nat → Nat → Nat → Int32) (ρ : YR) (hρ : rsh ρ) (w : Nat) (a : AS) (x1 x2 : Int32) (r0 : AS × Int32) (h : f_X9_left w a x1 x2 = some r0) : ∀ D E sz, Met l yX9_left gwX9_left ({ frames := 3, cells := 0, slots := 0, locals := 65 } : Room) (cP D E sz (mx M a, ρ) [] [.ref (ρ.2.2.2 40 0), .int x1, .int x2]) (cQ D E sz (mx M a, ρ) [] (pI (fun r u => r = r0.2 ∧ u = ((mx M r0.1, ρ), [])))) (0) (0) (Aof (mx M a, ρ) [] sz) := by
  intro D E sz
  refine g_of (cc := cX9_left) (maxL := 3) (ret := (some .int)) (own := "TradeLineModel") (by decide) rfl rfl (Nat.le_of_ble_eq_true rfl) ?_
  intro p e s m args below meth c C hr hin hz ha hwr
  refine g_lv [0, 1, 2] rfl ?_
  exact lb_X9_left_0 C hr hz hρ h
noncomputable def f_X9_doneOf  (w : Nat) (a : AS) (x1 x2 : Int32) : Option (Int32) := (f_X9_isNone w a x1 x2).bind (fun v1 => (if v1 = (0 : Int32) then (bif ixB (((40 : Int32) * x1) + x2) 80 then some (a 27 (((40 : Int32) * x1) + x2).toNatClampNeg) else none) else (some (-1 : Int32))))
set_option maxHeartbeats 4000000 in
set_option maxRecDepth 100000 in
theorem lb_X9_doneOf_0 {p : Program} {l : Launch} {e : Env} {s : State} {m : MethodId} {args : Array Value} {below : List Frame} {meth : Method} {c : Code} {D : va_G} {E : Nat → ClassId} {sz : Nat} {M : Nat → Nat → Nat → Int32} {a : AS} {ρ : YR} {w : Nat} {r0 : Int32} (C : cx p s m args meth c D E (Aof (mx M a, ρ) [] s.heap.size) cX9_doneOf 3 "TradeLineModel") (hr : meth.sig.returnType = (some .int)) (hz : s.heap.size = sz) (hρ : rsh ρ) {x1 x2 : Int32}   (h : f_X9_doneOf  w a x1 x2 = some r0) : G p l e ({ frames := 1, cells := 0, slots := 0, locals := 22 } : Room) s m args below meth c D E (Aof (mx M a, ρ) [] s.heap.size) 3 (MQ below (cQ D E sz (mx M a, ρ) [] (pI (fun r u => r = r0 ∧ u = ((mx M a, ρ), [])))) args s 0 0 (Aof (mx M a, ρ) [] s.heap.size)) (mx M a, ρ) [] 0 0 0 [(0, .ref (ρ.2.2.2 40 0)), (1, .int x1), (2, .int x2)] [] := by
  unfold f_X9_doneOf at h
  refine g_aload_n C dX9_doneOf_0 rfl 0 rfl ?_
  refine g_iload_n C dX9_doneOf_1 rfl 1 rfl ?_
  refine g_iload_n C dX9_doneOf_2 rfl 2 rfl ?_
  obtain ⟨v1, hv1, h⟩ := bind_of h
  refine g_cVi (n := 2) (exc := []) (exr := []) C [_, _] _ rfl rfl [] [] rfl rfl rfl rfl (fun _ h => absurd h (by simp)) (fun _ h => absurd h (by simp)) (fun _ h => absurd h (by simp)) (fun sz => k_X9_isNone l M ρ hρ w _ _ _ _ hv1 D E sz) rfl gw_1766 gw_9 gw_1763 gw_1765 gs_84 ⟨by decide +kernel, by decide +kernel, by decide +kernel⟩ ⟨rfl, rfl⟩ ⟨Nat.le_of_ble_eq_true rfl, Nat.le_of_ble_eq_true rfl⟩ (rcvT (lvY0 hρ) rfl rfl rfl) (Nat.le_of_ble_eq_true rfl) dX9_doneOf_3 ⟨by decide, by decide⟩ (fun r u hp hx => ?_)
  obtain ⟨er, rfl⟩ := hp
  rw [er]
  try dsimp only [List.append_nil]
  refine g_if_eq (tgt := 13) C dX9_doneOf_6 (by decide) (fun c6 => ?_) (fun c6 => ?_)
  · replace h := (if_pos c6).symm.trans h
    refine g_aload_n C dX9_doneOf_13 rfl 0 rfl ?_
    refine g_get (k := 40) (i := 0) (ref := "TradeLineModel") (v := .ref (ρ.2.2.2 (40 + 27) 0)) C rfl (lvY0 hρ) rfl rfl inGX9 27 (by decide) gw_1356 (fun _ h => h) rfl dX9_doneOf_14 ?_
    refine g_bipush (v := (40 : Int32)) C dX9_doneOf_17 (by decide) ?_
    refine g_iload_n C dX9_doneOf_19 rfl 1 rfl ?_
    refine g_imul C dX9_doneOf_20 ?_
    refine g_iload_n C dX9_doneOf_21 rfl 2 rfl ?_
    refine g_iadd C dX9_doneOf_22 ?_
    obtain ⟨g2, h⟩ := of_guard h
    refine q_iald C hρ (j := 27) (N := 80) (List.mem_of_getElem? (i := 23) rfl) rfl rfl g2 dX9_doneOf_23 ?_
    exact g_iret C hr rfl hz ⟨rfl, rfl, fun _ => rfl, fun _ => rfl⟩ ⟨Option.some.inj h, rfl⟩ (fun j x h => by simp at h) dX9_doneOf_24
  · replace h := (if_neg c6).symm.trans h
    refine g_iconst (v := (-1 : Int32)) C dX9_doneOf_9 (by decide) ?_
    refine g_goto (tgt := 24) C dX9_doneOf_10 (by decide) ?_
    exact g_iret C hr rfl hz ⟨rfl, rfl, fun _ => rfl, fun _ => rfl⟩ ⟨Option.some.inj h, rfl⟩ (fun j x h => by simp at h) dX9_doneOf_24
theorem k_X9_doneOf (l : Launch) (M : Nat → Nat → Nat → Int32) (ρ : YR) (hρ : rsh ρ) (w : Nat) (a : AS) (x1 x2 : Int32) (r0 : Int32) (h : f_X9_doneOf w a x1 x2 = some r0) : ∀ D E sz, Met l yX9_doneOf gwX9_doneOf ({ frames := 1, cells := 0, slots := 0, locals := 22 } : Room) (cP D E sz (mx M a, ρ) [] [.ref (ρ.2.2.2 40 0), .int x1, .int x2]) (cQ D E sz (mx M a, ρ) [] (pI (fun r u => r = r0 ∧ u = ((mx M a, ρ), [])))) (0) (0) (Aof (mx M a, ρ) [] sz) := by
  intro D E sz
  refine g_of (cc := cX9_doneOf) (maxL := 3) (ret := (some .int)) (own := "TradeLineModel") (by decide) rfl rfl (Nat.le_of_ble_eq_true rfl) ?_
  intro p e s m args below meth c C hr hin hz ha hwr
  refine g_lv [0, 1, 2] rfl ?_
  exact lb_X9_doneOf_0 C hr hz hρ h
noncomputable def f_X9_done  (w : Nat) (a : AS) (x1 x2 : Int32) : Option (AS × Int32) := (f_X9_asksBook w a x1 x2).bind (fun v1 => (if v1.2 = (0 : Int32) then (some (v1.1, (0 : Int32))) else ((f_X9_doneOf w v1.1 x1 x2).bind (fun v2 => some (v1.1, v2)))))
set_option maxHeartbeats 4000000 in
set_option maxRecDepth 100000 in
theorem lb_X9_done_0 {p : Program} {l : Launch} {e : Env} {s : State} {m : MethodId} {args : Array Value} {below : List Frame} {meth : Method} {c : Code} {D : va_G} {E : Nat → ClassId} {sz : Nat} {M : Nat → Nat → Nat → Int32} {a0 : AS} {ρ : YR} {w : Nat} {r0 : AS × Int32} (C : cx p s m args meth c D E (Aof (mx M a0, ρ) [] s.heap.size) cX9_done 3 "TradeLineModel") (hr : meth.sig.returnType = (some .int)) (hz : s.heap.size = sz) (hρ : rsh ρ) {a : AS} {x1 x2 : Int32}   (h : f_X9_done  w a x1 x2 = some r0) : G p l e ({ frames := 3, cells := 0, slots := 0, locals := 65 } : Room) s m args below meth c D E (Aof (mx M a0, ρ) [] s.heap.size) 3 (MQ below (cQ D E sz (mx M a0, ρ) [] (pI (fun r u => r = r0.2 ∧ u = ((mx M r0.1, ρ), [])))) args s 0 0 (Aof (mx M a0, ρ) [] s.heap.size)) (mx M a, ρ) [] 0 0 0 [(0, .ref (ρ.2.2.2 40 0)), (1, .int x1), (2, .int x2)] [] := by
  unfold f_X9_done at h
  refine g_aload_n C dX9_done_0 rfl 0 rfl ?_
  refine g_iload_n C dX9_done_1 rfl 1 rfl ?_
  refine g_iload_n C dX9_done_2 rfl 2 rfl ?_
  obtain ⟨v1, hv1, h⟩ := bind_of h
  refine g_cVi (n := 2) (exc := []) (exr := []) C [_, _] _ rfl rfl [] [] rfl rfl rfl rfl (fun _ h => absurd h (by simp)) (fun _ h => absurd h (by simp)) (fun _ h => absurd h (by simp)) (fun sz => k_X9_asksBook l M ρ hρ w _ _ _ _ hv1 D E sz) rfl gw_1758 gw_9 gw_1755 gw_1757 gs_82 ⟨by decide +kernel, by decide +kernel, by decide +kernel⟩ ⟨rfl, rfl⟩ ⟨Nat.le_of_ble_eq_true rfl, Nat.le_of_ble_eq_true rfl⟩ (rcvT (lvY0 hρ) rfl rfl rfl) (Nat.le_of_ble_eq_true rfl) dX9_done_3 ⟨by decide, by decide⟩ (fun r u hp hx => ?_)
  obtain ⟨er, rfl⟩ := hp
  rw [er]
  try dsimp only [List.append_nil]
  refine g_if_eq (tgt := 18) C dX9_done_6 (by decide) (fun c6 => ?_) (fun c6 => ?_)
  · replace h := (if_pos c6).symm.trans h
    refine g_iconst (v := (0 : Int32)) C dX9_done_18 (by decide) ?_
    obtain rfl := Option.some.inj h
    exact g_iret C hr rfl hz ⟨rfl, rfl, fun _ => rfl, fun _ => rfl⟩ ⟨rfl, rfl⟩ (fun j x h => by simp at h) dX9_done_19
  · replace h := (if_neg c6).symm.trans h
    refine g_aload_n C dX9_done_9 rfl 0 rfl ?_
    refine g_iload_n C dX9_done_10 rfl 1 rfl ?_
    refine g_iload_n C dX9_done_11 rfl 2 rfl ?_
    obtain ⟨v2, hv2, h⟩ := bind_of h
    refine g_cVi (n := 2) (exc := []) (exr := []) C [_, _] _ rfl rfl [] [] rfl rfl rfl rfl (fun _ h => absurd h (by simp)) (fun _ h => absurd h (by simp)) (fun _ h => absurd h (by simp)) (fun sz => k_X9_doneOf l M ρ hρ w _ _ _ _ hv2 D E sz) rfl gw_1774 gw_9 gw_1771 gw_1773 gs_85 ⟨by decide +kernel, by decide +kernel, by decide +kernel⟩ ⟨rfl, rfl⟩ ⟨Nat.le_of_ble_eq_true rfl, Nat.le_of_ble_eq_true rfl⟩ (rcvT (lvY0 hρ) rfl rfl rfl) (Nat.le_of_ble_eq_true rfl) dX9_done_12 ⟨by decide, by decide⟩ (fun r u hp hx => ?_)
    obtain ⟨er, rfl⟩ := hp
    rw [er]
    try dsimp only [List.append_nil]
    refine g_goto (tgt := 19) C dX9_done_15 (by decide) ?_
    obtain rfl := Option.some.inj h
    exact g_iret C hr rfl hz ⟨rfl, rfl, fun _ => rfl, fun _ => rfl⟩ ⟨rfl, rfl⟩ (fun j x h => by simp at h) dX9_done_19
theorem k_X9_done (l : Launch) (M : Nat → Nat → Nat → Int32) (ρ : YR) (hρ : rsh ρ) (w : Nat) (a : AS) (x1 x2 : Int32) (r0 : AS × Int32) (h : f_X9_done w a x1 x2 = some r0) : ∀ D E sz, Met l yX9_done gwX9_done ({ frames := 3, cells := 0, slots := 0, locals := 65 } : Room) (cP D E sz (mx M a, ρ) [] [.ref (ρ.2.2.2 40 0), .int x1, .int x2]) (cQ D E sz (mx M a, ρ) [] (pI (fun r u => r = r0.2 ∧ u = ((mx M r0.1, ρ), [])))) (0) (0) (Aof (mx M a, ρ) [] sz) := by
  intro D E sz
  refine g_of (cc := cX9_done) (maxL := 3) (ret := (some .int)) (own := "TradeLineModel") (by decide) rfl rfl (Nat.le_of_ble_eq_true rfl) ?_
  intro p e s m args below meth c C hr hin hz ha hwr
  refine g_lv [0, 1, 2] rfl ?_
  exact lb_X9_done_0 C hr hz hρ h
noncomputable def f_X9_doneByLog  (w : Nat) (a : AS) (x1 x2 : Int32) : Option (AS × Int32) := (f_X9_asksBook w a x1 x2).bind (fun v1 => (if v1.2 = (0 : Int32) then (some (v1.1, (0 : Int32))) else ((f_X9_doneOf w v1.1 x1 x2).bind (fun v2 => some (v1.1, v2)))))
set_option maxHeartbeats 4000000 in
set_option maxRecDepth 100000 in
theorem lb_X9_doneByLog_0 {p : Program} {l : Launch} {e : Env} {s : State} {m : MethodId} {args : Array Value} {below : List Frame} {meth : Method} {c : Code} {D : va_G} {E : Nat → ClassId} {sz : Nat} {M : Nat → Nat → Nat → Int32} {a0 : AS} {ρ : YR} {w : Nat} {r0 : AS × Int32} (C : cx p s m args meth c D E (Aof (mx M a0, ρ) [] s.heap.size) cX9_doneByLog 3 "TradeLineModel") (hr : meth.sig.returnType = (some .int)) (hz : s.heap.size = sz) (hρ : rsh ρ) {a : AS} {x1 x2 : Int32}   (h : f_X9_doneByLog  w a x1 x2 = some r0) : G p l e ({ frames := 3, cells := 0, slots := 0, locals := 65 } : Room) s m args below meth c D E (Aof (mx M a0, ρ) [] s.heap.size) 3 (MQ below (cQ D E sz (mx M a0, ρ) [] (pI (fun r u => r = r0.2 ∧ u = ((mx M r0.1, ρ), [])))) args s 0 0 (Aof (mx M a0, ρ) [] s.heap.size)) (mx M a, ρ) [] 0 0 0 [(0, .ref (ρ.2.2.2 40 0)), (1, .int x1), (2, .int x2)] [] := by
  unfold f_X9_doneByLog at h
  refine g_aload_n C dX9_doneByLog_0 rfl 0 rfl ?_
  refine g_iload_n C dX9_doneByLog_1 rfl 1 rfl ?_
  refine g_iload_n C dX9_doneByLog_2 rfl 2 rfl ?_
  obtain ⟨v1, hv1, h⟩ := bind_of h
  refine g_cVi (n := 2) (exc := []) (exr := []) C [_, _] _ rfl rfl [] [] rfl rfl rfl rfl (fun _ h => absurd h (by simp)) (fun _ h => absurd h (by simp)) (fun _ h => absurd h (by simp)) (fun sz => k_X9_asksBook l M ρ hρ w _ _ _ _ hv1 D E sz) rfl gw_1758 gw_9 gw_1755 gw_1757 gs_82 ⟨by decide +kernel, by decide +kernel, by decide +kernel⟩ ⟨rfl, rfl⟩ ⟨Nat.le_of_ble_eq_true rfl, Nat.le_of_ble_eq_true rfl⟩ (rcvT (lvY0 hρ) rfl rfl rfl) (Nat.le_of_ble_eq_true rfl) dX9_doneByLog_3 ⟨by decide, by decide⟩ (fun r u hp hx => ?_)
  obtain ⟨er, rfl⟩ := hp
  rw [er]
  try dsimp only [List.append_nil]
  refine g_if_eq (tgt := 18) C dX9_doneByLog_6 (by decide) (fun c6 => ?_) (fun c6 => ?_)
  · replace h := (if_pos c6).symm.trans h
    refine g_iconst (v := (0 : Int32)) C dX9_doneByLog_18 (by decide) ?_
    obtain rfl := Option.some.inj h
    exact g_iret C hr rfl hz ⟨rfl, rfl, fun _ => rfl, fun _ => rfl⟩ ⟨rfl, rfl⟩ (fun j x h => by simp at h) dX9_doneByLog_19
  · replace h := (if_neg c6).symm.trans h
    refine g_aload_n C dX9_doneByLog_9 rfl 0 rfl ?_
    refine g_iload_n C dX9_doneByLog_10 rfl 1 rfl ?_
    refine g_iload_n C dX9_doneByLog_11 rfl 2 rfl ?_
    obtain ⟨v2, hv2, h⟩ := bind_of h
    refine g_cVi (n := 2) (exc := []) (exr := []) C [_, _] _ rfl rfl [] [] rfl rfl rfl rfl (fun _ h => absurd h (by simp)) (fun _ h => absurd h (by simp)) (fun _ h => absurd h (by simp)) (fun sz => k_X9_doneOf l M ρ hρ w _ _ _ _ hv2 D E sz) rfl gw_1774 gw_9 gw_1771 gw_1773 gs_85 ⟨by decide +kernel, by decide +kernel, by decide +kernel⟩ ⟨rfl, rfl⟩ ⟨Nat.le_of_ble_eq_true rfl, Nat.le_of_ble_eq_true rfl⟩ (rcvT (lvY0 hρ) rfl rfl rfl) (Nat.le_of_ble_eq_true rfl) dX9_doneByLog_12 ⟨by decide, by decide⟩ (fun r u hp hx => ?_)
    obtain ⟨er, rfl⟩ := hp
    rw [er]
    try dsimp only [List.append_nil]
    refine g_goto (tgt := 19) C dX9_doneByLog_15 (by decide) ?_
    obtain rfl := Option.some.inj h
    exact g_iret C hr rfl hz ⟨rfl, rfl, fun _ => rfl, fun _ => rfl⟩ ⟨rfl, rfl⟩ (fun j x h => by simp at h) dX9_doneByLog_19
theorem k_X9_doneByLog (l : Launch) (M : Nat → Nat → Nat → Int32) (ρ : YR) (hρ : rsh ρ) (w : Nat) (a : AS) (x1 x2 : Int32) (r0 : AS × Int32) (h : f_X9_doneByLog w a x1 x2 = some r0) : ∀ D E sz, Met l yX9_doneByLog gwX9_doneByLog ({ frames := 3, cells := 0, slots := 0, locals := 65 } : Room) (cP D E sz (mx M a, ρ) [] [.ref (ρ.2.2.2 40 0), .int x1, .int x2]) (cQ D E sz (mx M a, ρ) [] (pI (fun r u => r = r0.2 ∧ u = ((mx M r0.1, ρ), [])))) (0) (0) (Aof (mx M a, ρ) [] sz) := by
  intro D E sz
  refine g_of (cc := cX9_doneByLog) (maxL := 3) (ret := (some .int)) (own := "TradeLineModel") (by decide) rfl rfl (Nat.le_of_ble_eq_true rfl) ?_
  intro p e s m args below meth c C hr hin hz ha hwr
  refine g_lv [0, 1, 2] rfl ?_
  exact lb_X9_doneByLog_0 C hr hz hρ h
noncomputable def f_X9_out  (w : Nat) (a : AS) (x1 x2 : Int32) : Option (AS × Int32) := (f_X9_asksBook w a x1 x2).bind (fun v1 => (if v1.2 = (0 : Int32) then (some (v1.1, (0 : Int32))) else ((f_X9_isNone w v1.1 x1 x2).bind (fun v2 => (if v2 = (0 : Int32) then (bif ixB (((40 : Int32) * x1) + x2) 80 then some (v1.1, (v1.1 28 (((40 : Int32) * x1) + x2).toNatClampNeg)) else none) else (some (v1.1, (-1 : Int32))))))))
set_option maxHeartbeats 4000000 in
set_option maxRecDepth 100000 in
theorem lb_X9_out_0 {p : Program} {l : Launch} {e : Env} {s : State} {m : MethodId} {args : Array Value} {below : List Frame} {meth : Method} {c : Code} {D : va_G} {E : Nat → ClassId} {sz : Nat} {M : Nat → Nat → Nat → Int32} {a0 : AS} {ρ : YR} {w : Nat} {r0 : AS × Int32} (C : cx p s m args meth c D E (Aof (mx M a0, ρ) [] s.heap.size) cX9_out 3 "TradeLineModel") (hr : meth.sig.returnType = (some .int)) (hz : s.heap.size = sz) (hρ : rsh ρ) {a : AS} {x1 x2 : Int32}   (h : f_X9_out  w a x1 x2 = some r0) : G p l e ({ frames := 3, cells := 0, slots := 0, locals := 65 } : Room) s m args below meth c D E (Aof (mx M a0, ρ) [] s.heap.size) 3 (MQ below (cQ D E sz (mx M a0, ρ) [] (pI (fun r u => r = r0.2 ∧ u = ((mx M r0.1, ρ), [])))) args s 0 0 (Aof (mx M a0, ρ) [] s.heap.size)) (mx M a, ρ) [] 0 0 0 [(0, .ref (ρ.2.2.2 40 0)), (1, .int x1), (2, .int x2)] [] := by
  unfold f_X9_out at h
  refine g_aload_n C dX9_out_0 rfl 0 rfl ?_
  refine g_iload_n C dX9_out_1 rfl 1 rfl ?_
  refine g_iload_n C dX9_out_2 rfl 2 rfl ?_
  obtain ⟨v1, hv1, h⟩ := bind_of h
  refine g_cVi (n := 2) (exc := []) (exr := []) C [_, _] _ rfl rfl [] [] rfl rfl rfl rfl (fun _ h => absurd h (by simp)) (fun _ h => absurd h (by simp)) (fun _ h => absurd h (by simp)) (fun sz => k_X9_asksBook l M ρ hρ w _ _ _ _ hv1 D E sz) rfl gw_1758 gw_9 gw_1755 gw_1757 gs_82 ⟨by decide +kernel, by decide +kernel, by decide +kernel⟩ ⟨rfl, rfl⟩ ⟨Nat.le_of_ble_eq_true rfl, Nat.le_of_ble_eq_true rfl⟩ (rcvT (lvY0 hρ) rfl rfl rfl) (Nat.le_of_ble_eq_true rfl) dX9_out_3 ⟨by decide, by decide⟩ (fun r u hp hx => ?_)
  obtain ⟨er, rfl⟩ := hp
  rw [er]
  try dsimp only [List.append_nil]
  refine g_if_ne (tgt := 13) C dX9_out_6 (by decide) (fun c6 => ?_) (fun c6 => ?_)
  · replace h := (if_neg c6).symm.trans h
    refine g_aload_n C dX9_out_13 rfl 0 rfl ?_
    refine g_iload_n C dX9_out_14 rfl 1 rfl ?_
    refine g_iload_n C dX9_out_15 rfl 2 rfl ?_
    obtain ⟨v2, hv2, h⟩ := bind_of h
    refine g_cVi (n := 2) (exc := []) (exr := []) C [_, _] _ rfl rfl [] [] rfl rfl rfl rfl (fun _ h => absurd h (by simp)) (fun _ h => absurd h (by simp)) (fun _ h => absurd h (by simp)) (fun sz => k_X9_isNone l M ρ hρ w _ _ _ _ hv2 D E sz) rfl gw_1766 gw_9 gw_1763 gw_1765 gs_84 ⟨by decide +kernel, by decide +kernel, by decide +kernel⟩ ⟨rfl, rfl⟩ ⟨Nat.le_of_ble_eq_true rfl, Nat.le_of_ble_eq_true rfl⟩ (rcvT (lvY0 hρ) rfl rfl rfl) (Nat.le_of_ble_eq_true rfl) dX9_out_16 ⟨by decide, by decide⟩ (fun r u hp hx => ?_)
    obtain ⟨er, rfl⟩ := hp
    rw [er]
    try dsimp only [List.append_nil]
    refine g_if_eq (tgt := 26) C dX9_out_19 (by decide) (fun c19 => ?_) (fun c19 => ?_)
    · replace h := (if_pos c19).symm.trans h
      refine g_aload_n C dX9_out_26 rfl 0 rfl ?_
      refine g_get (k := 40) (i := 0) (ref := "TradeLineModel") (v := .ref (ρ.2.2.2 (40 + 28) 0)) C rfl (lvY0 hρ) rfl rfl inGX9 28 (by decide) gw_1357 (fun _ h => h) rfl dX9_out_27 ?_
      refine g_bipush (v := (40 : Int32)) C dX9_out_30 (by decide) ?_
      refine g_iload_n C dX9_out_32 rfl 1 rfl ?_
      refine g_imul C dX9_out_33 ?_
      refine g_iload_n C dX9_out_34 rfl 2 rfl ?_
      refine g_iadd C dX9_out_35 ?_
      obtain ⟨g3, h⟩ := of_guard h
      refine q_iald C hρ (j := 28) (N := 80) (List.mem_of_getElem? (i := 24) rfl) rfl rfl g3 dX9_out_36 ?_
      obtain rfl := Option.some.inj h
      exact g_iret C hr rfl hz ⟨rfl, rfl, fun _ => rfl, fun _ => rfl⟩ ⟨rfl, rfl⟩ (fun j x h => by simp at h) dX9_out_37
    · replace h := (if_neg c19).symm.trans h
      refine g_iconst (v := (-1 : Int32)) C dX9_out_22 (by decide) ?_
      refine g_goto (tgt := 37) C dX9_out_23 (by decide) ?_
      obtain rfl := Option.some.inj h
      exact g_iret C hr rfl hz ⟨rfl, rfl, fun _ => rfl, fun _ => rfl⟩ ⟨rfl, rfl⟩ (fun j x h => by simp at h) dX9_out_37
  · replace h := (if_pos c6).symm.trans h
    refine g_iconst (v := (0 : Int32)) C dX9_out_9 (by decide) ?_
    refine g_goto (tgt := 37) C dX9_out_10 (by decide) ?_
    obtain rfl := Option.some.inj h
    exact g_iret C hr rfl hz ⟨rfl, rfl, fun _ => rfl, fun _ => rfl⟩ ⟨rfl, rfl⟩ (fun j x h => by simp at h) dX9_out_37
theorem k_X9_out (l : Launch) (M : Nat → Nat → Nat → Int32) (ρ : YR) (hρ : rsh ρ) (w : Nat) (a : AS) (x1 x2 : Int32) (r0 : AS × Int32) (h : f_X9_out w a x1 x2 = some r0) : ∀ D E sz, Met l yX9_out gwX9_out ({ frames := 3, cells := 0, slots := 0, locals := 65 } : Room) (cP D E sz (mx M a, ρ) [] [.ref (ρ.2.2.2 40 0), .int x1, .int x2]) (cQ D E sz (mx M a, ρ) [] (pI (fun r u => r = r0.2 ∧ u = ((mx M r0.1, ρ), [])))) (0) (0) (Aof (mx M a, ρ) [] sz) := by
  intro D E sz
  refine g_of (cc := cX9_out) (maxL := 3) (ret := (some .int)) (own := "TradeLineModel") (by decide) rfl rfl (Nat.le_of_ble_eq_true rfl) ?_
  intro p e s m args below meth c C hr hin hz ha hwr
  refine g_lv [0, 1, 2] rfl ?_
  exact lb_X9_out_0 C hr hz hρ h
noncomputable def b_X9_venues_51  (w : Nat) (a : AS) (x2 : Int32) : Option (AS × Int32) := some (a, (((x2 &&& (1 : Int32)) + ((x2 >>> ((1 : Int32) &&& 31)) &&& (1 : Int32))) + ((x2 >>> ((2 : Int32) &&& 31)) &&& (1 : Int32))))
set_option maxHeartbeats 4000000 in
set_option maxRecDepth 100000 in
theorem lb_X9_venues_51 {p : Program} {l : Launch} {e : Env} {s : State} {m : MethodId} {args : Array Value} {below : List Frame} {meth : Method} {c : Code} {D : va_G} {E : Nat → ClassId} {sz : Nat} {M : Nat → Nat → Nat → Int32} {a0 : AS} {ρ : YR} {w : Nat} {r0 : AS × Int32} (C : cx p s m args meth c D E (Aof (mx M a0, ρ) [] s.heap.size) cX9_venues 4 "TradeLineModel") (hr : meth.sig.returnType = (some .int)) (hz : s.heap.size = sz) (hρ : rsh ρ) {a : AS} {x2 : Int32}   (h : b_X9_venues_51  w a x2 = some r0) : G p l e ({ frames := 3, cells := 0, slots := 0, locals := 64 } : Room) s m args below meth c D E (Aof (mx M a0, ρ) [] s.heap.size) 4 (MQ below (cQ D E sz (mx M a0, ρ) [] (pI (fun r u => r = r0.2 ∧ u = ((mx M r0.1, ρ), [])))) args s 0 0 (Aof (mx M a0, ρ) [] s.heap.size)) (mx M a, ρ) [] 0 0 51 [(0, .ref (ρ.2.2.2 40 0)), (2, .int x2)] [] := by
  unfold b_X9_venues_51 at h
  refine g_iload_n C dX9_venues_51 rfl 1 rfl ?_
  refine g_iconst (v := (1 : Int32)) C dX9_venues_52 (by decide) ?_
  refine g_iand C dX9_venues_53 ?_
  refine g_iload_n C dX9_venues_54 rfl 1 rfl ?_
  refine g_iconst (v := (1 : Int32)) C dX9_venues_55 (by decide) ?_
  refine g_ishr C dX9_venues_56 ?_
  refine g_iconst (v := (1 : Int32)) C dX9_venues_57 (by decide) ?_
  refine g_iand C dX9_venues_58 ?_
  refine g_iadd C dX9_venues_59 ?_
  refine g_iload_n C dX9_venues_60 rfl 1 rfl ?_
  refine g_iconst (v := (2 : Int32)) C dX9_venues_61 (by decide) ?_
  refine g_ishr C dX9_venues_62 ?_
  refine g_iconst (v := (1 : Int32)) C dX9_venues_63 (by decide) ?_
  refine g_iand C dX9_venues_64 ?_
  refine g_iadd C dX9_venues_65 ?_
  obtain rfl := Option.some.inj h
  exact g_iret C hr rfl hz ⟨rfl, rfl, fun _ => rfl, fun _ => rfl⟩ ⟨rfl, rfl⟩ (fun j x h => by simp at h) dX9_venues_66
noncomputable def b_X9_venues_43 (k4 : AS → Int32 → Int32 → Int32 → Option (AS × Int32)) (w : Nat) (a : AS) (x1 x3 s0 s1 : Int32) : Option (AS × Int32) := yl ((s1 ||| s0)) (fun t3 => yl (x3 + (1 : Int32)) (fun t4 => k4 a x1 t3 t4))
set_option maxHeartbeats 4000000 in
set_option maxRecDepth 100000 in
theorem lb_X9_venues_43 {p : Program} {l : Launch} {e : Env} {s : State} {m : MethodId} {args : Array Value} {below : List Frame} {meth : Method} {c : Code} {D : va_G} {E : Nat → ClassId} {sz : Nat} {M : Nat → Nat → Nat → Int32} {a0 : AS} {ρ : YR} {w : Nat} {r0 : AS × Int32} (C : cx p s m args meth c D E (Aof (mx M a0, ρ) [] s.heap.size) cX9_venues 4 "TradeLineModel") (hr : meth.sig.returnType = (some .int)) (hz : s.heap.size = sz) (hρ : rsh ρ) {a : AS} {x1 x3 s0 s1 : Int32} {k4 : AS → Int32 → Int32 → Int32 → Option (AS × Int32)} (hk4 : ∀ (a1 : AS) (z1 z2 z3 : Int32), k4 a1 z1 z2 z3 = some r0 → G p l e ({ frames := 3, cells := 0, slots := 0, locals := 64 } : Room) s m args below meth c D E (Aof (mx M a0, ρ) [] s.heap.size) 4 (MQ below (cQ D E sz (mx M a0, ρ) [] (pI (fun r u => r = r0.2 ∧ u = ((mx M r0.1, ρ), [])))) args s 0 0 (Aof (mx M a0, ρ) [] s.heap.size)) (mx M a1, ρ) [] 0 0 4 [(0, .ref (ρ.2.2.2 40 0)), (1, .int z1), (2, .int z2), (3, .int z3)] []) (h : b_X9_venues_43 k4 w a x1 x3 s0 s1 = some r0) : G p l e ({ frames := 3, cells := 0, slots := 0, locals := 64 } : Room) s m args below meth c D E (Aof (mx M a0, ρ) [] s.heap.size) 4 (MQ below (cQ D E sz (mx M a0, ρ) [] (pI (fun r u => r = r0.2 ∧ u = ((mx M r0.1, ρ), [])))) args s 0 0 (Aof (mx M a0, ρ) [] s.heap.size)) (mx M a, ρ) [] 0 0 43 [(0, .ref (ρ.2.2.2 40 0)), (1, .int x1), (3, .int x3)] [.int s0, .int s1] := by
  unfold b_X9_venues_43 at h
  refine g_ior C dX9_venues_43 ?_
  refine q_topi (fun t3 et3 => ?_)
  replace h := yl_of h et3
  refine g_istore_n (lv' := [(2, .int t3), (0, .ref (ρ.2.2.2 40 0)), (1, .int x1), (3, .int x3)]) C dX9_venues_44 rfl (by decide) rfl ?_
  obtain ⟨t4, et4⟩ : ∃ y : Int32, x3 + (1 : Int32) = y := ⟨_, rfl⟩
  replace h := yl_of h et4
  refine g_iinc (v := t4) (lv' := [(3, .int t4), (2, .int t3), (0, .ref (ρ.2.2.2 40 0)), (1, .int x1)]) C dX9_venues_45 3 rfl (by rw [← et4]; rfl) (by decide) rfl ?_
  refine g_goto (tgt := 4) C dX9_venues_48 (by decide) ?_
  refine g_lv [2, 3, 1, 0] rfl ?_
  exact hk4 _ _ _ _ h
noncomputable def b_X9_venues_4 (k4 : AS → Int32 → Int32 → Int32 → Option (AS × Int32)) (w : Nat) (a : AS) (x1 x2 x3 : Int32) : Option (AS × Int32) := (f_X9_asksOrder w a x1).bind (fun v1 => (if v1.2 = (0 : Int32) then (b_X9_venues_51  w v1.1 x2) else ((if (v1.1 0 35) ≤ x3 then (b_X9_venues_51  w v1.1 x2) else (bif ixB x3 100 then (if (v1.1 36 x3.toNatClampNeg) = x1 then (b_X9_venues_43 k4 w v1.1 x1 x3 ((1 : Int32) <<< ((v1.1 37 x3.toNatClampNeg) &&& 31)) x2) else (b_X9_venues_43 k4 w v1.1 x1 x3 (0 : Int32) x2)) else none)))))
set_option maxHeartbeats 4000000 in
set_option maxRecDepth 100000 in
theorem lb_X9_venues_4 {p : Program} {l : Launch} {e : Env} {s : State} {m : MethodId} {args : Array Value} {below : List Frame} {meth : Method} {c : Code} {D : va_G} {E : Nat → ClassId} {sz : Nat} {M : Nat → Nat → Nat → Int32} {a0 : AS} {ρ : YR} {w : Nat} {r0 : AS × Int32} (C : cx p s m args meth c D E (Aof (mx M a0, ρ) [] s.heap.size) cX9_venues 4 "TradeLineModel") (hr : meth.sig.returnType = (some .int)) (hz : s.heap.size = sz) (hρ : rsh ρ) {a : AS} {x1 x2 x3 : Int32} {k4 : AS → Int32 → Int32 → Int32 → Option (AS × Int32)} (hk4 : ∀ (a1 : AS) (z1 z2 z3 : Int32), k4 a1 z1 z2 z3 = some r0 → G p l e ({ frames := 3, cells := 0, slots := 0, locals := 64 } : Room) s m args below meth c D E (Aof (mx M a0, ρ) [] s.heap.size) 4 (MQ below (cQ D E sz (mx M a0, ρ) [] (pI (fun r u => r = r0.2 ∧ u = ((mx M r0.1, ρ), [])))) args s 0 0 (Aof (mx M a0, ρ) [] s.heap.size)) (mx M a1, ρ) [] 0 0 4 [(0, .ref (ρ.2.2.2 40 0)), (1, .int z1), (2, .int z2), (3, .int z3)] []) (h : b_X9_venues_4 k4 w a x1 x2 x3 = some r0) : G p l e ({ frames := 3, cells := 0, slots := 0, locals := 64 } : Room) s m args below meth c D E (Aof (mx M a0, ρ) [] s.heap.size) 4 (MQ below (cQ D E sz (mx M a0, ρ) [] (pI (fun r u => r = r0.2 ∧ u = ((mx M r0.1, ρ), [])))) args s 0 0 (Aof (mx M a0, ρ) [] s.heap.size)) (mx M a, ρ) [] 0 0 4 [(0, .ref (ρ.2.2.2 40 0)), (1, .int x1), (2, .int x2), (3, .int x3)] [] := by
  unfold b_X9_venues_4 at h
  refine g_aload_n C dX9_venues_4 rfl 0 rfl ?_
  refine g_iload_n C dX9_venues_5 rfl 1 rfl ?_
  obtain ⟨v1, hv1, h⟩ := bind_of h
  refine g_cVi (n := 1) (exc := []) (exr := []) C [_] _ rfl rfl [] [] rfl rfl rfl rfl (fun _ h => absurd h (by simp)) (fun _ h => absurd h (by simp)) (fun _ h => absurd h (by simp)) (fun sz => k_X9_asksOrder l M ρ hρ w _ _ _ hv1 D E sz) rfl gw_1699 gw_9 gw_1696 gw_1698 gs_78 ⟨by decide +kernel, by decide +kernel, by decide +kernel⟩ ⟨rfl, rfl⟩ ⟨Nat.le_of_ble_eq_true rfl, Nat.le_of_ble_eq_true rfl⟩ (rcvT (lvY0 hρ) rfl rfl rfl) (Nat.le_of_ble_eq_true rfl) dX9_venues_6 ⟨by decide, by decide⟩ (fun r u hp hx => ?_)
  obtain ⟨er, rfl⟩ := hp
  rw [er]
  try dsimp only [List.append_nil]
  refine g_if_eq (tgt := 51) C dX9_venues_9 (by decide) (fun c9 => ?_) (fun c9 => ?_)
  · replace h := (if_pos c9).symm.trans h
    refine g_lv [0, 2] rfl ?_
    exact lb_X9_venues_51 C hr hz hρ  h
  · replace h := (if_neg c9).symm.trans h
    refine g_iload_n C dX9_venues_12 rfl 3 rfl ?_
    refine g_aload_n C dX9_venues_13 rfl 0 rfl ?_
    refine g_get (k := 40) (i := 0) (ref := "TradeLineModel") (v := .int (v1.1 0 35)) C rfl (lvY0 hρ) rfl rfl inGX9 35 (by decide) gw_1364 (fun _ h => h) rfl dX9_venues_14 ?_
    refine g_icmp_ge (tgt := 51) C dX9_venues_17 (by decide) (fun c17 => ?_) (fun c17 => ?_)
    · replace h := (if_pos c17).symm.trans h
      refine g_lv [0, 2] rfl ?_
      exact lb_X9_venues_51 C hr hz hρ  h
    · replace h := (if_neg c17).symm.trans h
      refine g_iload_n C dX9_venues_20 rfl 2 rfl ?_
      refine g_aload_n C dX9_venues_21 rfl 0 rfl ?_
      refine g_get (k := 40) (i := 0) (ref := "TradeLineModel") (v := .ref (ρ.2.2.2 (40 + 36) 0)) C rfl (lvY0 hρ) rfl rfl inGX9 36 (by decide) gw_1365 (fun _ h => h) rfl dX9_venues_22 ?_
      refine g_iload_n C dX9_venues_25 rfl 3 rfl ?_
      obtain ⟨g2, h⟩ := of_guard h
      refine q_iald C hρ (j := 36) (N := 100) (List.mem_of_getElem? (i := 30) rfl) rfl rfl g2 dX9_venues_26 ?_
      refine g_iload_n C dX9_venues_27 rfl 1 rfl ?_
      refine g_icmp_ne (tgt := 42) C dX9_venues_28 (by decide) (fun c28 => ?_) (fun c28 => ?_)
      · replace h := (if_neg c28).symm.trans h
        refine g_iconst (v := (0 : Int32)) C dX9_venues_42 (by decide) ?_
        refine g_lv [0, 1, 3] rfl ?_
        exact lb_X9_venues_43 C hr hz hρ hk4 h
      · replace h := (if_pos c28).symm.trans h
        refine g_iconst (v := (1 : Int32)) C dX9_venues_31 (by decide) ?_
        refine g_aload_n C dX9_venues_32 rfl 0 rfl ?_
        refine g_get (k := 40) (i := 0) (ref := "TradeLineModel") (v := .ref (ρ.2.2.2 (40 + 37) 0)) C rfl (lvY0 hρ) rfl rfl inGX9 37 (by decide) gw_1366 (fun _ h => h) rfl dX9_venues_33 ?_
        refine g_iload_n C dX9_venues_36 rfl 3 rfl ?_
        refine q_iald C hρ (j := 37) (N := 100) (List.mem_of_getElem? (i := 31) rfl) rfl rfl g2 dX9_venues_37 ?_
        refine g_ishl C dX9_venues_38 ?_
        refine g_goto (tgt := 43) C dX9_venues_39 (by decide) ?_
        refine g_lv [0, 1, 3] rfl ?_
        exact lb_X9_venues_43 C hr hz hρ hk4 h
noncomputable def l_X9_venues_4  (w : Nat) : Nat → AS → Int32 → Int32 → Int32 → Option (AS × Int32)
  | 0 => fun _ _ _ _ => none
  | n + 1 => fun a x1 x2 x3 => b_X9_venues_4  (l_X9_venues_4  w n) w a x1 x2 x3
theorem ll_X9_venues_4 {p : Program} {l : Launch} {e : Env} {s : State} {m : MethodId} {args : Array Value} {below : List Frame} {meth : Method} {c : Code} {D : va_G} {E : Nat → ClassId} {sz : Nat} {M : Nat → Nat → Nat → Int32} {a0 : AS} {ρ : YR} {w : Nat} {r0 : AS × Int32} (C : cx p s m args meth c D E (Aof (mx M a0, ρ) [] s.heap.size) cX9_venues 4 "TradeLineModel") (hr : meth.sig.returnType = (some .int)) (hz : s.heap.size = sz) (hρ : rsh ρ)   : ∀ (n : Nat) (a : AS) (x1 x2 x3 : Int32), l_X9_venues_4  w n a x1 x2 x3 = some r0 → G p l e ({ frames := 3, cells := 0, slots := 0, locals := 64 } : Room) s m args below meth c D E (Aof (mx M a0, ρ) [] s.heap.size) 4 (MQ below (cQ D E sz (mx M a0, ρ) [] (pI (fun r u => r = r0.2 ∧ u = ((mx M r0.1, ρ), [])))) args s 0 0 (Aof (mx M a0, ρ) [] s.heap.size)) (mx M a, ρ) [] 0 0 4 [(0, .ref (ρ.2.2.2 40 0)), (1, .int x1), (2, .int x2), (3, .int x3)] [] := by
  intro n
  induction n with
  | zero => exact fun a x1 x2 x3 h => absurd (show (none : Option (AS × Int32)) = some r0 from h) (by simp)
  | succ n ih => exact fun a x1 x2 x3 h => lb_X9_venues_4 (w := w) C hr hz hρ  ih h
noncomputable def f_X9_venues  (w : Nat) (a : AS) (x1 : Int32) : Option (AS × Int32) := l_X9_venues_4  w w a x1 (0 : Int32) (0 : Int32)
set_option maxHeartbeats 4000000 in
set_option maxRecDepth 100000 in
theorem lb_X9_venues_0 {p : Program} {l : Launch} {e : Env} {s : State} {m : MethodId} {args : Array Value} {below : List Frame} {meth : Method} {c : Code} {D : va_G} {E : Nat → ClassId} {sz : Nat} {M : Nat → Nat → Nat → Int32} {a0 : AS} {ρ : YR} {w : Nat} {r0 : AS × Int32} (C : cx p s m args meth c D E (Aof (mx M a0, ρ) [] s.heap.size) cX9_venues 4 "TradeLineModel") (hr : meth.sig.returnType = (some .int)) (hz : s.heap.size = sz) (hρ : rsh ρ) {a : AS} {x1 : Int32}   (h : f_X9_venues  w a x1 = some r0) : G p l e ({ frames := 3, cells := 0, slots := 0, locals := 64 } : Room) s m args below meth c D E (Aof (mx M a0, ρ) [] s.heap.size) 4 (MQ below (cQ D E sz (mx M a0, ρ) [] (pI (fun r u => r = r0.2 ∧ u = ((mx M r0.1, ρ), [])))) args s 0 0 (Aof (mx M a0, ρ) [] s.heap.size)) (mx M a, ρ) [] 0 0 0 [(0, .ref (ρ.2.2.2 40 0)), (1, .int x1)] [] := by
  unfold f_X9_venues at h
  refine g_iconst (v := (0 : Int32)) C dX9_venues_0 (by decide) ?_
  refine g_istore_n (lv' := [(2, .int (0 : Int32)), (0, .ref (ρ.2.2.2 40 0)), (1, .int x1)]) C dX9_venues_1 rfl (by decide) rfl ?_
  refine g_iconst (v := (0 : Int32)) C dX9_venues_2 (by decide) ?_
  refine g_istore_n (lv' := [(3, .int (0 : Int32)), (2, .int (0 : Int32)), (0, .ref (ρ.2.2.2 40 0)), (1, .int x1)]) C dX9_venues_3 rfl (by decide) rfl ?_
  refine g_lv [2, 3, 1, 0] rfl ?_
  exact ll_X9_venues_4 C hr hz hρ  w _ _ _ _ h
theorem k_X9_venues (l : Launch) (M : Nat → Nat → Nat → Int32) (ρ : YR) (hρ : rsh ρ) (w : Nat) (a : AS) (x1 : Int32) (r0 : AS × Int32) (h : f_X9_venues w a x1 = some r0) : ∀ D E sz, Met l yX9_venues gwX9_venues ({ frames := 3, cells := 0, slots := 0, locals := 64 } : Room) (cP D E sz (mx M a, ρ) [] [.ref (ρ.2.2.2 40 0), .int x1]) (cQ D E sz (mx M a, ρ) [] (pI (fun r u => r = r0.2 ∧ u = ((mx M r0.1, ρ), [])))) (0) (0) (Aof (mx M a, ρ) [] sz) := by
  intro D E sz
  refine g_of (cc := cX9_venues) (maxL := 4) (ret := (some .int)) (own := "TradeLineModel") (by decide) rfl rfl (Nat.le_of_ble_eq_true rfl) ?_
  intro p e s m args below meth c C hr hin hz ha hwr
  refine g_lv [0, 1] rfl ?_
  exact lb_X9_venues_0 C hr hz hρ h
noncomputable def b_X9_total_162 (k48 : AS → Int32 → Int32 → Int32 → Int32 → Int32 → Int32 → Option (AS × Int32)) (w : Nat) (a : AS) (x1 x2 x3 x4 x6 s0 s1 : Int32) : Option (AS × Int32) := yl ((s1 + s0)) (fun t5 => yl (x6 + (1 : Int32)) (fun t6 => k48 a x1 x2 x3 x4 t5 t6))
set_option maxHeartbeats 4000000 in
set_option maxRecDepth 100000 in
theorem lb_X9_total_162 {p : Program} {l : Launch} {e : Env} {s : State} {m : MethodId} {args : Array Value} {below : List Frame} {meth : Method} {c : Code} {D : va_G} {E : Nat → ClassId} {sz : Nat} {M : Nat → Nat → Nat → Int32} {a0 : AS} {ρ : YR} {w : Nat} {r0 : AS × Int32} (C : cx p s m args meth c D E (Aof (mx M a0, ρ) [] s.heap.size) cX9_total 9 "TradeLineModel") (hr : meth.sig.returnType = (some .int)) (hz : s.heap.size = sz) (hρ : rsh ρ) {a : AS} {x1 x2 x3 x4 x6 s0 s1 : Int32} {k48 : AS → Int32 → Int32 → Int32 → Int32 → Int32 → Int32 → Option (AS × Int32)} (hk48 : ∀ (a1 : AS) (z1 z2 z3 z4 z5 z6 : Int32), k48 a1 z1 z2 z3 z4 z5 z6 = some r0 → G p l e ({ frames := 2, cells := 0, slots := 0, locals := 42 } : Room) s m args below meth c D E (Aof (mx M a0, ρ) [] s.heap.size) 9 (MQ below (cQ D E sz (mx M a0, ρ) [] (pI (fun r u => r = r0.2 ∧ u = ((mx M r0.1, ρ), [])))) args s 0 0 (Aof (mx M a0, ρ) [] s.heap.size)) (mx M a1, ρ) [] 0 0 48 [(0, .ref (ρ.2.2.2 40 0)), (1, .int z1), (2, .int z2), (3, .int z3), (4, .int z4), (5, .int z5), (6, .int z6)] []) (h : b_X9_total_162 k48 w a x1 x2 x3 x4 x6 s0 s1 = some r0) : G p l e ({ frames := 2, cells := 0, slots := 0, locals := 42 } : Room) s m args below meth c D E (Aof (mx M a0, ρ) [] s.heap.size) 9 (MQ below (cQ D E sz (mx M a0, ρ) [] (pI (fun r u => r = r0.2 ∧ u = ((mx M r0.1, ρ), [])))) args s 0 0 (Aof (mx M a0, ρ) [] s.heap.size)) (mx M a, ρ) [] 0 0 162 [(0, .ref (ρ.2.2.2 40 0)), (1, .int x1), (2, .int x2), (3, .int x3), (4, .int x4), (6, .int x6)] [.int s0, .int s1] := by
  unfold b_X9_total_162 at h
  refine g_iadd C dX9_total_162 ?_
  refine q_topi (fun t5 et5 => ?_)
  replace h := yl_of h et5
  refine g_istore (lv' := [(5, .int t5), (0, .ref (ρ.2.2.2 40 0)), (1, .int x1), (2, .int x2), (3, .int x3), (4, .int x4), (6, .int x6)]) C dX9_total_163 (by decide) rfl ?_
  obtain ⟨t6, et6⟩ : ∃ y : Int32, x6 + (1 : Int32) = y := ⟨_, rfl⟩
  replace h := yl_of h et6
  refine g_iinc (v := t6) (lv' := [(6, .int t6), (5, .int t5), (0, .ref (ρ.2.2.2 40 0)), (1, .int x1), (2, .int x2), (3, .int x3), (4, .int x4)]) C dX9_total_165 6 rfl (by rw [← et6]; rfl) (by decide) rfl ?_
  refine g_goto (tgt := 48) C dX9_total_168 (by decide) ?_
  refine g_lv [2, 3, 4, 5, 6, 1, 0] rfl ?_
  exact hk48 _ _ _ _ _ _ _ h
noncomputable def b_X9_total_157 (k48 : AS → Int32 → Int32 → Int32 → Int32 → Int32 → Int32 → Option (AS × Int32)) (w : Nat) (a : AS) (x1 x2 x3 x4 x6 s0 s1 s2 : Int32) : Option (AS × Int32) := b_X9_total_162 k48 w a x1 x2 x3 x4 x6 (s1 * s0) s2
set_option maxHeartbeats 4000000 in
set_option maxRecDepth 100000 in
theorem lb_X9_total_157 {p : Program} {l : Launch} {e : Env} {s : State} {m : MethodId} {args : Array Value} {below : List Frame} {meth : Method} {c : Code} {D : va_G} {E : Nat → ClassId} {sz : Nat} {M : Nat → Nat → Nat → Int32} {a0 : AS} {ρ : YR} {w : Nat} {r0 : AS × Int32} (C : cx p s m args meth c D E (Aof (mx M a0, ρ) [] s.heap.size) cX9_total 9 "TradeLineModel") (hr : meth.sig.returnType = (some .int)) (hz : s.heap.size = sz) (hρ : rsh ρ) {a : AS} {x1 x2 x3 x4 x6 s0 s1 s2 : Int32} {k48 : AS → Int32 → Int32 → Int32 → Int32 → Int32 → Int32 → Option (AS × Int32)} (hk48 : ∀ (a1 : AS) (z1 z2 z3 z4 z5 z6 : Int32), k48 a1 z1 z2 z3 z4 z5 z6 = some r0 → G p l e ({ frames := 2, cells := 0, slots := 0, locals := 42 } : Room) s m args below meth c D E (Aof (mx M a0, ρ) [] s.heap.size) 9 (MQ below (cQ D E sz (mx M a0, ρ) [] (pI (fun r u => r = r0.2 ∧ u = ((mx M r0.1, ρ), [])))) args s 0 0 (Aof (mx M a0, ρ) [] s.heap.size)) (mx M a1, ρ) [] 0 0 48 [(0, .ref (ρ.2.2.2 40 0)), (1, .int z1), (2, .int z2), (3, .int z3), (4, .int z4), (5, .int z5), (6, .int z6)] []) (h : b_X9_total_157 k48 w a x1 x2 x3 x4 x6 s0 s1 s2 = some r0) : G p l e ({ frames := 2, cells := 0, slots := 0, locals := 42 } : Room) s m args below meth c D E (Aof (mx M a0, ρ) [] s.heap.size) 9 (MQ below (cQ D E sz (mx M a0, ρ) [] (pI (fun r u => r = r0.2 ∧ u = ((mx M r0.1, ρ), [])))) args s 0 0 (Aof (mx M a0, ρ) [] s.heap.size)) (mx M a, ρ) [] 0 0 157 [(0, .ref (ρ.2.2.2 40 0)), (1, .int x1), (2, .int x2), (3, .int x3), (4, .int x4), (6, .int x6)] [.int s0, .int s1, .int s2] := by
  unfold b_X9_total_157 at h
  refine g_imul C dX9_total_157 ?_
  refine g_goto (tgt := 162) C dX9_total_158 (by decide) ?_
  refine g_lv [0, 1, 2, 3, 4, 5] rfl ?_
  exact lb_X9_total_162 C hr hz hρ hk48 h
noncomputable def b_X9_total_125 (k48 : AS → Int32 → Int32 → Int32 → Int32 → Int32 → Int32 → Option (AS × Int32)) (w : Nat) (a : AS) (x1 x2 x3 x4 x5 x6 x7 s0 : Int32) : Option (AS × Int32) := (if s0 = (0 : Int32) then (b_X9_total_162 k48 w a x1 x2 x3 x4 x6 (0 : Int32) x5) else (bif ixB x6 100 then (if x4 = (0 : Int32) then (b_X9_total_157 k48 w a x1 x2 x3 x4 x6 (1 : Int32) (a 39 x6.toNatClampNeg) x5) else (bif ixB x7 200 then b_X9_total_157 k48 w a x1 x2 x3 x4 x6 (a 41 x7.toNatClampNeg) (a 39 x6.toNatClampNeg) x5 else none)) else none))
set_option maxHeartbeats 4000000 in
set_option maxRecDepth 100000 in
theorem lb_X9_total_125 {p : Program} {l : Launch} {e : Env} {s : State} {m : MethodId} {args : Array Value} {below : List Frame} {meth : Method} {c : Code} {D : va_G} {E : Nat → ClassId} {sz : Nat} {M : Nat → Nat → Nat → Int32} {a0 : AS} {ρ : YR} {w : Nat} {r0 : AS × Int32} (C : cx p s m args meth c D E (Aof (mx M a0, ρ) [] s.heap.size) cX9_total 9 "TradeLineModel") (hr : meth.sig.returnType = (some .int)) (hz : s.heap.size = sz) (hρ : rsh ρ) {a : AS} {x1 x2 x3 x4 x5 x6 x7 s0 : Int32} {k48 : AS → Int32 → Int32 → Int32 → Int32 → Int32 → Int32 → Option (AS × Int32)} (hk48 : ∀ (a1 : AS) (z1 z2 z3 z4 z5 z6 : Int32), k48 a1 z1 z2 z3 z4 z5 z6 = some r0 → G p l e ({ frames := 2, cells := 0, slots := 0, locals := 42 } : Room) s m args below meth c D E (Aof (mx M a0, ρ) [] s.heap.size) 9 (MQ below (cQ D E sz (mx M a0, ρ) [] (pI (fun r u => r = r0.2 ∧ u = ((mx M r0.1, ρ), [])))) args s 0 0 (Aof (mx M a0, ρ) [] s.heap.size)) (mx M a1, ρ) [] 0 0 48 [(0, .ref (ρ.2.2.2 40 0)), (1, .int z1), (2, .int z2), (3, .int z3), (4, .int z4), (5, .int z5), (6, .int z6)] []) (h : b_X9_total_125 k48 w a x1 x2 x3 x4 x5 x6 x7 s0 = some r0) : G p l e ({ frames := 2, cells := 0, slots := 0, locals := 42 } : Room) s m args below meth c D E (Aof (mx M a0, ρ) [] s.heap.size) 9 (MQ below (cQ D E sz (mx M a0, ρ) [] (pI (fun r u => r = r0.2 ∧ u = ((mx M r0.1, ρ), [])))) args s 0 0 (Aof (mx M a0, ρ) [] s.heap.size)) (mx M a, ρ) [] 0 0 125 [(0, .ref (ρ.2.2.2 40 0)), (1, .int x1), (2, .int x2), (3, .int x3), (4, .int x4), (5, .int x5), (6, .int x6), (7, .int x7)] [.int s0] := by
  unfold b_X9_total_125 at h
  refine g_istore (lv' := [(8, .int s0), (0, .ref (ρ.2.2.2 40 0)), (1, .int x1), (2, .int x2), (3, .int x3), (4, .int x4), (5, .int x5), (6, .int x6), (7, .int x7)]) C dX9_total_125 (by decide) rfl ?_
  refine g_iload C dX9_total_127 6 rfl ?_
  refine g_iload C dX9_total_129 0 rfl ?_
  refine g_if_eq (tgt := 161) C dX9_total_131 (by decide) (fun c131 => ?_) (fun c131 => ?_)
  · replace h := (if_pos c131).symm.trans h
    refine g_iconst (v := (0 : Int32)) C dX9_total_161 (by decide) ?_
    refine g_lv [1, 2, 3, 4, 5, 7] rfl ?_
    exact lb_X9_total_162 C hr hz hρ hk48 h
  · replace h := (if_neg c131).symm.trans h
    refine g_aload_n C dX9_total_134 rfl 1 rfl ?_
    refine g_get (k := 40) (i := 0) (ref := "TradeLineModel") (v := .ref (ρ.2.2.2 (40 + 39) 0)) C rfl (lvY0 hρ) rfl rfl inGX9 39 (by decide) gw_1368 (fun _ h => h) rfl dX9_total_135 ?_
    refine g_iload C dX9_total_138 7 rfl ?_
    obtain ⟨g7, h⟩ := of_guard h
    refine q_iald C hρ (j := 39) (N := 100) (List.mem_of_getElem? (i := 33) rfl) rfl rfl g7 dX9_total_140 ?_
    refine g_iload C dX9_total_141 5 rfl ?_
    refine g_if_ne (tgt := 150) C dX9_total_143 (by decide) (fun c143 => ?_) (fun c143 => ?_)
    · replace h := (if_neg c143).symm.trans h
      refine g_aload_n C dX9_total_150 rfl 1 rfl ?_
      refine g_get (k := 40) (i := 0) (ref := "TradeLineModel") (v := .ref (ρ.2.2.2 (40 + 41) 0)) C rfl (lvY0 hρ) rfl rfl inGX9 41 (by decide) gw_1370 (fun _ h => h) rfl dX9_total_151 ?_
      refine g_iload C dX9_total_154 8 rfl ?_
      obtain ⟨g8, h⟩ := of_guard h
      refine q_iald C hρ (j := 41) (N := 200) (List.mem_of_getElem? (i := 35) rfl) rfl rfl g8 dX9_total_156 ?_
      refine g_lv [1, 2, 3, 4, 5, 7] rfl ?_
      exact lb_X9_total_157 C hr hz hρ hk48 h
    · replace h := (if_pos c143).symm.trans h
      refine g_iconst (v := (1 : Int32)) C dX9_total_146 (by decide) ?_
      refine g_goto (tgt := 157) C dX9_total_147 (by decide) ?_
      refine g_lv [1, 2, 3, 4, 5, 7] rfl ?_
      exact lb_X9_total_157 C hr hz hρ hk48 h
noncomputable def b_X9_total_124 (k48 : AS → Int32 → Int32 → Int32 → Int32 → Int32 → Int32 → Option (AS × Int32)) (w : Nat) (a : AS) (x1 x2 x3 x4 x5 x6 x7 : Int32) : Option (AS × Int32) := b_X9_total_125 k48 w a x1 x2 x3 x4 x5 x6 x7 (0 : Int32)
set_option maxHeartbeats 4000000 in
set_option maxRecDepth 100000 in
theorem lb_X9_total_124 {p : Program} {l : Launch} {e : Env} {s : State} {m : MethodId} {args : Array Value} {below : List Frame} {meth : Method} {c : Code} {D : va_G} {E : Nat → ClassId} {sz : Nat} {M : Nat → Nat → Nat → Int32} {a0 : AS} {ρ : YR} {w : Nat} {r0 : AS × Int32} (C : cx p s m args meth c D E (Aof (mx M a0, ρ) [] s.heap.size) cX9_total 9 "TradeLineModel") (hr : meth.sig.returnType = (some .int)) (hz : s.heap.size = sz) (hρ : rsh ρ) {a : AS} {x1 x2 x3 x4 x5 x6 x7 : Int32} {k48 : AS → Int32 → Int32 → Int32 → Int32 → Int32 → Int32 → Option (AS × Int32)} (hk48 : ∀ (a1 : AS) (z1 z2 z3 z4 z5 z6 : Int32), k48 a1 z1 z2 z3 z4 z5 z6 = some r0 → G p l e ({ frames := 2, cells := 0, slots := 0, locals := 42 } : Room) s m args below meth c D E (Aof (mx M a0, ρ) [] s.heap.size) 9 (MQ below (cQ D E sz (mx M a0, ρ) [] (pI (fun r u => r = r0.2 ∧ u = ((mx M r0.1, ρ), [])))) args s 0 0 (Aof (mx M a0, ρ) [] s.heap.size)) (mx M a1, ρ) [] 0 0 48 [(0, .ref (ρ.2.2.2 40 0)), (1, .int z1), (2, .int z2), (3, .int z3), (4, .int z4), (5, .int z5), (6, .int z6)] []) (h : b_X9_total_124 k48 w a x1 x2 x3 x4 x5 x6 x7 = some r0) : G p l e ({ frames := 2, cells := 0, slots := 0, locals := 42 } : Room) s m args below meth c D E (Aof (mx M a0, ρ) [] s.heap.size) 9 (MQ below (cQ D E sz (mx M a0, ρ) [] (pI (fun r u => r = r0.2 ∧ u = ((mx M r0.1, ρ), [])))) args s 0 0 (Aof (mx M a0, ρ) [] s.heap.size)) (mx M a, ρ) [] 0 0 124 [(0, .ref (ρ.2.2.2 40 0)), (1, .int x1), (2, .int x2), (3, .int x3), (4, .int x4), (5, .int x5), (6, .int x6), (7, .int x7)] [] := by
  unfold b_X9_total_124 at h
  refine g_iconst (v := (0 : Int32)) C dX9_total_124 (by decide) ?_
  refine g_lv [0, 1, 2, 3, 4, 5, 6, 7] rfl ?_
  exact lb_X9_total_125 C hr hz hρ hk48 h
noncomputable def b_X9_total_48 (k48 : AS → Int32 → Int32 → Int32 → Int32 → Int32 → Int32 → Option (AS × Int32)) (w : Nat) (a : AS) (x1 x2 x3 x4 x5 x6 : Int32) : Option (AS × Int32) := (if (a 0 35) ≤ x6 then (some (a, x5)) else ((if (a 0 0) = (0 : Int32) then (yl ((((100 : Int32) * x1) + x6)) (fun t3 => bif ixB t3 200 then (if (a 42 t3.toNatClampNeg) = (0 : Int32) then (b_X9_total_124 k48 w a x1 x2 x3 x4 x5 x6 t3) else ((if (a 43 t3.toNatClampNeg) = (0 : Int32) then (bif ixB x6 100 then (if (a 38 x6.toNatClampNeg) = x2 then (bif ixB (a 36 x6.toNatClampNeg) 40 then (if (a 23 (a 36 x6.toNatClampNeg).toNatClampNeg) = x3 then (b_X9_total_125 k48 w a x1 x2 x3 x4 x5 x6 t3 (1 : Int32)) else (b_X9_total_124 k48 w a x1 x2 x3 x4 x5 x6 t3)) else none) else (b_X9_total_124 k48 w a x1 x2 x3 x4 x5 x6 t3)) else none) else (b_X9_total_124 k48 w a x1 x2 x3 x4 x5 x6 t3)))) else none)) else (some (a, x5)))))
set_option maxHeartbeats 4000000 in
set_option maxRecDepth 100000 in
theorem lb_X9_total_48 {p : Program} {l : Launch} {e : Env} {s : State} {m : MethodId} {args : Array Value} {below : List Frame} {meth : Method} {c : Code} {D : va_G} {E : Nat → ClassId} {sz : Nat} {M : Nat → Nat → Nat → Int32} {a0 : AS} {ρ : YR} {w : Nat} {r0 : AS × Int32} (C : cx p s m args meth c D E (Aof (mx M a0, ρ) [] s.heap.size) cX9_total 9 "TradeLineModel") (hr : meth.sig.returnType = (some .int)) (hz : s.heap.size = sz) (hρ : rsh ρ) {a : AS} {x1 x2 x3 x4 x5 x6 : Int32} {k48 : AS → Int32 → Int32 → Int32 → Int32 → Int32 → Int32 → Option (AS × Int32)} (hk48 : ∀ (a1 : AS) (z1 z2 z3 z4 z5 z6 : Int32), k48 a1 z1 z2 z3 z4 z5 z6 = some r0 → G p l e ({ frames := 2, cells := 0, slots := 0, locals := 42 } : Room) s m args below meth c D E (Aof (mx M a0, ρ) [] s.heap.size) 9 (MQ below (cQ D E sz (mx M a0, ρ) [] (pI (fun r u => r = r0.2 ∧ u = ((mx M r0.1, ρ), [])))) args s 0 0 (Aof (mx M a0, ρ) [] s.heap.size)) (mx M a1, ρ) [] 0 0 48 [(0, .ref (ρ.2.2.2 40 0)), (1, .int z1), (2, .int z2), (3, .int z3), (4, .int z4), (5, .int z5), (6, .int z6)] []) (h : b_X9_total_48 k48 w a x1 x2 x3 x4 x5 x6 = some r0) : G p l e ({ frames := 2, cells := 0, slots := 0, locals := 42 } : Room) s m args below meth c D E (Aof (mx M a0, ρ) [] s.heap.size) 9 (MQ below (cQ D E sz (mx M a0, ρ) [] (pI (fun r u => r = r0.2 ∧ u = ((mx M r0.1, ρ), [])))) args s 0 0 (Aof (mx M a0, ρ) [] s.heap.size)) (mx M a, ρ) [] 0 0 48 [(0, .ref (ρ.2.2.2 40 0)), (1, .int x1), (2, .int x2), (3, .int x3), (4, .int x4), (5, .int x5), (6, .int x6)] [] := by
  unfold b_X9_total_48 at h
  refine g_iload C dX9_total_48 6 rfl ?_
  refine g_aload_n C dX9_total_50 rfl 0 rfl ?_
  refine g_get (k := 40) (i := 0) (ref := "TradeLineModel") (v := .int (a 0 35)) C rfl (lvY0 hρ) rfl rfl inGX9 35 (by decide) gw_1364 (fun _ h => h) rfl dX9_total_51 ?_
  refine g_icmp_ge (tgt := 171) C dX9_total_54 (by decide) (fun c54 => ?_) (fun c54 => ?_)
  · replace h := (if_pos c54).symm.trans h
    refine g_iload C dX9_total_171 5 rfl ?_
    obtain rfl := Option.some.inj h
    exact g_iret C hr rfl hz ⟨rfl, rfl, fun _ => rfl, fun _ => rfl⟩ ⟨rfl, rfl⟩ (fun j x h => by simp at h) dX9_total_173
  · replace h := (if_neg c54).symm.trans h
    refine g_aload_n C dX9_total_57 rfl 0 rfl ?_
    refine g_get (k := 40) (i := 0) (ref := "TradeLineModel") (v := .int (a 0 0)) C rfl (lvY0 hρ) rfl rfl inGX9 0 (by decide) gw_1329 (fun _ h => h) rfl dX9_total_58 ?_
    refine g_if_ne (tgt := 171) C dX9_total_61 (by decide) (fun c61 => ?_) (fun c61 => ?_)
    · replace h := (if_neg c61).symm.trans h
      refine g_iload C dX9_total_171 5 rfl ?_
      obtain rfl := Option.some.inj h
      exact g_iret C hr rfl hz ⟨rfl, rfl, fun _ => rfl, fun _ => rfl⟩ ⟨rfl, rfl⟩ (fun j x h => by simp at h) dX9_total_173
    · replace h := (if_pos c61).symm.trans h
      refine g_bipush (v := (100 : Int32)) C dX9_total_64 (by decide) ?_
      refine g_iload_n C dX9_total_66 rfl 1 rfl ?_
      refine g_imul C dX9_total_67 ?_
      refine g_iload C dX9_total_68 6 rfl ?_
      refine g_iadd C dX9_total_70 ?_
      refine q_topi (fun t3 et3 => ?_)
      replace h := yl_of h et3
      refine g_istore (lv' := [(7, .int t3), (0, .ref (ρ.2.2.2 40 0)), (1, .int x1), (2, .int x2), (3, .int x3), (4, .int x4), (5, .int x5), (6, .int x6)]) C dX9_total_71 (by decide) rfl ?_
      refine g_aload_n C dX9_total_73 rfl 1 rfl ?_
      refine g_get (k := 40) (i := 0) (ref := "TradeLineModel") (v := .ref (ρ.2.2.2 (40 + 42) 0)) C rfl (lvY0 hρ) rfl rfl inGX9 42 (by decide) gw_1371 (fun _ h => h) rfl dX9_total_74 ?_
      refine g_iload C dX9_total_77 0 rfl ?_
      obtain ⟨g4, h⟩ := of_guard h
      refine q_zald C hρ (j := 42) (N := 200) (List.mem_of_getElem? (i := 36) rfl) rfl rfl g4 dX9_total_79 ?_
      refine g_if_eq (tgt := 124) C dX9_total_80 (by decide) (fun c80 => ?_) (fun c80 => ?_)
      · replace h := (if_pos c80).symm.trans h
        refine g_lv [1, 2, 3, 4, 5, 6, 7, 0] rfl ?_
        exact lb_X9_total_124 C hr hz hρ hk48 h
      · replace h := (if_neg c80).symm.trans h
        refine g_aload_n C dX9_total_83 rfl 1 rfl ?_
        refine g_get (k := 40) (i := 0) (ref := "TradeLineModel") (v := .ref (ρ.2.2.2 (40 + 43) 0)) C rfl (lvY0 hρ) rfl rfl inGX9 43 (by decide) gw_1372 (fun _ h => h) rfl dX9_total_84 ?_
        refine g_iload C dX9_total_87 0 rfl ?_
        refine q_zald C hρ (j := 43) (N := 200) (List.mem_of_getElem? (i := 37) rfl) rfl rfl g4 dX9_total_89 ?_
        refine g_if_ne (tgt := 124) C dX9_total_90 (by decide) (fun c90 => ?_) (fun c90 => ?_)
        · replace h := (if_neg c90).symm.trans h
          refine g_lv [1, 2, 3, 4, 5, 6, 7, 0] rfl ?_
          exact lb_X9_total_124 C hr hz hρ hk48 h
        · replace h := (if_pos c90).symm.trans h
          refine g_aload_n C dX9_total_93 rfl 1 rfl ?_
          refine g_get (k := 40) (i := 0) (ref := "TradeLineModel") (v := .ref (ρ.2.2.2 (40 + 38) 0)) C rfl (lvY0 hρ) rfl rfl inGX9 38 (by decide) gw_1367 (fun _ h => h) rfl dX9_total_94 ?_
          refine g_iload C dX9_total_97 7 rfl ?_
          obtain ⟨g9, h⟩ := of_guard h
          refine q_iald C hρ (j := 38) (N := 100) (List.mem_of_getElem? (i := 32) rfl) rfl rfl g9 dX9_total_99 ?_
          refine g_iload_n C dX9_total_100 rfl 3 rfl ?_
          refine g_icmp_ne (tgt := 124) C dX9_total_101 (by decide) (fun c101 => ?_) (fun c101 => ?_)
          · replace h := (if_neg c101).symm.trans h
            refine g_lv [1, 2, 3, 4, 5, 6, 7, 0] rfl ?_
            exact lb_X9_total_124 C hr hz hρ hk48 h
          · replace h := (if_pos c101).symm.trans h
            refine g_aload_n C dX9_total_104 rfl 1 rfl ?_
            refine g_get (k := 40) (i := 0) (ref := "TradeLineModel") (v := .ref (ρ.2.2.2 (40 + 23) 0)) C rfl (lvY0 hρ) rfl rfl inGX9 23 (by decide) gw_1352 (fun _ h => h) rfl dX9_total_105 ?_
            refine g_aload_n C dX9_total_108 rfl 1 rfl ?_
            refine g_get (k := 40) (i := 0) (ref := "TradeLineModel") (v := .ref (ρ.2.2.2 (40 + 36) 0)) C rfl (lvY0 hρ) rfl rfl inGX9 36 (by decide) gw_1365 (fun _ h => h) rfl dX9_total_109 ?_
            refine g_iload C dX9_total_112 7 rfl ?_
            refine q_iald C hρ (j := 36) (N := 100) (List.mem_of_getElem? (i := 30) rfl) rfl rfl g9 dX9_total_114 ?_
            obtain ⟨g10, h⟩ := of_guard h
            refine q_zald C hρ (j := 23) (N := 40) (List.mem_of_getElem? (i := 19) rfl) rfl rfl g10 dX9_total_115 ?_
            refine g_iload_n C dX9_total_116 rfl 4 rfl ?_
            refine g_icmp_ne (tgt := 124) C dX9_total_117 (by decide) (fun c117 => ?_) (fun c117 => ?_)
            · replace h := (if_neg c117).symm.trans h
              refine g_lv [1, 2, 3, 4, 5, 6, 7, 0] rfl ?_
              exact lb_X9_total_124 C hr hz hρ hk48 h
            · replace h := (if_pos c117).symm.trans h
              refine g_iconst (v := (1 : Int32)) C dX9_total_120 (by decide) ?_
              refine g_goto (tgt := 125) C dX9_total_121 (by decide) ?_
              refine g_lv [1, 2, 3, 4, 5, 6, 7, 0] rfl ?_
              exact lb_X9_total_125 C hr hz hρ hk48 h
noncomputable def l_X9_total_48  (w : Nat) : Nat → AS → Int32 → Int32 → Int32 → Int32 → Int32 → Int32 → Option (AS × Int32)
  | 0 => fun _ _ _ _ _ _ _ => none
  | n + 1 => fun a x1 x2 x3 x4 x5 x6 => b_X9_total_48  (l_X9_total_48  w n) w a x1 x2 x3 x4 x5 x6
theorem ll_X9_total_48 {p : Program} {l : Launch} {e : Env} {s : State} {m : MethodId} {args : Array Value} {below : List Frame} {meth : Method} {c : Code} {D : va_G} {E : Nat → ClassId} {sz : Nat} {M : Nat → Nat → Nat → Int32} {a0 : AS} {ρ : YR} {w : Nat} {r0 : AS × Int32} (C : cx p s m args meth c D E (Aof (mx M a0, ρ) [] s.heap.size) cX9_total 9 "TradeLineModel") (hr : meth.sig.returnType = (some .int)) (hz : s.heap.size = sz) (hρ : rsh ρ)   : ∀ (n : Nat) (a : AS) (x1 x2 x3 x4 x5 x6 : Int32), l_X9_total_48  w n a x1 x2 x3 x4 x5 x6 = some r0 → G p l e ({ frames := 2, cells := 0, slots := 0, locals := 42 } : Room) s m args below meth c D E (Aof (mx M a0, ρ) [] s.heap.size) 9 (MQ below (cQ D E sz (mx M a0, ρ) [] (pI (fun r u => r = r0.2 ∧ u = ((mx M r0.1, ρ), [])))) args s 0 0 (Aof (mx M a0, ρ) [] s.heap.size)) (mx M a, ρ) [] 0 0 48 [(0, .ref (ρ.2.2.2 40 0)), (1, .int x1), (2, .int x2), (3, .int x3), (4, .int x4), (5, .int x5), (6, .int x6)] [] := by
  intro n
  induction n with
  | zero => exact fun a x1 x2 x3 x4 x5 x6 h => absurd (show (none : Option (AS × Int32)) = some r0 from h) (by simp)
  | succ n ih => exact fun a x1 x2 x3 x4 x5 x6 h => lb_X9_total_48 (w := w) C hr hz hρ  ih h
noncomputable def b_X9_total_39  (w : Nat) (a : AS) (x1 x2 x3 x4 s0 : Int32) : Option (AS × Int32) := yl (up2 a 0 0 s0) (fun a2 => l_X9_total_48  w w a2 x1 x2 x3 x4 (0 : Int32) (0 : Int32))
set_option maxHeartbeats 4000000 in
set_option maxRecDepth 100000 in
theorem lb_X9_total_39 {p : Program} {l : Launch} {e : Env} {s : State} {m : MethodId} {args : Array Value} {below : List Frame} {meth : Method} {c : Code} {D : va_G} {E : Nat → ClassId} {sz : Nat} {M : Nat → Nat → Nat → Int32} {a0 : AS} {ρ : YR} {w : Nat} {r0 : AS × Int32} (C : cx p s m args meth c D E (Aof (mx M a0, ρ) [] s.heap.size) cX9_total 9 "TradeLineModel") (hr : meth.sig.returnType = (some .int)) (hz : s.heap.size = sz) (hρ : rsh ρ) {a : AS} {x1 x2 x3 x4 s0 : Int32}   (h : b_X9_total_39  w a x1 x2 x3 x4 s0 = some r0) : G p l e ({ frames := 2, cells := 0, slots := 0, locals := 42 } : Room) s m args below meth c D E (Aof (mx M a0, ρ) [] s.heap.size) 9 (MQ below (cQ D E sz (mx M a0, ρ) [] (pI (fun r u => r = r0.2 ∧ u = ((mx M r0.1, ρ), [])))) args s 0 0 (Aof (mx M a0, ρ) [] s.heap.size)) (mx M a, ρ) [] 0 0 39 [(0, .ref (ρ.2.2.2 40 0)), (1, .int x1), (2, .int x2), (3, .int x3), (4, .int x4)] [.int s0, .ref (ρ.2.2.2 40 0)] := by
  unfold b_X9_total_39 at h
  refine q_put C hρ (j := 0) (by decide) gw_1329 rfl rfl (tyX9_ok 0 (by decide)) rfl rfl (by simp [fvs, up1]) dX9_total_39 (fun a2 ea2 => ?_)
  replace h := yl_of h ea2
  refine g_iconst (v := (0 : Int32)) C dX9_total_42 (by decide) ?_
  refine g_istore (lv' := [(5, .int (0 : Int32)), (0, .ref (ρ.2.2.2 40 0)), (1, .int x1), (2, .int x2), (3, .int x3), (4, .int x4)]) C dX9_total_43 (by decide) rfl ?_
  refine g_iconst (v := (0 : Int32)) C dX9_total_45 (by decide) ?_
  refine g_istore (lv' := [(6, .int (0 : Int32)), (5, .int (0 : Int32)), (0, .ref (ρ.2.2.2 40 0)), (1, .int x1), (2, .int x2), (3, .int x3), (4, .int x4)]) C dX9_total_46 (by decide) rfl ?_
  refine g_lv [2, 3, 4, 5, 6, 1, 0] rfl ?_
  exact ll_X9_total_48 C hr hz hρ  w _ _ _ _ _ _ _ h
noncomputable def b_X9_total_20  (w : Nat) (a : AS) (x1 x2 x3 x4 : Int32) : Option (AS × Int32) := b_X9_total_39  w a x1 x2 x3 x4 (1 : Int32)
set_option maxHeartbeats 4000000 in
set_option maxRecDepth 100000 in
theorem lb_X9_total_20 {p : Program} {l : Launch} {e : Env} {s : State} {m : MethodId} {args : Array Value} {below : List Frame} {meth : Method} {c : Code} {D : va_G} {E : Nat → ClassId} {sz : Nat} {M : Nat → Nat → Nat → Int32} {a0 : AS} {ρ : YR} {w : Nat} {r0 : AS × Int32} (C : cx p s m args meth c D E (Aof (mx M a0, ρ) [] s.heap.size) cX9_total 9 "TradeLineModel") (hr : meth.sig.returnType = (some .int)) (hz : s.heap.size = sz) (hρ : rsh ρ) {a : AS} {x1 x2 x3 x4 : Int32}   (h : b_X9_total_20  w a x1 x2 x3 x4 = some r0) : G p l e ({ frames := 2, cells := 0, slots := 0, locals := 42 } : Room) s m args below meth c D E (Aof (mx M a0, ρ) [] s.heap.size) 9 (MQ below (cQ D E sz (mx M a0, ρ) [] (pI (fun r u => r = r0.2 ∧ u = ((mx M r0.1, ρ), [])))) args s 0 0 (Aof (mx M a0, ρ) [] s.heap.size)) (mx M a, ρ) [] 0 0 20 [(0, .ref (ρ.2.2.2 40 0)), (1, .int x1), (2, .int x2), (3, .int x3), (4, .int x4)] [.ref (ρ.2.2.2 40 0)] := by
  unfold b_X9_total_20 at h
  refine g_iconst (v := (1 : Int32)) C dX9_total_20 (by decide) ?_
  refine g_goto (tgt := 39) C dX9_total_21 (by decide) ?_
  refine g_lv [0, 1, 2, 3, 4] rfl ?_
  exact lb_X9_total_39 C hr hz hρ  h
noncomputable def f_X9_total  (w : Nat) (a : AS) (x1 x2 x3 x4 : Int32) : Option (AS × Int32) := (f_X9_isSide w a x1).bind (fun v1 => (if v1 = (0 : Int32) then (b_X9_total_20  w a x1 x2 x3 x4) else ((f_X9_in w a x2 (0 : Int32) (a 0 44)).bind (fun v11 => (if v11 = (0 : Int32) then (b_X9_total_20  w a x1 x2 x3 x4) else ((f_X9_in w a x4 (0 : Int32) (1 : Int32)).bind (fun v12 => (if v12 = (0 : Int32) then (b_X9_total_39  w a x1 x2 x3 x4 (2 : Int32)) else (b_X9_total_39  w a x1 x2 x3 x4 (0 : Int32))))))))))
set_option maxHeartbeats 4000000 in
set_option maxRecDepth 100000 in
theorem lb_X9_total_0 {p : Program} {l : Launch} {e : Env} {s : State} {m : MethodId} {args : Array Value} {below : List Frame} {meth : Method} {c : Code} {D : va_G} {E : Nat → ClassId} {sz : Nat} {M : Nat → Nat → Nat → Int32} {a0 : AS} {ρ : YR} {w : Nat} {r0 : AS × Int32} (C : cx p s m args meth c D E (Aof (mx M a0, ρ) [] s.heap.size) cX9_total 9 "TradeLineModel") (hr : meth.sig.returnType = (some .int)) (hz : s.heap.size = sz) (hρ : rsh ρ) {a : AS} {x1 x2 x3 x4 : Int32}   (h : f_X9_total  w a x1 x2 x3 x4 = some r0) : G p l e ({ frames := 2, cells := 0, slots := 0, locals := 42 } : Room) s m args below meth c D E (Aof (mx M a0, ρ) [] s.heap.size) 9 (MQ below (cQ D E sz (mx M a0, ρ) [] (pI (fun r u => r = r0.2 ∧ u = ((mx M r0.1, ρ), [])))) args s 0 0 (Aof (mx M a0, ρ) [] s.heap.size)) (mx M a, ρ) [] 0 0 0 [(0, .ref (ρ.2.2.2 40 0)), (1, .int x1), (2, .int x2), (3, .int x3), (4, .int x4)] [] := by
  unfold f_X9_total at h
  refine g_aload_n C dX9_total_0 rfl 0 rfl ?_
  refine g_iload_n C dX9_total_1 rfl 1 rfl ?_
  obtain ⟨v1, hv1, h⟩ := bind_of h
  refine g_cSi (n := 1) (exc := []) (exr := []) C [_] _ rfl rfl [] [] rfl rfl rfl rfl (fun _ h => absurd h (by simp)) (fun _ h => absurd h (by simp)) (fun _ h => absurd h (by simp)) (fun sz => k_X9_isSide l M ρ hρ w _ _ _ hv1 D E sz) rfl gw_1504 gw_9 gw_1502 gw_1503 ⟨by decide +kernel, by decide +kernel, by decide +kernel⟩ ⟨rfl, rfl⟩ ⟨Nat.le_of_ble_eq_true rfl, Nat.le_of_ble_eq_true rfl⟩ (Nat.le_of_ble_eq_true rfl) dX9_total_2 ⟨by decide, by decide⟩ (fun r u hp hx => ?_)
  obtain ⟨er, rfl⟩ := hp
  rw [er]
  try dsimp only [List.append_nil]
  refine g_if_eq (tgt := 20) C dX9_total_5 (by decide) (fun c5 => ?_) (fun c5 => ?_)
  · replace h := (if_pos c5).symm.trans h
    refine g_lv [0, 1, 2, 3, 4] rfl ?_
    exact lb_X9_total_20 C hr hz hρ  h
  · replace h := (if_neg c5).symm.trans h
    refine g_iload_n C dX9_total_8 rfl 2 rfl ?_
    refine g_iconst (v := (0 : Int32)) C dX9_total_9 (by decide) ?_
    refine g_aload_n C dX9_total_10 rfl 0 rfl ?_
    refine g_get (k := 40) (i := 0) (ref := "TradeLineModel") (v := .int (a 0 44)) C rfl (lvY0 hρ) rfl rfl inGX9 44 (by decide) gw_1373 (fun _ h => h) rfl dX9_total_11 ?_
    obtain ⟨v11, hv11, h⟩ := bind_of h
    refine g_cSi (n := 3) (exc := []) (exr := []) C [_, _, _] _ rfl rfl [] [] rfl rfl rfl rfl (fun _ h => absurd h (by simp)) (fun _ h => absurd h (by simp)) (fun _ h => absurd h (by simp)) (fun sz => k_X9_in l M ρ hρ w _ _ _ _ _ hv11 D E sz) rfl gw_1507 gw_9 gw_1505 gw_1506 ⟨by decide +kernel, by decide +kernel, by decide +kernel⟩ ⟨rfl, rfl⟩ ⟨Nat.le_of_ble_eq_true rfl, Nat.le_of_ble_eq_true rfl⟩ (Nat.le_of_ble_eq_true rfl) dX9_total_14 ⟨by decide, by decide⟩ (fun r u hp hx => ?_)
    obtain ⟨er, rfl⟩ := hp
    rw [er]
    try dsimp only [List.append_nil]
    refine g_if_ne (tgt := 24) C dX9_total_17 (by decide) (fun c17 => ?_) (fun c17 => ?_)
    · replace h := (if_neg c17).symm.trans h
      refine g_iload C dX9_total_24 4 rfl ?_
      refine g_iconst (v := (0 : Int32)) C dX9_total_26 (by decide) ?_
      refine g_iconst (v := (1 : Int32)) C dX9_total_27 (by decide) ?_
      obtain ⟨v12, hv12, h⟩ := bind_of h
      refine g_cSi (n := 3) (exc := []) (exr := []) C [_, _, _] _ rfl rfl [] [] rfl rfl rfl rfl (fun _ h => absurd h (by simp)) (fun _ h => absurd h (by simp)) (fun _ h => absurd h (by simp)) (fun sz => k_X9_in l M ρ hρ w _ _ _ _ _ hv12 D E sz) rfl gw_1507 gw_9 gw_1505 gw_1506 ⟨by decide +kernel, by decide +kernel, by decide +kernel⟩ ⟨rfl, rfl⟩ ⟨Nat.le_of_ble_eq_true rfl, Nat.le_of_ble_eq_true rfl⟩ (Nat.le_of_ble_eq_true rfl) dX9_total_28 ⟨by decide, by decide⟩ (fun r u hp hx => ?_)
      obtain ⟨er, rfl⟩ := hp
      rw [er]
      try dsimp only [List.append_nil]
      refine g_if_eq (tgt := 38) C dX9_total_31 (by decide) (fun c31 => ?_) (fun c31 => ?_)
      · replace h := (if_pos c31).symm.trans h
        refine g_iconst (v := (2 : Int32)) C dX9_total_38 (by decide) ?_
        refine g_lv [0, 1, 2, 3, 4] rfl ?_
        exact lb_X9_total_39 C hr hz hρ  h
      · replace h := (if_neg c31).symm.trans h
        refine g_iconst (v := (0 : Int32)) C dX9_total_34 (by decide) ?_
        refine g_goto (tgt := 39) C dX9_total_35 (by decide) ?_
        refine g_lv [0, 1, 2, 3, 4] rfl ?_
        exact lb_X9_total_39 C hr hz hρ  h
    · replace h := (if_pos c17).symm.trans h
      refine g_lv [0, 1, 2, 3, 4] rfl ?_
      exact lb_X9_total_20 C hr hz hρ  h
theorem k_X9_total (l : Launch) (M : Nat → Nat → Nat → Int32) (ρ : YR) (hρ : rsh ρ) (w : Nat) (a : AS) (x1 x2 x3 x4 : Int32) (r0 : AS × Int32) (h : f_X9_total w a x1 x2 x3 x4 = some r0) : ∀ D E sz, Met l yX9_total gwX9_total ({ frames := 2, cells := 0, slots := 0, locals := 42 } : Room) (cP D E sz (mx M a, ρ) [] [.ref (ρ.2.2.2 40 0), .int x1, .int x2, .int x3, .int x4]) (cQ D E sz (mx M a, ρ) [] (pI (fun r u => r = r0.2 ∧ u = ((mx M r0.1, ρ), [])))) (0) (0) (Aof (mx M a, ρ) [] sz) := by
  intro D E sz
  refine g_of (cc := cX9_total) (maxL := 9) (ret := (some .int)) (own := "TradeLineModel") (by decide) rfl rfl (Nat.le_of_ble_eq_true rfl) ?_
  intro p e s m args below meth c C hr hin hz ha hwr
  refine g_lv [0, 1, 2, 3, 4] rfl ?_
  exact lb_X9_total_0 C hr hz hρ h
