noncomputable def f_X9_thrown  (w : Nat) (a : AS) : Option (Int32) := some (a 0 0)
set_option maxHeartbeats 4000000 in
set_option maxRecDepth 100000 in
theorem lb_X9_thrown_0 {p : Program} {l : Launch} {e : Env} {s : State} {m : MethodId} {args : Array Value} {below : List Frame} {meth : Method} {c : Code} {D : va_G} {E : Nat → ClassId} {sz : Nat} {M : Nat → Nat → Nat → Int32} {a : AS} {ρ : YR} {w : Nat} {r0 : Int32} (C : cx p s m args meth c D E (Aof (mx M a, ρ) [] s.heap.size) cX9_thrown 1 "TradeLineModel") (hr : meth.sig.returnType = (some .int)) (hz : s.heap.size = sz) (hρ : rsh ρ)   (h : f_X9_thrown  w a  = some r0) : G p l e ({ frames := 0, cells := 0, slots := 0, locals := 0 } : Room) s m args below meth c D E (Aof (mx M a, ρ) [] s.heap.size) 1 (MQ below (cQ D E sz (mx M a, ρ) [] (pI (fun r u => r = r0 ∧ u = ((mx M a, ρ), [])))) args s 0 0 (Aof (mx M a, ρ) [] s.heap.size)) (mx M a, ρ) [] 0 0 0 [(0, .ref (ρ.2.2.2 40 0))] [] := by
  unfold f_X9_thrown at h
  refine g_aload_n C dX9_thrown_0 rfl 0 rfl ?_
  refine g_get (k := 40) (i := 0) (ref := "TradeLineModel") (v := .int (a 0 0)) C rfl (lvY0 hρ) rfl rfl inGX9 0 (by decide) gw_1329 (fun _ h => h) rfl dX9_thrown_1 ?_
  exact g_iret C hr rfl hz ⟨rfl, rfl, fun _ => rfl, fun _ => rfl⟩ ⟨Option.some.inj h, rfl⟩ (fun j x h => by simp at h) dX9_thrown_4
theorem k_X9_thrown (l : Launch) (M : Nat → Nat → Nat → Int32) (ρ : YR) (hρ : rsh ρ) (w : Nat) (a : AS) (r0 : Int32) (h : f_X9_thrown w a  = some r0) : ∀ D E sz, Met l yX9_thrown gwX9_thrown ({ frames := 0, cells := 0, slots := 0, locals := 0 } : Room) (cP D E sz (mx M a, ρ) [] [.ref (ρ.2.2.2 40 0)]) (cQ D E sz (mx M a, ρ) [] (pI (fun r u => r = r0 ∧ u = ((mx M a, ρ), [])))) (0) (0) (Aof (mx M a, ρ) [] sz) := by
  intro D E sz
  refine g_of (cc := cX9_thrown) (maxL := 1) (ret := (some .int)) (own := "TradeLineModel") (by decide) rfl rfl (Nat.le_of_ble_eq_true rfl) ?_
  intro p e s m args below meth c C hr hin hz ha hwr
  refine g_lv [0] rfl ?_
  exact lb_X9_thrown_0 C hr hz hρ h
noncomputable def f_X9_in  (w : Nat) (a : AS) (x0 x1 x2 : Int32) : Option (Int32) := (if x0 < x1 then (some (0 : Int32)) else ((if x2 < x0 then (some (0 : Int32)) else (some (1 : Int32)))))
set_option maxHeartbeats 4000000 in
set_option maxRecDepth 100000 in
theorem lb_X9_in_0 {p : Program} {l : Launch} {e : Env} {s : State} {m : MethodId} {args : Array Value} {below : List Frame} {meth : Method} {c : Code} {D : va_G} {E : Nat → ClassId} {sz : Nat} {M : Nat → Nat → Nat → Int32} {a : AS} {ρ : YR} {w : Nat} {r0 : Int32} (C : cx p s m args meth c D E (Aof (mx M a, ρ) [] s.heap.size) cX9_in 3 "TradeLineModel") (hr : meth.sig.returnType = (some .boolean)) (hz : s.heap.size = sz) (hρ : rsh ρ) {x0 x1 x2 : Int32}   (h : f_X9_in  w a x0 x1 x2 = some r0) : G p l e ({ frames := 0, cells := 0, slots := 0, locals := 0 } : Room) s m args below meth c D E (Aof (mx M a, ρ) [] s.heap.size) 3 (MQ below (cQ D E sz (mx M a, ρ) [] (pI (fun r u => r = r0 ∧ u = ((mx M a, ρ), [])))) args s 0 0 (Aof (mx M a, ρ) [] s.heap.size)) (mx M a, ρ) [] 0 0 0 [(0, .int x0), (1, .int x1), (2, .int x2)] [] := by
  unfold f_X9_in at h
  refine g_iload_n C dX9_in_0 rfl 0 rfl ?_
  refine g_iload_n C dX9_in_1 rfl 1 rfl ?_
  refine g_icmp_lt (tgt := 14) C dX9_in_2 (by decide) (fun c2 => ?_) (fun c2 => ?_)
  · replace h := (if_pos c2).symm.trans h
    refine g_iconst (v := (0 : Int32)) C dX9_in_14 (by decide) ?_
    exact g_iret C hr rfl hz ⟨rfl, rfl, fun _ => rfl, fun _ => rfl⟩ ⟨Option.some.inj h, rfl⟩ (fun j x h => by simp at h) dX9_in_15
  · replace h := (if_neg c2).symm.trans h
    refine g_iload_n C dX9_in_5 rfl 0 rfl ?_
    refine g_iload_n C dX9_in_6 rfl 2 rfl ?_
    refine g_icmp_gt (tgt := 14) C dX9_in_7 (by decide) (fun c7 => ?_) (fun c7 => ?_)
    · replace h := (if_pos c7).symm.trans h
      refine g_iconst (v := (0 : Int32)) C dX9_in_14 (by decide) ?_
      exact g_iret C hr rfl hz ⟨rfl, rfl, fun _ => rfl, fun _ => rfl⟩ ⟨Option.some.inj h, rfl⟩ (fun j x h => by simp at h) dX9_in_15
    · replace h := (if_neg c7).symm.trans h
      refine g_iconst (v := (1 : Int32)) C dX9_in_10 (by decide) ?_
      refine g_goto (tgt := 15) C dX9_in_11 (by decide) ?_
      exact g_iret C hr rfl hz ⟨rfl, rfl, fun _ => rfl, fun _ => rfl⟩ ⟨Option.some.inj h, rfl⟩ (fun j x h => by simp at h) dX9_in_15
theorem k_X9_in (l : Launch) (M : Nat → Nat → Nat → Int32) (ρ : YR) (hρ : rsh ρ) (w : Nat) (a : AS) (x0 x1 x2 : Int32) (r0 : Int32) (h : f_X9_in w a x0 x1 x2 = some r0) : ∀ D E sz, Met l yX9_in gwX9_in ({ frames := 0, cells := 0, slots := 0, locals := 0 } : Room) (cP D E sz (mx M a, ρ) [] [.int x0, .int x1, .int x2]) (cQ D E sz (mx M a, ρ) [] (pI (fun r u => r = r0 ∧ u = ((mx M a, ρ), [])))) (0) (0) (Aof (mx M a, ρ) [] sz) := by
  intro D E sz
  refine g_of (cc := cX9_in) (maxL := 3) (ret := (some .boolean)) (own := "TradeLineModel") (by decide) rfl rfl (Nat.le_of_ble_eq_true rfl) ?_
  intro p e s m args below meth c C hr hin hz ha hwr
  refine g_lv [0, 1, 2] rfl ?_
  exact lb_X9_in_0 C hr hz hρ h
noncomputable def f_X9_isSide  (w : Nat) (a : AS) (x0 : Int32) : Option (Int32) := (f_X9_in w a x0 (0 : Int32) (1 : Int32)).bind (fun v1 => bif boB v1 then some v1 else none)
set_option maxHeartbeats 4000000 in
set_option maxRecDepth 100000 in
theorem lb_X9_isSide_0 {p : Program} {l : Launch} {e : Env} {s : State} {m : MethodId} {args : Array Value} {below : List Frame} {meth : Method} {c : Code} {D : va_G} {E : Nat → ClassId} {sz : Nat} {M : Nat → Nat → Nat → Int32} {a : AS} {ρ : YR} {w : Nat} {r0 : Int32} (C : cx p s m args meth c D E (Aof (mx M a, ρ) [] s.heap.size) cX9_isSide 1 "TradeLineModel") (hr : meth.sig.returnType = (some .boolean)) (hz : s.heap.size = sz) (hρ : rsh ρ) {x0 : Int32}   (h : f_X9_isSide  w a x0 = some r0) : G p l e ({ frames := 1, cells := 0, slots := 0, locals := 22 } : Room) s m args below meth c D E (Aof (mx M a, ρ) [] s.heap.size) 1 (MQ below (cQ D E sz (mx M a, ρ) [] (pI (fun r u => r = r0 ∧ u = ((mx M a, ρ), [])))) args s 0 0 (Aof (mx M a, ρ) [] s.heap.size)) (mx M a, ρ) [] 0 0 0 [(0, .int x0)] [] := by
  unfold f_X9_isSide at h
  refine g_iload_n C dX9_isSide_0 rfl 0 rfl ?_
  refine g_iconst (v := (0 : Int32)) C dX9_isSide_1 (by decide) ?_
  refine g_iconst (v := (1 : Int32)) C dX9_isSide_2 (by decide) ?_
  obtain ⟨v1, hv1, h⟩ := bind_of h
  refine g_cSi (n := 3) (exc := []) (exr := []) C [_, _, _] _ rfl rfl [] [] rfl rfl rfl rfl (fun _ h => absurd h (by simp)) (fun _ h => absurd h (by simp)) (fun _ h => absurd h (by simp)) (fun sz => k_X9_in l M ρ hρ w _ _ _ _ _ hv1 D E sz) rfl gw_1507 gw_9 gw_1505 gw_1506 ⟨by decide +kernel, by decide +kernel, by decide +kernel⟩ ⟨rfl, rfl⟩ ⟨Nat.le_of_ble_eq_true rfl, Nat.le_of_ble_eq_true rfl⟩ (Nat.le_of_ble_eq_true rfl) dX9_isSide_3 ⟨by decide, by decide⟩ (fun r u hp hx => ?_)
  obtain ⟨er, rfl⟩ := hp
  rw [er]
  try dsimp only [List.append_nil]
  obtain ⟨g2, h⟩ := of_guard h
  exact g_iret C hr (boB_n g2) hz ⟨rfl, rfl, fun _ => rfl, fun _ => rfl⟩ ⟨Option.some.inj h, rfl⟩ (fun j x h => by simp at h) dX9_isSide_6
theorem k_X9_isSide (l : Launch) (M : Nat → Nat → Nat → Int32) (ρ : YR) (hρ : rsh ρ) (w : Nat) (a : AS) (x0 : Int32) (r0 : Int32) (h : f_X9_isSide w a x0 = some r0) : ∀ D E sz, Met l yX9_isSide gwX9_isSide ({ frames := 1, cells := 0, slots := 0, locals := 22 } : Room) (cP D E sz (mx M a, ρ) [] [.int x0]) (cQ D E sz (mx M a, ρ) [] (pI (fun r u => r = r0 ∧ u = ((mx M a, ρ), [])))) (0) (0) (Aof (mx M a, ρ) [] sz) := by
  intro D E sz
  refine g_of (cc := cX9_isSide) (maxL := 1) (ret := (some .boolean)) (own := "TradeLineModel") (by decide) rfl rfl (Nat.le_of_ble_eq_true rfl) ?_
  intro p e s m args below meth c C hr hin hz ha hwr
  refine g_lv [0] rfl ?_
  exact lb_X9_isSide_0 C hr hz hρ h
noncomputable def f_X9_isOrder  (w : Nat) (a : AS) (x1 : Int32) : Option (Int32) := (f_X9_in w a x1 (0 : Int32) ((a 0 22) - (1 : Int32))).bind (fun v1 => bif boB v1 then some v1 else none)
set_option maxHeartbeats 4000000 in
set_option maxRecDepth 100000 in
theorem lb_X9_isOrder_0 {p : Program} {l : Launch} {e : Env} {s : State} {m : MethodId} {args : Array Value} {below : List Frame} {meth : Method} {c : Code} {D : va_G} {E : Nat → ClassId} {sz : Nat} {M : Nat → Nat → Nat → Int32} {a : AS} {ρ : YR} {w : Nat} {r0 : Int32} (C : cx p s m args meth c D E (Aof (mx M a, ρ) [] s.heap.size) cX9_isOrder 2 "TradeLineModel") (hr : meth.sig.returnType = (some .boolean)) (hz : s.heap.size = sz) (hρ : rsh ρ) {x1 : Int32}   (h : f_X9_isOrder  w a x1 = some r0) : G p l e ({ frames := 1, cells := 0, slots := 0, locals := 22 } : Room) s m args below meth c D E (Aof (mx M a, ρ) [] s.heap.size) 2 (MQ below (cQ D E sz (mx M a, ρ) [] (pI (fun r u => r = r0 ∧ u = ((mx M a, ρ), [])))) args s 0 0 (Aof (mx M a, ρ) [] s.heap.size)) (mx M a, ρ) [] 0 0 0 [(0, .ref (ρ.2.2.2 40 0)), (1, .int x1)] [] := by
  unfold f_X9_isOrder at h
  refine g_iload_n C dX9_isOrder_0 rfl 1 rfl ?_
  refine g_iconst (v := (0 : Int32)) C dX9_isOrder_1 (by decide) ?_
  refine g_aload_n C dX9_isOrder_2 rfl 0 rfl ?_
  refine g_get (k := 40) (i := 0) (ref := "TradeLineModel") (v := .int (a 0 22)) C rfl (lvY0 hρ) rfl rfl inGX9 22 (by decide) gw_1351 (fun _ h => h) rfl dX9_isOrder_3 ?_
  refine g_iconst (v := (1 : Int32)) C dX9_isOrder_6 (by decide) ?_
  refine g_isub C dX9_isOrder_7 ?_
  obtain ⟨v1, hv1, h⟩ := bind_of h
  refine g_cSi (n := 3) (exc := []) (exr := []) C [_, _, _] _ rfl rfl [] [] rfl rfl rfl rfl (fun _ h => absurd h (by simp)) (fun _ h => absurd h (by simp)) (fun _ h => absurd h (by simp)) (fun sz => k_X9_in l M ρ hρ w _ _ _ _ _ hv1 D E sz) rfl gw_1507 gw_9 gw_1505 gw_1506 ⟨by decide +kernel, by decide +kernel, by decide +kernel⟩ ⟨rfl, rfl⟩ ⟨Nat.le_of_ble_eq_true rfl, Nat.le_of_ble_eq_true rfl⟩ (Nat.le_of_ble_eq_true rfl) dX9_isOrder_8 ⟨by decide, by decide⟩ (fun r u hp hx => ?_)
  obtain ⟨er, rfl⟩ := hp
  rw [er]
  try dsimp only [List.append_nil]
  obtain ⟨g2, h⟩ := of_guard h
  exact g_iret C hr (boB_n g2) hz ⟨rfl, rfl, fun _ => rfl, fun _ => rfl⟩ ⟨Option.some.inj h, rfl⟩ (fun j x h => by simp at h) dX9_isOrder_11
theorem k_X9_isOrder (l : Launch) (M : Nat → Nat → Nat → Int32) (ρ : YR) (hρ : rsh ρ) (w : Nat) (a : AS) (x1 : Int32) (r0 : Int32) (h : f_X9_isOrder w a x1 = some r0) : ∀ D E sz, Met l yX9_isOrder gwX9_isOrder ({ frames := 1, cells := 0, slots := 0, locals := 22 } : Room) (cP D E sz (mx M a, ρ) [] [.ref (ρ.2.2.2 40 0), .int x1]) (cQ D E sz (mx M a, ρ) [] (pI (fun r u => r = r0 ∧ u = ((mx M a, ρ), [])))) (0) (0) (Aof (mx M a, ρ) [] sz) := by
  intro D E sz
  refine g_of (cc := cX9_isOrder) (maxL := 2) (ret := (some .boolean)) (own := "TradeLineModel") (by decide) rfl rfl (Nat.le_of_ble_eq_true rfl) ?_
  intro p e s m args below meth c C hr hin hz ha hwr
  refine g_lv [0, 1] rfl ?_
  exact lb_X9_isOrder_0 C hr hz hρ h
noncomputable def f_X9_isVenue  (w : Nat) (a : AS) (x0 : Int32) : Option (Int32) := (f_X9_in w a x0 (0 : Int32) (2 : Int32)).bind (fun v1 => bif boB v1 then some v1 else none)
set_option maxHeartbeats 4000000 in
set_option maxRecDepth 100000 in
theorem lb_X9_isVenue_0 {p : Program} {l : Launch} {e : Env} {s : State} {m : MethodId} {args : Array Value} {below : List Frame} {meth : Method} {c : Code} {D : va_G} {E : Nat → ClassId} {sz : Nat} {M : Nat → Nat → Nat → Int32} {a : AS} {ρ : YR} {w : Nat} {r0 : Int32} (C : cx p s m args meth c D E (Aof (mx M a, ρ) [] s.heap.size) cX9_isVenue 1 "TradeLineModel") (hr : meth.sig.returnType = (some .boolean)) (hz : s.heap.size = sz) (hρ : rsh ρ) {x0 : Int32}   (h : f_X9_isVenue  w a x0 = some r0) : G p l e ({ frames := 1, cells := 0, slots := 0, locals := 22 } : Room) s m args below meth c D E (Aof (mx M a, ρ) [] s.heap.size) 1 (MQ below (cQ D E sz (mx M a, ρ) [] (pI (fun r u => r = r0 ∧ u = ((mx M a, ρ), [])))) args s 0 0 (Aof (mx M a, ρ) [] s.heap.size)) (mx M a, ρ) [] 0 0 0 [(0, .int x0)] [] := by
  unfold f_X9_isVenue at h
  refine g_iload_n C dX9_isVenue_0 rfl 0 rfl ?_
  refine g_iconst (v := (0 : Int32)) C dX9_isVenue_1 (by decide) ?_
  refine g_iconst (v := (2 : Int32)) C dX9_isVenue_2 (by decide) ?_
  obtain ⟨v1, hv1, h⟩ := bind_of h
  refine g_cSi (n := 3) (exc := []) (exr := []) C [_, _, _] _ rfl rfl [] [] rfl rfl rfl rfl (fun _ h => absurd h (by simp)) (fun _ h => absurd h (by simp)) (fun _ h => absurd h (by simp)) (fun sz => k_X9_in l M ρ hρ w _ _ _ _ _ hv1 D E sz) rfl gw_1507 gw_9 gw_1505 gw_1506 ⟨by decide +kernel, by decide +kernel, by decide +kernel⟩ ⟨rfl, rfl⟩ ⟨Nat.le_of_ble_eq_true rfl, Nat.le_of_ble_eq_true rfl⟩ (Nat.le_of_ble_eq_true rfl) dX9_isVenue_3 ⟨by decide, by decide⟩ (fun r u hp hx => ?_)
  obtain ⟨er, rfl⟩ := hp
  rw [er]
  try dsimp only [List.append_nil]
  obtain ⟨g2, h⟩ := of_guard h
  exact g_iret C hr (boB_n g2) hz ⟨rfl, rfl, fun _ => rfl, fun _ => rfl⟩ ⟨Option.some.inj h, rfl⟩ (fun j x h => by simp at h) dX9_isVenue_6
theorem k_X9_isVenue (l : Launch) (M : Nat → Nat → Nat → Int32) (ρ : YR) (hρ : rsh ρ) (w : Nat) (a : AS) (x0 : Int32) (r0 : Int32) (h : f_X9_isVenue w a x0 = some r0) : ∀ D E sz, Met l yX9_isVenue gwX9_isVenue ({ frames := 1, cells := 0, slots := 0, locals := 22 } : Room) (cP D E sz (mx M a, ρ) [] [.int x0]) (cQ D E sz (mx M a, ρ) [] (pI (fun r u => r = r0 ∧ u = ((mx M a, ρ), [])))) (0) (0) (Aof (mx M a, ρ) [] sz) := by
  intro D E sz
  refine g_of (cc := cX9_isVenue) (maxL := 1) (ret := (some .boolean)) (own := "TradeLineModel") (by decide) rfl rfl (Nat.le_of_ble_eq_true rfl) ?_
  intro p e s m args below meth c C hr hin hz ha hwr
  refine g_lv [0] rfl ?_
  exact lb_X9_isVenue_0 C hr hz hρ h
noncomputable def f_X9_placeOf  (w : Nat) (a : AS) (x1 x2 : Int32) : Option (Int32) := bif ixB x1 2 then some (((65536 : Int32) * x1) + (((a 19 x1.toNatClampNeg) + x2) - ((a 19 x1.toNatClampNeg) + x2) / (65536 : Int32) * (65536 : Int32))) else none
set_option maxHeartbeats 4000000 in
set_option maxRecDepth 100000 in
theorem lb_X9_placeOf_0 {p : Program} {l : Launch} {e : Env} {s : State} {m : MethodId} {args : Array Value} {below : List Frame} {meth : Method} {c : Code} {D : va_G} {E : Nat → ClassId} {sz : Nat} {M : Nat → Nat → Nat → Int32} {a : AS} {ρ : YR} {w : Nat} {r0 : Int32} (C : cx p s m args meth c D E (Aof (mx M a, ρ) [] s.heap.size) cX9_placeOf 3 "TradeLineModel") (hr : meth.sig.returnType = (some .int)) (hz : s.heap.size = sz) (hρ : rsh ρ) {x1 x2 : Int32}   (h : f_X9_placeOf  w a x1 x2 = some r0) : G p l e ({ frames := 0, cells := 0, slots := 0, locals := 0 } : Room) s m args below meth c D E (Aof (mx M a, ρ) [] s.heap.size) 3 (MQ below (cQ D E sz (mx M a, ρ) [] (pI (fun r u => r = r0 ∧ u = ((mx M a, ρ), [])))) args s 0 0 (Aof (mx M a, ρ) [] s.heap.size)) (mx M a, ρ) [] 0 0 0 [(0, .ref (ρ.2.2.2 40 0)), (1, .int x1), (2, .int x2)] [] := by
  unfold f_X9_placeOf at h
  refine g_ldc (v := (65536 : Int32)) C gw_1485 dX9_placeOf_0 ?_
  refine g_iload_n C dX9_placeOf_2 rfl 1 rfl ?_
  refine g_imul C dX9_placeOf_3 ?_
  refine g_aload_n C dX9_placeOf_4 rfl 0 rfl ?_
  refine g_get (k := 40) (i := 0) (ref := "TradeLineModel") (v := .ref (ρ.2.2.2 (40 + 19) 0)) C rfl (lvY0 hρ) rfl rfl inGX9 19 (by decide) gw_1348 (fun _ h => h) rfl dX9_placeOf_5 ?_
  refine g_iload_n C dX9_placeOf_8 rfl 1 rfl ?_
  obtain ⟨g1, h⟩ := of_guard h
  refine q_iald C hρ (j := 19) (N := 2) (List.mem_of_getElem? (i := 16) rfl) rfl rfl g1 dX9_placeOf_9 ?_
  refine g_iload_n C dX9_placeOf_10 rfl 2 rfl ?_
  refine g_iadd C dX9_placeOf_11 ?_
  refine g_ldc (v := (65536 : Int32)) C gw_1485 dX9_placeOf_12 ?_
  refine g_irem C dX9_placeOf_14 (by decide) ?_
  refine g_iadd C dX9_placeOf_15 ?_
  exact g_iret C hr rfl hz ⟨rfl, rfl, fun _ => rfl, fun _ => rfl⟩ ⟨Option.some.inj h, rfl⟩ (fun j x h => by simp at h) dX9_placeOf_16
theorem k_X9_placeOf (l : Launch) (M : Nat → Nat → Nat → Int32) (ρ : YR) (hρ : rsh ρ) (w : Nat) (a : AS) (x1 x2 : Int32) (r0 : Int32) (h : f_X9_placeOf w a x1 x2 = some r0) : ∀ D E sz, Met l yX9_placeOf gwX9_placeOf ({ frames := 0, cells := 0, slots := 0, locals := 0 } : Room) (cP D E sz (mx M a, ρ) [] [.ref (ρ.2.2.2 40 0), .int x1, .int x2]) (cQ D E sz (mx M a, ρ) [] (pI (fun r u => r = r0 ∧ u = ((mx M a, ρ), [])))) (0) (0) (Aof (mx M a, ρ) [] sz) := by
  intro D E sz
  refine g_of (cc := cX9_placeOf) (maxL := 3) (ret := (some .int)) (own := "TradeLineModel") (by decide) rfl rfl (Nat.le_of_ble_eq_true rfl) ?_
  intro p e s m args below meth c C hr hin hz ha hwr
  refine g_lv [0, 1, 2] rfl ?_
  exact lb_X9_placeOf_0 C hr hz hρ h
noncomputable def f_X9_goes  (w : Nat) (a : AS) (x1 x2 x3 : Int32) : Option (AS × Int32) := yl (((1 : Int32) - x1)) (fun t1 => bif ixB t1 2 then (f_X9_placeOf w a t1 (a 20 t1.toNatClampNeg)).bind (fun v3 => bif ixB v3 131072 then yl (up2 a 21 v3.toNatClampNeg ((2 : Int32) * (((8192 : Int32) * x2) + x3))) (fun a5 => yl (up2 a5 20 t1.toNatClampNeg ((a5 20 t1.toNatClampNeg) + (1 : Int32))) (fun a6 => bif ixB x1 2 then yl (up2 a6 9 x1.toNatClampNeg (a6 0 1)) (fun a8 => some (a8, (0 : Int32))) else none)) else none) else none)
set_option maxHeartbeats 4000000 in
set_option maxRecDepth 100000 in
theorem lb_X9_goes_0 {p : Program} {l : Launch} {e : Env} {s : State} {m : MethodId} {args : Array Value} {below : List Frame} {meth : Method} {c : Code} {D : va_G} {E : Nat → ClassId} {sz : Nat} {M : Nat → Nat → Nat → Int32} {a0 : AS} {ρ : YR} {w : Nat} {r0 : AS × Int32} (C : cx p s m args meth c D E (Aof (mx M a0, ρ) [] s.heap.size) cX9_goes 5 "TradeLineModel") (hr : meth.sig.returnType = none) (hz : s.heap.size = sz) (hρ : rsh ρ) {a : AS} {x1 x2 x3 : Int32}   (h : f_X9_goes  w a x1 x2 x3 = some r0) : G p l e ({ frames := 1, cells := 0, slots := 0, locals := 22 } : Room) s m args below meth c D E (Aof (mx M a0, ρ) [] s.heap.size) 5 (MQ below (cQ D E sz (mx M a0, ρ) [] (pV (fun u => u = ((mx M r0.1, ρ), [])))) args s 0 0 (Aof (mx M a0, ρ) [] s.heap.size)) (mx M a, ρ) [] 0 0 0 [(0, .ref (ρ.2.2.2 40 0)), (1, .int x1), (2, .int x2), (3, .int x3)] [] := by
  unfold f_X9_goes at h
  refine g_iconst (v := (1 : Int32)) C dX9_goes_0 (by decide) ?_
  refine g_iload_n C dX9_goes_1 rfl 1 rfl ?_
  refine g_isub C dX9_goes_2 ?_
  refine q_topi (fun t1 et1 => ?_)
  replace h := yl_of h et1
  refine g_istore (lv' := [(4, .int t1), (0, .ref (ρ.2.2.2 40 0)), (1, .int x1), (2, .int x2), (3, .int x3)]) C dX9_goes_3 (by decide) rfl ?_
  refine g_aload_n C dX9_goes_5 rfl 1 rfl ?_
  refine g_get (k := 40) (i := 0) (ref := "TradeLineModel") (v := .ref (ρ.2.2.2 (40 + 21) 0)) C rfl (lvY0 hρ) rfl rfl inGX9 21 (by decide) gw_1350 (fun _ h => h) rfl dX9_goes_6 ?_
  refine g_aload_n C dX9_goes_9 rfl 1 rfl ?_
  refine g_iload C dX9_goes_10 0 rfl ?_
  refine g_aload_n C dX9_goes_12 rfl 1 rfl ?_
  refine g_get (k := 40) (i := 0) (ref := "TradeLineModel") (v := .ref (ρ.2.2.2 (40 + 20) 0)) C rfl (lvY0 hρ) rfl rfl inGX9 20 (by decide) gw_1349 (fun _ h => h) rfl dX9_goes_13 ?_
  refine g_iload C dX9_goes_16 0 rfl ?_
  obtain ⟨g2, h⟩ := of_guard h
  refine q_iald C hρ (j := 20) (N := 2) (List.mem_of_getElem? (i := 17) rfl) rfl rfl g2 dX9_goes_18 ?_
  obtain ⟨v3, hv3, h⟩ := bind_of h
  refine g_cVi (n := 2) (exc := []) (exr := []) C [_, _] _ rfl rfl [] [] rfl rfl rfl rfl (fun _ h => absurd h (by simp)) (fun _ h => absurd h (by simp)) (fun _ h => absurd h (by simp)) (fun sz => k_X9_placeOf l M ρ hρ w _ _ _ _ hv3 D E sz) rfl gw_1484 gw_9 gw_1481 gw_1483 gs_43 ⟨by decide +kernel, by decide +kernel, by decide +kernel⟩ ⟨rfl, rfl⟩ ⟨Nat.le_of_ble_eq_true rfl, Nat.le_of_ble_eq_true rfl⟩ (rcvT (lvY0 hρ) rfl rfl rfl) (Nat.le_of_ble_eq_true rfl) dX9_goes_19 ⟨by decide, by decide⟩ (fun r u hp hx => ?_)
  obtain ⟨er, rfl⟩ := hp
  rw [er]
  try dsimp only [List.append_nil]
  refine g_iconst (v := (2 : Int32)) C dX9_goes_22 (by decide) ?_
  refine g_sipush (v := (8192 : Int32)) C dX9_goes_23 (by decide) ?_
  refine g_iload_n C dX9_goes_26 rfl 3 rfl ?_
  refine g_imul C dX9_goes_27 ?_
  refine g_iload_n C dX9_goes_28 rfl 4 rfl ?_
  refine g_iadd C dX9_goes_29 ?_
  refine g_imul C dX9_goes_30 ?_
  obtain ⟨g4, h⟩ := of_guard h
  refine q_iast C hρ (j := 21) (N := 131072) (List.mem_of_getElem? (i := 18) rfl) rfl rfl g4 dX9_goes_31 (fun a5 ea5 => ?_)
  replace h := yl_of h ea5
  refine g_aload_n C dX9_goes_32 rfl 1 rfl ?_
  refine g_get (k := 40) (i := 0) (ref := "TradeLineModel") (v := .ref (ρ.2.2.2 (40 + 20) 0)) C rfl (lvY0 hρ) rfl rfl inGX9 20 (by decide) gw_1349 (fun _ h => h) rfl dX9_goes_33 ?_
  refine g_iload C dX9_goes_36 0 rfl ?_
  refine g_dup2 C dX9_goes_38 rfl rfl ?_
  refine q_iald C hρ (j := 20) (N := 2) (List.mem_of_getElem? (i := 17) rfl) rfl rfl g2 dX9_goes_39 ?_
  refine g_iconst (v := (1 : Int32)) C dX9_goes_40 (by decide) ?_
  refine g_iadd C dX9_goes_41 ?_
  refine q_iast C hρ (j := 20) (N := 2) (List.mem_of_getElem? (i := 17) rfl) rfl rfl g2 dX9_goes_42 (fun a6 ea6 => ?_)
  replace h := yl_of h ea6
  refine g_aload_n C dX9_goes_43 rfl 1 rfl ?_
  refine g_get (k := 40) (i := 0) (ref := "TradeLineModel") (v := .ref (ρ.2.2.2 (40 + 9) 0)) C rfl (lvY0 hρ) rfl rfl inGX9 9 (by decide) gw_1338 (fun _ h => h) rfl dX9_goes_44 ?_
  refine g_iload_n C dX9_goes_47 rfl 2 rfl ?_
  refine g_aload_n C dX9_goes_48 rfl 1 rfl ?_
  refine g_get (k := 40) (i := 0) (ref := "TradeLineModel") (v := .int (a6 0 1)) C rfl (lvY0 hρ) rfl rfl inGX9 1 (by decide) gw_1330 (fun _ h => h) rfl dX9_goes_49 ?_
  obtain ⟨g7, h⟩ := of_guard h
  refine q_iast C hρ (j := 9) (N := 2) (List.mem_of_getElem? (i := 6) rfl) rfl rfl g7 dX9_goes_52 (fun a8 ea8 => ?_)
  replace h := yl_of h ea8
  obtain rfl := Option.some.inj h
  exact g_vret C hr hz ⟨rfl, rfl, fun _ => rfl, fun _ => rfl⟩ rfl (fun j x h => by simp at h) dX9_goes_53
theorem k_X9_goes (l : Launch) (M : Nat → Nat → Nat → Int32) (ρ : YR) (hρ : rsh ρ) (w : Nat) (a : AS) (x1 x2 x3 : Int32) (r0 : AS × Int32) (h : f_X9_goes w a x1 x2 x3 = some r0) : ∀ D E sz, Met l yX9_goes gwX9_goes ({ frames := 1, cells := 0, slots := 0, locals := 22 } : Room) (cP D E sz (mx M a, ρ) [] [.ref (ρ.2.2.2 40 0), .int x1, .int x2, .int x3]) (cQ D E sz (mx M a, ρ) [] (pV (fun u => u = ((mx M r0.1, ρ), [])))) (0) (0) (Aof (mx M a, ρ) [] sz) := by
  intro D E sz
  refine g_of (cc := cX9_goes) (maxL := 5) (ret := none) (own := "TradeLineModel") (by decide) rfl rfl (Nat.le_of_ble_eq_true rfl) ?_
  intro p e s m args below meth c C hr hin hz ha hwr
  refine g_lv [0, 1, 2, 3] rfl ?_
  exact lb_X9_goes_0 C hr hz hρ h
noncomputable def f_X9_sends  (w : Nat) (a : AS) (x1 x2 x3 x4 x5 x6 : Int32) : Option (AS × Int32) := bif ixB x1 2 then yl (up2 a 4 x1.toNatClampNeg ((a 4 x1.toNatClampNeg) + (1 : Int32))) (fun a2 => yl ((((8192 : Int32) * x1) + (a2 4 x1.toNatClampNeg))) (fun t3 => bif ixB t3 16384 then yl (up2 a2 11 t3.toNatClampNeg x2) (fun a5 => yl (up2 a5 12 t3.toNatClampNeg (a5 0 1)) (fun a6 => yl (up2 a6 13 t3.toNatClampNeg (vp_nar .boolean (0 : Int32))) (fun a7 => yl (up2 a7 14 t3.toNatClampNeg x3) (fun a8 => yl (up2 a8 15 t3.toNatClampNeg x4) (fun a9 => yl (up2 a9 16 t3.toNatClampNeg x5) (fun a10 => yl (up2 a10 17 t3.toNatClampNeg x6) (fun a11 => (if (a11 0 2) = (0 : Int32) then (some (a11, (0 : Int32))) else ((f_X9_goes w a11 x1 (a11 4 x1.toNatClampNeg) (0 : Int32)).bind (fun v12 => some (v12.1, (0 : Int32)))))))))))) else none)) else none
set_option maxHeartbeats 4000000 in
set_option maxRecDepth 100000 in
theorem lb_X9_sends_0 {p : Program} {l : Launch} {e : Env} {s : State} {m : MethodId} {args : Array Value} {below : List Frame} {meth : Method} {c : Code} {D : va_G} {E : Nat → ClassId} {sz : Nat} {M : Nat → Nat → Nat → Int32} {a0 : AS} {ρ : YR} {w : Nat} {r0 : AS × Int32} (C : cx p s m args meth c D E (Aof (mx M a0, ρ) [] s.heap.size) cX9_sends 8 "TradeLineModel") (hr : meth.sig.returnType = none) (hz : s.heap.size = sz) (hρ : rsh ρ) {a : AS} {x1 x2 x3 x4 x5 x6 : Int32}   (h : f_X9_sends  w a x1 x2 x3 x4 x5 x6 = some r0) : G p l e ({ frames := 2, cells := 0, slots := 0, locals := 46 } : Room) s m args below meth c D E (Aof (mx M a0, ρ) [] s.heap.size) 8 (MQ below (cQ D E sz (mx M a0, ρ) [] (pV (fun u => u = ((mx M r0.1, ρ), [])))) args s 0 0 (Aof (mx M a0, ρ) [] s.heap.size)) (mx M a, ρ) [] 0 0 0 [(0, .ref (ρ.2.2.2 40 0)), (1, .int x1), (2, .int x2), (3, .int x3), (4, .int x4), (5, .int x5), (6, .int x6)] [] := by
  unfold f_X9_sends at h
  refine g_aload_n C dX9_sends_0 rfl 0 rfl ?_
  refine g_get (k := 40) (i := 0) (ref := "TradeLineModel") (v := .ref (ρ.2.2.2 (40 + 4) 0)) C rfl (lvY0 hρ) rfl rfl inGX9 4 (by decide) gw_1333 (fun _ h => h) rfl dX9_sends_1 ?_
  refine g_iload_n C dX9_sends_4 rfl 1 rfl ?_
  refine g_dup2 C dX9_sends_5 rfl rfl ?_
  obtain ⟨g1, h⟩ := of_guard h
  refine q_iald C hρ (j := 4) (N := 2) (List.mem_of_getElem? (i := 1) rfl) rfl rfl g1 dX9_sends_6 ?_
  refine g_iconst (v := (1 : Int32)) C dX9_sends_7 (by decide) ?_
  refine g_iadd C dX9_sends_8 ?_
  refine q_iast C hρ (j := 4) (N := 2) (List.mem_of_getElem? (i := 1) rfl) rfl rfl g1 dX9_sends_9 (fun a2 ea2 => ?_)
  replace h := yl_of h ea2
  refine g_sipush (v := (8192 : Int32)) C dX9_sends_10 (by decide) ?_
  refine g_iload_n C dX9_sends_13 rfl 1 rfl ?_
  refine g_imul C dX9_sends_14 ?_
  refine g_aload_n C dX9_sends_15 rfl 0 rfl ?_
  refine g_get (k := 40) (i := 0) (ref := "TradeLineModel") (v := .ref (ρ.2.2.2 (40 + 4) 0)) C rfl (lvY0 hρ) rfl rfl inGX9 4 (by decide) gw_1333 (fun _ h => h) rfl dX9_sends_16 ?_
  refine g_iload_n C dX9_sends_19 rfl 1 rfl ?_
  refine q_iald C hρ (j := 4) (N := 2) (List.mem_of_getElem? (i := 1) rfl) rfl rfl g1 dX9_sends_20 ?_
  refine g_iadd C dX9_sends_21 ?_
  refine q_topi (fun t3 et3 => ?_)
  replace h := yl_of h et3
  refine g_istore (lv' := [(7, .int t3), (0, .ref (ρ.2.2.2 40 0)), (1, .int x1), (2, .int x2), (3, .int x3), (4, .int x4), (5, .int x5), (6, .int x6)]) C dX9_sends_22 (by decide) rfl ?_
  refine g_aload_n C dX9_sends_24 rfl 1 rfl ?_
  refine g_get (k := 40) (i := 0) (ref := "TradeLineModel") (v := .ref (ρ.2.2.2 (40 + 11) 0)) C rfl (lvY0 hρ) rfl rfl inGX9 11 (by decide) gw_1340 (fun _ h => h) rfl dX9_sends_25 ?_
  refine g_iload C dX9_sends_28 0 rfl ?_
  refine g_iload_n C dX9_sends_30 rfl 3 rfl ?_
  obtain ⟨g4, h⟩ := of_guard h
  refine q_iast C hρ (j := 11) (N := 16384) (List.mem_of_getElem? (i := 8) rfl) rfl rfl g4 dX9_sends_31 (fun a5 ea5 => ?_)
  replace h := yl_of h ea5
  refine g_aload_n C dX9_sends_32 rfl 1 rfl ?_
  refine g_get (k := 40) (i := 0) (ref := "TradeLineModel") (v := .ref (ρ.2.2.2 (40 + 12) 0)) C rfl (lvY0 hρ) rfl rfl inGX9 12 (by decide) gw_1341 (fun _ h => h) rfl dX9_sends_33 ?_
  refine g_iload C dX9_sends_36 0 rfl ?_
  refine g_aload_n C dX9_sends_38 rfl 1 rfl ?_
  refine g_get (k := 40) (i := 0) (ref := "TradeLineModel") (v := .int (a5 0 1)) C rfl (lvY0 hρ) rfl rfl inGX9 1 (by decide) gw_1330 (fun _ h => h) rfl dX9_sends_39 ?_
  refine q_iast C hρ (j := 12) (N := 16384) (List.mem_of_getElem? (i := 9) rfl) rfl rfl g4 dX9_sends_42 (fun a6 ea6 => ?_)
  replace h := yl_of h ea6
  refine g_aload_n C dX9_sends_43 rfl 1 rfl ?_
  refine g_get (k := 40) (i := 0) (ref := "TradeLineModel") (v := .ref (ρ.2.2.2 (40 + 13) 0)) C rfl (lvY0 hρ) rfl rfl inGX9 13 (by decide) gw_1342 (fun _ h => h) rfl dX9_sends_44 ?_
  refine g_iload C dX9_sends_47 0 rfl ?_
  refine g_iconst (v := (0 : Int32)) C dX9_sends_49 (by decide) ?_
  refine q_zast C hρ (j := 13) (N := 16384) (List.mem_of_getElem? (i := 10) rfl) rfl rfl g4 dX9_sends_50 (fun a7 ea7 => ?_)
  replace h := yl_of h ea7
  refine g_aload_n C dX9_sends_51 rfl 1 rfl ?_
  refine g_get (k := 40) (i := 0) (ref := "TradeLineModel") (v := .ref (ρ.2.2.2 (40 + 14) 0)) C rfl (lvY0 hρ) rfl rfl inGX9 14 (by decide) gw_1343 (fun _ h => h) rfl dX9_sends_52 ?_
  refine g_iload C dX9_sends_55 0 rfl ?_
  refine g_iload_n C dX9_sends_57 rfl 4 rfl ?_
  refine q_iast C hρ (j := 14) (N := 16384) (List.mem_of_getElem? (i := 11) rfl) rfl rfl g4 dX9_sends_58 (fun a8 ea8 => ?_)
  replace h := yl_of h ea8
  refine g_aload_n C dX9_sends_59 rfl 1 rfl ?_
  refine g_get (k := 40) (i := 0) (ref := "TradeLineModel") (v := .ref (ρ.2.2.2 (40 + 15) 0)) C rfl (lvY0 hρ) rfl rfl inGX9 15 (by decide) gw_1344 (fun _ h => h) rfl dX9_sends_60 ?_
  refine g_iload C dX9_sends_63 0 rfl ?_
  refine g_iload C dX9_sends_65 5 rfl ?_
  refine q_iast C hρ (j := 15) (N := 16384) (List.mem_of_getElem? (i := 12) rfl) rfl rfl g4 dX9_sends_67 (fun a9 ea9 => ?_)
  replace h := yl_of h ea9
  refine g_aload_n C dX9_sends_68 rfl 1 rfl ?_
  refine g_get (k := 40) (i := 0) (ref := "TradeLineModel") (v := .ref (ρ.2.2.2 (40 + 16) 0)) C rfl (lvY0 hρ) rfl rfl inGX9 16 (by decide) gw_1345 (fun _ h => h) rfl dX9_sends_69 ?_
  refine g_iload C dX9_sends_72 0 rfl ?_
  refine g_iload C dX9_sends_74 6 rfl ?_
  refine q_iast C hρ (j := 16) (N := 16384) (List.mem_of_getElem? (i := 13) rfl) rfl rfl g4 dX9_sends_76 (fun a10 ea10 => ?_)
  replace h := yl_of h ea10
  refine g_aload_n C dX9_sends_77 rfl 1 rfl ?_
  refine g_get (k := 40) (i := 0) (ref := "TradeLineModel") (v := .ref (ρ.2.2.2 (40 + 17) 0)) C rfl (lvY0 hρ) rfl rfl inGX9 17 (by decide) gw_1346 (fun _ h => h) rfl dX9_sends_78 ?_
  refine g_iload C dX9_sends_81 0 rfl ?_
  refine g_iload C dX9_sends_83 7 rfl ?_
  refine q_iast C hρ (j := 17) (N := 16384) (List.mem_of_getElem? (i := 14) rfl) rfl rfl g4 dX9_sends_85 (fun a11 ea11 => ?_)
  replace h := yl_of h ea11
  refine g_aload_n C dX9_sends_86 rfl 1 rfl ?_
  refine g_get (k := 40) (i := 0) (ref := "TradeLineModel") (v := .int (a11 0 2)) C rfl (lvY0 hρ) rfl rfl inGX9 2 (by decide) gw_1331 (fun _ h => h) rfl dX9_sends_87 ?_
  refine g_if_eq (tgt := 105) C dX9_sends_90 (by decide) (fun c90 => ?_) (fun c90 => ?_)
  · replace h := (if_pos c90).symm.trans h
    obtain rfl := Option.some.inj h
    exact g_vret C hr hz ⟨rfl, rfl, fun _ => rfl, fun _ => rfl⟩ rfl (fun j x h => by simp at h) dX9_sends_105
  · replace h := (if_neg c90).symm.trans h
    refine g_aload_n C dX9_sends_93 rfl 1 rfl ?_
    refine g_iload_n C dX9_sends_94 rfl 2 rfl ?_
    refine g_aload_n C dX9_sends_95 rfl 1 rfl ?_
    refine g_get (k := 40) (i := 0) (ref := "TradeLineModel") (v := .ref (ρ.2.2.2 (40 + 4) 0)) C rfl (lvY0 hρ) rfl rfl inGX9 4 (by decide) gw_1333 (fun _ h => h) rfl dX9_sends_96 ?_
    refine g_iload_n C dX9_sends_99 rfl 2 rfl ?_
    refine q_iald C hρ (j := 4) (N := 2) (List.mem_of_getElem? (i := 1) rfl) rfl rfl g1 dX9_sends_100 ?_
    refine g_iconst (v := (0 : Int32)) C dX9_sends_101 (by decide) ?_
    obtain ⟨v12, hv12, h⟩ := bind_of h
    refine g_cVv (n := 3) (exc := []) (exr := []) C [_, _, _] _ rfl rfl [] [] rfl rfl rfl rfl (fun _ h => absurd h (by simp)) (fun _ h => absurd h (by simp)) (fun _ h => absurd h (by simp)) (fun sz => k_X9_goes l M ρ hρ w _ _ _ _ _ hv12 D E sz) rfl gw_1480 gw_9 gw_1477 gw_1479 gs_42 ⟨by decide +kernel, by decide +kernel, by decide +kernel⟩ ⟨rfl, rfl⟩ ⟨Nat.le_of_ble_eq_true rfl, Nat.le_of_ble_eq_true rfl⟩ (rcvT (lvY0 hρ) rfl rfl rfl) (Nat.le_of_ble_eq_true rfl) dX9_sends_102 ⟨by decide, by decide⟩ (fun u hp hx => ?_)
    obtain rfl := hp
    try dsimp only [List.append_nil]
    obtain rfl := Option.some.inj h
    exact g_vret C hr hz ⟨rfl, rfl, fun _ => rfl, fun _ => rfl⟩ rfl (fun j x h => by simp at h) dX9_sends_105
theorem k_X9_sends (l : Launch) (M : Nat → Nat → Nat → Int32) (ρ : YR) (hρ : rsh ρ) (w : Nat) (a : AS) (x1 x2 x3 x4 x5 x6 : Int32) (r0 : AS × Int32) (h : f_X9_sends w a x1 x2 x3 x4 x5 x6 = some r0) : ∀ D E sz, Met l yX9_sends gwX9_sends ({ frames := 2, cells := 0, slots := 0, locals := 46 } : Room) (cP D E sz (mx M a, ρ) [] [.ref (ρ.2.2.2 40 0), .int x1, .int x2, .int x3, .int x4, .int x5, .int x6]) (cQ D E sz (mx M a, ρ) [] (pV (fun u => u = ((mx M r0.1, ρ), [])))) (0) (0) (Aof (mx M a, ρ) [] sz) := by
  intro D E sz
  refine g_of (cc := cX9_sends) (maxL := 8) (ret := none) (own := "TradeLineModel") (by decide) rfl rfl (Nat.le_of_ble_eq_true rfl) ?_
  intro p e s m args below meth c C hr hin hz ha hwr
  refine g_lv [0, 1, 2, 3, 4, 5, 6] rfl ?_
  exact lb_X9_sends_0 C hr hz hρ h
noncomputable def f_X9_reports  (w : Nat) (a : AS) (x1 x2 x3 x4 : Int32) : Option (AS × Int32) := (f_X9_sends w a (1 : Int32) (8 : Int32) x1 x2 x3 x4).bind (fun v1 => some (v1.1, (0 : Int32)))
set_option maxHeartbeats 4000000 in
set_option maxRecDepth 100000 in
theorem lb_X9_reports_0 {p : Program} {l : Launch} {e : Env} {s : State} {m : MethodId} {args : Array Value} {below : List Frame} {meth : Method} {c : Code} {D : va_G} {E : Nat → ClassId} {sz : Nat} {M : Nat → Nat → Nat → Int32} {a0 : AS} {ρ : YR} {w : Nat} {r0 : AS × Int32} (C : cx p s m args meth c D E (Aof (mx M a0, ρ) [] s.heap.size) cX9_reports 5 "TradeLineModel") (hr : meth.sig.returnType = none) (hz : s.heap.size = sz) (hρ : rsh ρ) {a : AS} {x1 x2 x3 x4 : Int32}   (h : f_X9_reports  w a x1 x2 x3 x4 = some r0) : G p l e ({ frames := 3, cells := 0, slots := 0, locals := 73 } : Room) s m args below meth c D E (Aof (mx M a0, ρ) [] s.heap.size) 5 (MQ below (cQ D E sz (mx M a0, ρ) [] (pV (fun u => u = ((mx M r0.1, ρ), [])))) args s 0 0 (Aof (mx M a0, ρ) [] s.heap.size)) (mx M a, ρ) [] 0 0 0 [(0, .ref (ρ.2.2.2 40 0)), (1, .int x1), (2, .int x2), (3, .int x3), (4, .int x4)] [] := by
  unfold f_X9_reports at h
  refine g_aload_n C dX9_reports_0 rfl 0 rfl ?_
  refine g_iconst (v := (1 : Int32)) C dX9_reports_1 (by decide) ?_
  refine g_bipush (v := (8 : Int32)) C dX9_reports_2 (by decide) ?_
  refine g_iload_n C dX9_reports_4 rfl 1 rfl ?_
  refine g_iload_n C dX9_reports_5 rfl 2 rfl ?_
  refine g_iload_n C dX9_reports_6 rfl 3 rfl ?_
  refine g_iload C dX9_reports_7 4 rfl ?_
  obtain ⟨v1, hv1, h⟩ := bind_of h
  refine g_cVv (n := 6) (exc := []) (exr := []) C [_, _, _, _, _, _] _ rfl rfl [] [] rfl rfl rfl rfl (fun _ h => absurd h (by simp)) (fun _ h => absurd h (by simp)) (fun _ h => absurd h (by simp)) (fun sz => k_X9_sends l M ρ hρ w _ _ _ _ _ _ _ _ hv1 D E sz) rfl gw_1476 gw_9 gw_1473 gw_1475 gs_41 ⟨by decide +kernel, by decide +kernel, by decide +kernel⟩ ⟨rfl, rfl⟩ ⟨Nat.le_of_ble_eq_true rfl, Nat.le_of_ble_eq_true rfl⟩ (rcvT (lvY0 hρ) rfl rfl rfl) (Nat.le_of_ble_eq_true rfl) dX9_reports_9 ⟨by decide, by decide⟩ (fun u hp hx => ?_)
  obtain rfl := hp
  try dsimp only [List.append_nil]
  obtain rfl := Option.some.inj h
  exact g_vret C hr hz ⟨rfl, rfl, fun _ => rfl, fun _ => rfl⟩ rfl (fun j x h => by simp at h) dX9_reports_12
theorem k_X9_reports (l : Launch) (M : Nat → Nat → Nat → Int32) (ρ : YR) (hρ : rsh ρ) (w : Nat) (a : AS) (x1 x2 x3 x4 : Int32) (r0 : AS × Int32) (h : f_X9_reports w a x1 x2 x3 x4 = some r0) : ∀ D E sz, Met l yX9_reports gwX9_reports ({ frames := 3, cells := 0, slots := 0, locals := 73 } : Room) (cP D E sz (mx M a, ρ) [] [.ref (ρ.2.2.2 40 0), .int x1, .int x2, .int x3, .int x4]) (cQ D E sz (mx M a, ρ) [] (pV (fun u => u = ((mx M r0.1, ρ), [])))) (0) (0) (Aof (mx M a, ρ) [] sz) := by
  intro D E sz
  refine g_of (cc := cX9_reports) (maxL := 5) (ret := none) (own := "TradeLineModel") (by decide) rfl rfl (Nat.le_of_ble_eq_true rfl) ?_
  intro p e s m args below meth c C hr hin hz ha hwr
  refine g_lv [0, 1, 2, 3, 4] rfl ?_
  exact lb_X9_reports_0 C hr hz hρ h
noncomputable def b_X9_forgets_2 (k2 : AS → Int32 → Int32 → Option (AS × Int32)) (w : Nat) (a : AS) (x1 x2 : Int32) : Option (AS × Int32) := (if (8192 : Int32) ≤ x2 then (bif ixB x1 2 then yl (up2 a 6 x1.toNatClampNeg (0 : Int32)) (fun a2 => yl (up2 a2 7 x1.toNatClampNeg (0 : Int32)) (fun a3 => yl (up2 a3 3 x1.toNatClampNeg (vp_nar .boolean (0 : Int32))) (fun a4 => yl (up2 a4 19 x1.toNatClampNeg (0 : Int32)) (fun a5 => yl (up2 a5 20 x1.toNatClampNeg (0 : Int32)) (fun a6 => some (a6, (0 : Int32))))))) else none) else (bif ixB (((8192 : Int32) * x1) + x2) 16384 then yl (up2 a 18 (((8192 : Int32) * x1) + x2).toNatClampNeg (0 : Int32)) (fun a8 => yl (x2 + (1 : Int32)) (fun t9 => k2 a8 x1 t9)) else none))
set_option maxHeartbeats 4000000 in
set_option maxRecDepth 100000 in
theorem lb_X9_forgets_2 {p : Program} {l : Launch} {e : Env} {s : State} {m : MethodId} {args : Array Value} {below : List Frame} {meth : Method} {c : Code} {D : va_G} {E : Nat → ClassId} {sz : Nat} {M : Nat → Nat → Nat → Int32} {a0 : AS} {ρ : YR} {w : Nat} {r0 : AS × Int32} (C : cx p s m args meth c D E (Aof (mx M a0, ρ) [] s.heap.size) cX9_forgets 3 "TradeLineModel") (hr : meth.sig.returnType = none) (hz : s.heap.size = sz) (hρ : rsh ρ) {a : AS} {x1 x2 : Int32} {k2 : AS → Int32 → Int32 → Option (AS × Int32)} (hk2 : ∀ (a1 : AS) (z1 z2 : Int32), k2 a1 z1 z2 = some r0 → G p l e ({ frames := 0, cells := 0, slots := 0, locals := 0 } : Room) s m args below meth c D E (Aof (mx M a0, ρ) [] s.heap.size) 3 (MQ below (cQ D E sz (mx M a0, ρ) [] (pV (fun u => u = ((mx M r0.1, ρ), [])))) args s 0 0 (Aof (mx M a0, ρ) [] s.heap.size)) (mx M a1, ρ) [] 0 0 2 [(0, .ref (ρ.2.2.2 40 0)), (1, .int z1), (2, .int z2)] []) (h : b_X9_forgets_2 k2 w a x1 x2 = some r0) : G p l e ({ frames := 0, cells := 0, slots := 0, locals := 0 } : Room) s m args below meth c D E (Aof (mx M a0, ρ) [] s.heap.size) 3 (MQ below (cQ D E sz (mx M a0, ρ) [] (pV (fun u => u = ((mx M r0.1, ρ), [])))) args s 0 0 (Aof (mx M a0, ρ) [] s.heap.size)) (mx M a, ρ) [] 0 0 2 [(0, .ref (ρ.2.2.2 40 0)), (1, .int x1), (2, .int x2)] [] := by
  unfold b_X9_forgets_2 at h
  refine g_iload_n C dX9_forgets_2 rfl 2 rfl ?_
  refine g_sipush (v := (8192 : Int32)) C dX9_forgets_3 (by decide) ?_
  refine g_icmp_ge (tgt := 28) C dX9_forgets_6 (by decide) (fun c6 => ?_) (fun c6 => ?_)
  · replace h := (if_pos c6).symm.trans h
    refine g_aload_n C dX9_forgets_28 rfl 0 rfl ?_
    refine g_get (k := 40) (i := 0) (ref := "TradeLineModel") (v := .ref (ρ.2.2.2 (40 + 6) 0)) C rfl (lvY0 hρ) rfl rfl inGX9 6 (by decide) gw_1335 (fun _ h => h) rfl dX9_forgets_29 ?_
    refine g_iload_n C dX9_forgets_32 rfl 1 rfl ?_
    refine g_iconst (v := (0 : Int32)) C dX9_forgets_33 (by decide) ?_
    obtain ⟨g1, h⟩ := of_guard h
    refine q_iast C hρ (j := 6) (N := 2) (List.mem_of_getElem? (i := 3) rfl) rfl rfl g1 dX9_forgets_34 (fun a2 ea2 => ?_)
    replace h := yl_of h ea2
    refine g_aload_n C dX9_forgets_35 rfl 0 rfl ?_
    refine g_get (k := 40) (i := 0) (ref := "TradeLineModel") (v := .ref (ρ.2.2.2 (40 + 7) 0)) C rfl (lvY0 hρ) rfl rfl inGX9 7 (by decide) gw_1336 (fun _ h => h) rfl dX9_forgets_36 ?_
    refine g_iload_n C dX9_forgets_39 rfl 1 rfl ?_
    refine g_iconst (v := (0 : Int32)) C dX9_forgets_40 (by decide) ?_
    refine q_iast C hρ (j := 7) (N := 2) (List.mem_of_getElem? (i := 4) rfl) rfl rfl g1 dX9_forgets_41 (fun a3 ea3 => ?_)
    replace h := yl_of h ea3
    refine g_aload_n C dX9_forgets_42 rfl 0 rfl ?_
    refine g_get (k := 40) (i := 0) (ref := "TradeLineModel") (v := .ref (ρ.2.2.2 (40 + 3) 0)) C rfl (lvY0 hρ) rfl rfl inGX9 3 (by decide) gw_1332 (fun _ h => h) rfl dX9_forgets_43 ?_
    refine g_iload_n C dX9_forgets_46 rfl 1 rfl ?_
    refine g_iconst (v := (0 : Int32)) C dX9_forgets_47 (by decide) ?_
    refine q_zast C hρ (j := 3) (N := 2) (List.mem_of_getElem? (i := 0) rfl) rfl rfl g1 dX9_forgets_48 (fun a4 ea4 => ?_)
    replace h := yl_of h ea4
    refine g_aload_n C dX9_forgets_49 rfl 0 rfl ?_
    refine g_get (k := 40) (i := 0) (ref := "TradeLineModel") (v := .ref (ρ.2.2.2 (40 + 19) 0)) C rfl (lvY0 hρ) rfl rfl inGX9 19 (by decide) gw_1348 (fun _ h => h) rfl dX9_forgets_50 ?_
    refine g_iload_n C dX9_forgets_53 rfl 1 rfl ?_
    refine g_iconst (v := (0 : Int32)) C dX9_forgets_54 (by decide) ?_
    refine q_iast C hρ (j := 19) (N := 2) (List.mem_of_getElem? (i := 16) rfl) rfl rfl g1 dX9_forgets_55 (fun a5 ea5 => ?_)
    replace h := yl_of h ea5
    refine g_aload_n C dX9_forgets_56 rfl 0 rfl ?_
    refine g_get (k := 40) (i := 0) (ref := "TradeLineModel") (v := .ref (ρ.2.2.2 (40 + 20) 0)) C rfl (lvY0 hρ) rfl rfl inGX9 20 (by decide) gw_1349 (fun _ h => h) rfl dX9_forgets_57 ?_
    refine g_iload_n C dX9_forgets_60 rfl 1 rfl ?_
    refine g_iconst (v := (0 : Int32)) C dX9_forgets_61 (by decide) ?_
    refine q_iast C hρ (j := 20) (N := 2) (List.mem_of_getElem? (i := 17) rfl) rfl rfl g1 dX9_forgets_62 (fun a6 ea6 => ?_)
    replace h := yl_of h ea6
    obtain rfl := Option.some.inj h
    exact g_vret C hr hz ⟨rfl, rfl, fun _ => rfl, fun _ => rfl⟩ rfl (fun j x h => by simp at h) dX9_forgets_63
  · replace h := (if_neg c6).symm.trans h
    refine g_aload_n C dX9_forgets_9 rfl 0 rfl ?_
    refine g_get (k := 40) (i := 0) (ref := "TradeLineModel") (v := .ref (ρ.2.2.2 (40 + 18) 0)) C rfl (lvY0 hρ) rfl rfl inGX9 18 (by decide) gw_1347 (fun _ h => h) rfl dX9_forgets_10 ?_
    refine g_sipush (v := (8192 : Int32)) C dX9_forgets_13 (by decide) ?_
    refine g_iload_n C dX9_forgets_16 rfl 1 rfl ?_
    refine g_imul C dX9_forgets_17 ?_
    refine g_iload_n C dX9_forgets_18 rfl 2 rfl ?_
    refine g_iadd C dX9_forgets_19 ?_
    refine g_iconst (v := (0 : Int32)) C dX9_forgets_20 (by decide) ?_
    obtain ⟨g7, h⟩ := of_guard h
    refine q_iast C hρ (j := 18) (N := 16384) (List.mem_of_getElem? (i := 15) rfl) rfl rfl g7 dX9_forgets_21 (fun a8 ea8 => ?_)
    replace h := yl_of h ea8
    obtain ⟨t9, et9⟩ : ∃ y : Int32, x2 + (1 : Int32) = y := ⟨_, rfl⟩
    replace h := yl_of h et9
    refine g_iinc (v := t9) (lv' := [(2, .int t9), (0, .ref (ρ.2.2.2 40 0)), (1, .int x1)]) C dX9_forgets_22 2 rfl (by rw [← et9]; rfl) (by decide) rfl ?_
    refine g_goto (tgt := 2) C dX9_forgets_25 (by decide) ?_
    refine g_lv [1, 2, 0] rfl ?_
    exact hk2 _ _ _ h
noncomputable def l_X9_forgets_2  (w : Nat) : Nat → AS → Int32 → Int32 → Option (AS × Int32)
  | 0 => fun _ _ _ => none
  | n + 1 => fun a x1 x2 => b_X9_forgets_2  (l_X9_forgets_2  w n) w a x1 x2
theorem ll_X9_forgets_2 {p : Program} {l : Launch} {e : Env} {s : State} {m : MethodId} {args : Array Value} {below : List Frame} {meth : Method} {c : Code} {D : va_G} {E : Nat → ClassId} {sz : Nat} {M : Nat → Nat → Nat → Int32} {a0 : AS} {ρ : YR} {w : Nat} {r0 : AS × Int32} (C : cx p s m args meth c D E (Aof (mx M a0, ρ) [] s.heap.size) cX9_forgets 3 "TradeLineModel") (hr : meth.sig.returnType = none) (hz : s.heap.size = sz) (hρ : rsh ρ)   : ∀ (n : Nat) (a : AS) (x1 x2 : Int32), l_X9_forgets_2  w n a x1 x2 = some r0 → G p l e ({ frames := 0, cells := 0, slots := 0, locals := 0 } : Room) s m args below meth c D E (Aof (mx M a0, ρ) [] s.heap.size) 3 (MQ below (cQ D E sz (mx M a0, ρ) [] (pV (fun u => u = ((mx M r0.1, ρ), [])))) args s 0 0 (Aof (mx M a0, ρ) [] s.heap.size)) (mx M a, ρ) [] 0 0 2 [(0, .ref (ρ.2.2.2 40 0)), (1, .int x1), (2, .int x2)] [] := by
  intro n
  induction n with
  | zero => exact fun a x1 x2 h => absurd (show (none : Option (AS × Int32)) = some r0 from h) (by simp)
  | succ n ih => exact fun a x1 x2 h => lb_X9_forgets_2 (w := w) C hr hz hρ  ih h
noncomputable def f_X9_forgets  (w : Nat) (a : AS) (x1 : Int32) : Option (AS × Int32) := l_X9_forgets_2  w w a x1 (0 : Int32)
set_option maxHeartbeats 4000000 in
set_option maxRecDepth 100000 in
theorem lb_X9_forgets_0 {p : Program} {l : Launch} {e : Env} {s : State} {m : MethodId} {args : Array Value} {below : List Frame} {meth : Method} {c : Code} {D : va_G} {E : Nat → ClassId} {sz : Nat} {M : Nat → Nat → Nat → Int32} {a0 : AS} {ρ : YR} {w : Nat} {r0 : AS × Int32} (C : cx p s m args meth c D E (Aof (mx M a0, ρ) [] s.heap.size) cX9_forgets 3 "TradeLineModel") (hr : meth.sig.returnType = none) (hz : s.heap.size = sz) (hρ : rsh ρ) {a : AS} {x1 : Int32}   (h : f_X9_forgets  w a x1 = some r0) : G p l e ({ frames := 0, cells := 0, slots := 0, locals := 0 } : Room) s m args below meth c D E (Aof (mx M a0, ρ) [] s.heap.size) 3 (MQ below (cQ D E sz (mx M a0, ρ) [] (pV (fun u => u = ((mx M r0.1, ρ), [])))) args s 0 0 (Aof (mx M a0, ρ) [] s.heap.size)) (mx M a, ρ) [] 0 0 0 [(0, .ref (ρ.2.2.2 40 0)), (1, .int x1)] [] := by
  unfold f_X9_forgets at h
  refine g_iconst (v := (0 : Int32)) C dX9_forgets_0 (by decide) ?_
  refine g_istore_n (lv' := [(2, .int (0 : Int32)), (0, .ref (ρ.2.2.2 40 0)), (1, .int x1)]) C dX9_forgets_1 rfl (by decide) rfl ?_
  refine g_lv [1, 2, 0] rfl ?_
  exact ll_X9_forgets_2 C hr hz hρ  w _ _ _ h
theorem k_X9_forgets (l : Launch) (M : Nat → Nat → Nat → Int32) (ρ : YR) (hρ : rsh ρ) (w : Nat) (a : AS) (x1 : Int32) (r0 : AS × Int32) (h : f_X9_forgets w a x1 = some r0) : ∀ D E sz, Met l yX9_forgets gwX9_forgets ({ frames := 0, cells := 0, slots := 0, locals := 0 } : Room) (cP D E sz (mx M a, ρ) [] [.ref (ρ.2.2.2 40 0), .int x1]) (cQ D E sz (mx M a, ρ) [] (pV (fun u => u = ((mx M r0.1, ρ), [])))) (0) (0) (Aof (mx M a, ρ) [] sz) := by
  intro D E sz
  refine g_of (cc := cX9_forgets) (maxL := 3) (ret := none) (own := "TradeLineModel") (by decide) rfl rfl (Nat.le_of_ble_eq_true rfl) ?_
  intro p e s m args below meth c C hr hin hz ha hwr
  refine g_lv [0, 1] rfl ?_
  exact lb_X9_forgets_0 C hr hz hρ h
noncomputable def f_X9_goesDown  (w : Nat) (a : AS) : Option (AS × Int32) := bif ixB (0 : Int32) 2 then bif ixB (1 : Int32) 2 then yl (((a 20 (0 : Int32).toNatClampNeg) + (a 20 (1 : Int32).toNatClampNeg))) (fun t3 => yl (up2 a 0 2 (0 : Int32)) (fun a4 => (f_X9_forgets w a4 (0 : Int32)).bind (fun v5 => (f_X9_forgets w v5.1 (1 : Int32)).bind (fun v6 => some (v6.1, t3))))) else none else none
set_option maxHeartbeats 4000000 in
set_option maxRecDepth 100000 in
theorem lb_X9_goesDown_0 {p : Program} {l : Launch} {e : Env} {s : State} {m : MethodId} {args : Array Value} {below : List Frame} {meth : Method} {c : Code} {D : va_G} {E : Nat → ClassId} {sz : Nat} {M : Nat → Nat → Nat → Int32} {a0 : AS} {ρ : YR} {w : Nat} {r0 : AS × Int32} (C : cx p s m args meth c D E (Aof (mx M a0, ρ) [] s.heap.size) cX9_goesDown 2 "TradeLineModel") (hr : meth.sig.returnType = (some .int)) (hz : s.heap.size = sz) (hρ : rsh ρ) {a : AS}   (h : f_X9_goesDown  w a  = some r0) : G p l e ({ frames := 1, cells := 0, slots := 0, locals := 22 } : Room) s m args below meth c D E (Aof (mx M a0, ρ) [] s.heap.size) 2 (MQ below (cQ D E sz (mx M a0, ρ) [] (pI (fun r u => r = r0.2 ∧ u = ((mx M r0.1, ρ), [])))) args s 0 0 (Aof (mx M a0, ρ) [] s.heap.size)) (mx M a, ρ) [] 0 0 0 [(0, .ref (ρ.2.2.2 40 0))] [] := by
  unfold f_X9_goesDown at h
  refine g_aload_n C dX9_goesDown_0 rfl 0 rfl ?_
  refine g_get (k := 40) (i := 0) (ref := "TradeLineModel") (v := .ref (ρ.2.2.2 (40 + 20) 0)) C rfl (lvY0 hρ) rfl rfl inGX9 20 (by decide) gw_1349 (fun _ h => h) rfl dX9_goesDown_1 ?_
  refine g_iconst (v := (0 : Int32)) C dX9_goesDown_4 (by decide) ?_
  obtain ⟨g1, h⟩ := of_guard h
  refine q_iald C hρ (j := 20) (N := 2) (List.mem_of_getElem? (i := 17) rfl) rfl rfl g1 dX9_goesDown_5 ?_
  refine g_aload_n C dX9_goesDown_6 rfl 0 rfl ?_
  refine g_get (k := 40) (i := 0) (ref := "TradeLineModel") (v := .ref (ρ.2.2.2 (40 + 20) 0)) C rfl (lvY0 hρ) rfl rfl inGX9 20 (by decide) gw_1349 (fun _ h => h) rfl dX9_goesDown_7 ?_
  refine g_iconst (v := (1 : Int32)) C dX9_goesDown_10 (by decide) ?_
  obtain ⟨g2, h⟩ := of_guard h
  refine q_iald C hρ (j := 20) (N := 2) (List.mem_of_getElem? (i := 17) rfl) rfl rfl g2 dX9_goesDown_11 ?_
  refine g_iadd C dX9_goesDown_12 ?_
  refine q_topi (fun t3 et3 => ?_)
  replace h := yl_of h et3
  refine g_istore_n (lv' := [(1, .int t3), (0, .ref (ρ.2.2.2 40 0))]) C dX9_goesDown_13 rfl (by decide) rfl ?_
  refine g_aload_n C dX9_goesDown_14 rfl 1 rfl ?_
  refine g_iconst (v := (0 : Int32)) C dX9_goesDown_15 (by decide) ?_
  refine q_put C hρ (j := 2) (by decide) gw_1331 rfl rfl (tyX9_ok 2 (by decide)) rfl rfl (by simp [fvs, up1]) dX9_goesDown_16 (fun a4 ea4 => ?_)
  replace h := yl_of h ea4
  refine g_aload_n C dX9_goesDown_19 rfl 1 rfl ?_
  refine g_iconst (v := (0 : Int32)) C dX9_goesDown_20 (by decide) ?_
  obtain ⟨v5, hv5, h⟩ := bind_of h
  refine g_cVv (n := 1) (exc := []) (exr := []) C [_] _ rfl rfl [] [] rfl rfl rfl rfl (fun _ h => absurd h (by simp)) (fun _ h => absurd h (by simp)) (fun _ h => absurd h (by simp)) (fun sz => k_X9_forgets l M ρ hρ w _ _ _ hv5 D E sz) rfl gw_1497 gw_9 gw_1494 gw_1496 gs_45 ⟨by decide +kernel, by decide +kernel, by decide +kernel⟩ ⟨rfl, rfl⟩ ⟨Nat.le_of_ble_eq_true rfl, Nat.le_of_ble_eq_true rfl⟩ (rcvT (lvY0 hρ) rfl rfl rfl) (Nat.le_of_ble_eq_true rfl) dX9_goesDown_21 ⟨by decide, by decide⟩ (fun u hp hx => ?_)
  obtain rfl := hp
  try dsimp only [List.append_nil]
  refine g_aload_n C dX9_goesDown_24 rfl 1 rfl ?_
  refine g_iconst (v := (1 : Int32)) C dX9_goesDown_25 (by decide) ?_
  obtain ⟨v6, hv6, h⟩ := bind_of h
  refine g_cVv (n := 1) (exc := []) (exr := []) C [_] _ rfl rfl [] [] rfl rfl rfl rfl (fun _ h => absurd h (by simp)) (fun _ h => absurd h (by simp)) (fun _ h => absurd h (by simp)) (fun sz => k_X9_forgets l M ρ hρ w _ _ _ hv6 D E sz) rfl gw_1497 gw_9 gw_1494 gw_1496 gs_45 ⟨by decide +kernel, by decide +kernel, by decide +kernel⟩ ⟨rfl, rfl⟩ ⟨Nat.le_of_ble_eq_true rfl, Nat.le_of_ble_eq_true rfl⟩ (rcvT (lvY0 hρ) rfl rfl rfl) (Nat.le_of_ble_eq_true rfl) dX9_goesDown_26 ⟨by decide, by decide⟩ (fun u hp hx => ?_)
  obtain rfl := hp
  try dsimp only [List.append_nil]
  refine g_iload_n C dX9_goesDown_29 rfl 0 rfl ?_
  obtain rfl := Option.some.inj h
  exact g_iret C hr rfl hz ⟨rfl, rfl, fun _ => rfl, fun _ => rfl⟩ ⟨rfl, rfl⟩ (fun j x h => by simp at h) dX9_goesDown_30
theorem k_X9_goesDown (l : Launch) (M : Nat → Nat → Nat → Int32) (ρ : YR) (hρ : rsh ρ) (w : Nat) (a : AS) (r0 : AS × Int32) (h : f_X9_goesDown w a  = some r0) : ∀ D E sz, Met l yX9_goesDown gwX9_goesDown ({ frames := 1, cells := 0, slots := 0, locals := 22 } : Room) (cP D E sz (mx M a, ρ) [] [.ref (ρ.2.2.2 40 0)]) (cQ D E sz (mx M a, ρ) [] (pI (fun r u => r = r0.2 ∧ u = ((mx M r0.1, ρ), [])))) (0) (0) (Aof (mx M a, ρ) [] sz) := by
  intro D E sz
  refine g_of (cc := cX9_goesDown) (maxL := 2) (ret := (some .int)) (own := "TradeLineModel") (by decide) rfl rfl (Nat.le_of_ble_eq_true rfl) ?_
  intro p e s m args below meth c C hr hin hz ha hwr
  refine g_lv [0] rfl ?_
  exact lb_X9_goesDown_0 C hr hz hρ h
noncomputable def b_X9_connect_70 (k26 : AS → Int32 → Int32 → Option (AS × Int32)) (w : Nat) (a : AS) (x1 x2 s0 s1 : Int32) : Option (AS × Int32) := bif ixB s1 2 then yl (up2 a 5 s1.toNatClampNeg s0) (fun a10 => bif ixB x2 2 then yl (up2 a10 9 x2.toNatClampNeg (a10 0 1)) (fun a12 => yl (up2 a12 10 x2.toNatClampNeg (a12 0 1)) (fun a13 => yl (x2 + (1 : Int32)) (fun t14 => k26 a13 x1 t14))) else none) else none
set_option maxHeartbeats 4000000 in
set_option maxRecDepth 100000 in
theorem lb_X9_connect_70 {p : Program} {l : Launch} {e : Env} {s : State} {m : MethodId} {args : Array Value} {below : List Frame} {meth : Method} {c : Code} {D : va_G} {E : Nat → ClassId} {sz : Nat} {M : Nat → Nat → Nat → Int32} {a0 : AS} {ρ : YR} {w : Nat} {r0 : AS × Int32} (C : cx p s m args meth c D E (Aof (mx M a0, ρ) [] s.heap.size) cX9_connect 3 "TradeLineModel") (hr : meth.sig.returnType = none) (hz : s.heap.size = sz) (hρ : rsh ρ) {a : AS} {x1 x2 s0 s1 : Int32} {k26 : AS → Int32 → Int32 → Option (AS × Int32)} (hk26 : ∀ (a1 : AS) (z1 z2 : Int32), k26 a1 z1 z2 = some r0 → G p l e ({ frames := 3, cells := 0, slots := 0, locals := 73 } : Room) s m args below meth c D E (Aof (mx M a0, ρ) [] s.heap.size) 3 (MQ below (cQ D E sz (mx M a0, ρ) [] (pV (fun u => u = ((mx M r0.1, ρ), [])))) args s 0 0 (Aof (mx M a0, ρ) [] s.heap.size)) (mx M a1, ρ) [] 0 0 26 [(0, .ref (ρ.2.2.2 40 0)), (1, .int z1), (2, .int z2)] []) (h : b_X9_connect_70 k26 w a x1 x2 s0 s1 = some r0) : G p l e ({ frames := 3, cells := 0, slots := 0, locals := 73 } : Room) s m args below meth c D E (Aof (mx M a0, ρ) [] s.heap.size) 3 (MQ below (cQ D E sz (mx M a0, ρ) [] (pV (fun u => u = ((mx M r0.1, ρ), [])))) args s 0 0 (Aof (mx M a0, ρ) [] s.heap.size)) (mx M a, ρ) [] 0 0 70 [(0, .ref (ρ.2.2.2 40 0)), (1, .int x1), (2, .int x2)] [.int s0, .int s1, .ref (ρ.2.2.2 (40 + 5) 0)] := by
  unfold b_X9_connect_70 at h
  obtain ⟨g9, h⟩ := of_guard h
  refine q_iast C hρ (j := 5) (N := 2) (List.mem_of_getElem? (i := 2) rfl) rfl rfl g9 dX9_connect_70 (fun a10 ea10 => ?_)
  replace h := yl_of h ea10
  refine g_aload_n C dX9_connect_71 rfl 0 rfl ?_
  refine g_get (k := 40) (i := 0) (ref := "TradeLineModel") (v := .ref (ρ.2.2.2 (40 + 9) 0)) C rfl (lvY0 hρ) rfl rfl inGX9 9 (by decide) gw_1338 (fun _ h => h) rfl dX9_connect_72 ?_
  refine g_iload_n C dX9_connect_75 rfl 2 rfl ?_
  refine g_aload_n C dX9_connect_76 rfl 0 rfl ?_
  refine g_get (k := 40) (i := 0) (ref := "TradeLineModel") (v := .int (a10 0 1)) C rfl (lvY0 hρ) rfl rfl inGX9 1 (by decide) gw_1330 (fun _ h => h) rfl dX9_connect_77 ?_
  obtain ⟨g11, h⟩ := of_guard h
  refine q_iast C hρ (j := 9) (N := 2) (List.mem_of_getElem? (i := 6) rfl) rfl rfl g11 dX9_connect_80 (fun a12 ea12 => ?_)
  replace h := yl_of h ea12
  refine g_aload_n C dX9_connect_81 rfl 0 rfl ?_
  refine g_get (k := 40) (i := 0) (ref := "TradeLineModel") (v := .ref (ρ.2.2.2 (40 + 10) 0)) C rfl (lvY0 hρ) rfl rfl inGX9 10 (by decide) gw_1339 (fun _ h => h) rfl dX9_connect_82 ?_
  refine g_iload_n C dX9_connect_85 rfl 2 rfl ?_
  refine g_aload_n C dX9_connect_86 rfl 0 rfl ?_
  refine g_get (k := 40) (i := 0) (ref := "TradeLineModel") (v := .int (a12 0 1)) C rfl (lvY0 hρ) rfl rfl inGX9 1 (by decide) gw_1330 (fun _ h => h) rfl dX9_connect_87 ?_
  refine q_iast C hρ (j := 10) (N := 2) (List.mem_of_getElem? (i := 7) rfl) rfl rfl g11 dX9_connect_90 (fun a13 ea13 => ?_)
  replace h := yl_of h ea13
  obtain ⟨t14, et14⟩ : ∃ y : Int32, x2 + (1 : Int32) = y := ⟨_, rfl⟩
  replace h := yl_of h et14
  refine g_iinc (v := t14) (lv' := [(2, .int t14), (0, .ref (ρ.2.2.2 40 0)), (1, .int x1)]) C dX9_connect_91 2 rfl (by rw [← et14]; rfl) (by decide) rfl ?_
  refine g_goto (tgt := 26) C dX9_connect_94 (by decide) ?_
  refine g_lv [1, 2, 0] rfl ?_
  exact hk26 _ _ _ h
noncomputable def b_X9_connect_50 (k26 : AS → Int32 → Int32 → Option (AS × Int32)) (w : Nat) (a : AS) (x1 x2 s0 s1 : Int32) : Option (AS × Int32) := bif ixB s1 2 then yl (up2 a 4 s1.toNatClampNeg s0) (fun a7 => (if x1 = (0 : Int32) then (bif ixB x2 2 then b_X9_connect_70 k26 w a7 x1 x2 (a7 5 x2.toNatClampNeg) x2 else none) else (b_X9_connect_70 k26 w a7 x1 x2 (1 : Int32) x2))) else none
set_option maxHeartbeats 4000000 in
set_option maxRecDepth 100000 in
theorem lb_X9_connect_50 {p : Program} {l : Launch} {e : Env} {s : State} {m : MethodId} {args : Array Value} {below : List Frame} {meth : Method} {c : Code} {D : va_G} {E : Nat → ClassId} {sz : Nat} {M : Nat → Nat → Nat → Int32} {a0 : AS} {ρ : YR} {w : Nat} {r0 : AS × Int32} (C : cx p s m args meth c D E (Aof (mx M a0, ρ) [] s.heap.size) cX9_connect 3 "TradeLineModel") (hr : meth.sig.returnType = none) (hz : s.heap.size = sz) (hρ : rsh ρ) {a : AS} {x1 x2 s0 s1 : Int32} {k26 : AS → Int32 → Int32 → Option (AS × Int32)} (hk26 : ∀ (a1 : AS) (z1 z2 : Int32), k26 a1 z1 z2 = some r0 → G p l e ({ frames := 3, cells := 0, slots := 0, locals := 73 } : Room) s m args below meth c D E (Aof (mx M a0, ρ) [] s.heap.size) 3 (MQ below (cQ D E sz (mx M a0, ρ) [] (pV (fun u => u = ((mx M r0.1, ρ), [])))) args s 0 0 (Aof (mx M a0, ρ) [] s.heap.size)) (mx M a1, ρ) [] 0 0 26 [(0, .ref (ρ.2.2.2 40 0)), (1, .int z1), (2, .int z2)] []) (h : b_X9_connect_50 k26 w a x1 x2 s0 s1 = some r0) : G p l e ({ frames := 3, cells := 0, slots := 0, locals := 73 } : Room) s m args below meth c D E (Aof (mx M a0, ρ) [] s.heap.size) 3 (MQ below (cQ D E sz (mx M a0, ρ) [] (pV (fun u => u = ((mx M r0.1, ρ), [])))) args s 0 0 (Aof (mx M a0, ρ) [] s.heap.size)) (mx M a, ρ) [] 0 0 50 [(0, .ref (ρ.2.2.2 40 0)), (1, .int x1), (2, .int x2)] [.int s0, .int s1, .ref (ρ.2.2.2 (40 + 4) 0)] := by
  unfold b_X9_connect_50 at h
  obtain ⟨g6, h⟩ := of_guard h
  refine q_iast C hρ (j := 4) (N := 2) (List.mem_of_getElem? (i := 1) rfl) rfl rfl g6 dX9_connect_50 (fun a7 ea7 => ?_)
  replace h := yl_of h ea7
  refine g_aload_n C dX9_connect_51 rfl 0 rfl ?_
  refine g_get (k := 40) (i := 0) (ref := "TradeLineModel") (v := .ref (ρ.2.2.2 (40 + 5) 0)) C rfl (lvY0 hρ) rfl rfl inGX9 5 (by decide) gw_1334 (fun _ h => h) rfl dX9_connect_52 ?_
  refine g_iload_n C dX9_connect_55 rfl 2 rfl ?_
  refine g_iload_n C dX9_connect_56 rfl 1 rfl ?_
  refine g_if_eq (tgt := 64) C dX9_connect_57 (by decide) (fun c57 => ?_) (fun c57 => ?_)
  · replace h := (if_pos c57).symm.trans h
    refine g_aload_n C dX9_connect_64 rfl 0 rfl ?_
    refine g_get (k := 40) (i := 0) (ref := "TradeLineModel") (v := .ref (ρ.2.2.2 (40 + 5) 0)) C rfl (lvY0 hρ) rfl rfl inGX9 5 (by decide) gw_1334 (fun _ h => h) rfl dX9_connect_65 ?_
    refine g_iload_n C dX9_connect_68 rfl 2 rfl ?_
    obtain ⟨g8, h⟩ := of_guard h
    refine q_iald C hρ (j := 5) (N := 2) (List.mem_of_getElem? (i := 2) rfl) rfl rfl g8 dX9_connect_69 ?_
    refine g_lv [0, 1, 2] rfl ?_
    exact lb_X9_connect_70 C hr hz hρ hk26 h
  · replace h := (if_neg c57).symm.trans h
    refine g_iconst (v := (1 : Int32)) C dX9_connect_60 (by decide) ?_
    refine g_goto (tgt := 70) C dX9_connect_61 (by decide) ?_
    refine g_lv [0, 1, 2] rfl ?_
    exact lb_X9_connect_70 C hr hz hρ hk26 h
noncomputable def b_X9_connect_26 (k26 : AS → Int32 → Int32 → Option (AS × Int32)) (w : Nat) (a : AS) (x1 x2 : Int32) : Option (AS × Int32) := (if (2 : Int32) ≤ x2 then (yl (up2 a 0 2 (1 : Int32)) (fun a2 => (f_X9_sends w a2 (0 : Int32) (0 : Int32) (0 : Int32) (0 : Int32) (0 : Int32) (0 : Int32)).bind (fun v3 => (f_X9_sends w v3.1 (1 : Int32) (0 : Int32) (0 : Int32) (0 : Int32) (0 : Int32) (0 : Int32)).bind (fun v4 => some (v4.1, (0 : Int32)))))) else ((if x1 = (0 : Int32) then (bif ixB x2 2 then b_X9_connect_50 k26 w a x1 x2 (a 4 x2.toNatClampNeg) x2 else none) else (b_X9_connect_50 k26 w a x1 x2 (0 : Int32) x2))))
set_option maxHeartbeats 4000000 in
set_option maxRecDepth 100000 in
theorem lb_X9_connect_26 {p : Program} {l : Launch} {e : Env} {s : State} {m : MethodId} {args : Array Value} {below : List Frame} {meth : Method} {c : Code} {D : va_G} {E : Nat → ClassId} {sz : Nat} {M : Nat → Nat → Nat → Int32} {a0 : AS} {ρ : YR} {w : Nat} {r0 : AS × Int32} (C : cx p s m args meth c D E (Aof (mx M a0, ρ) [] s.heap.size) cX9_connect 3 "TradeLineModel") (hr : meth.sig.returnType = none) (hz : s.heap.size = sz) (hρ : rsh ρ) {a : AS} {x1 x2 : Int32} {k26 : AS → Int32 → Int32 → Option (AS × Int32)} (hk26 : ∀ (a1 : AS) (z1 z2 : Int32), k26 a1 z1 z2 = some r0 → G p l e ({ frames := 3, cells := 0, slots := 0, locals := 73 } : Room) s m args below meth c D E (Aof (mx M a0, ρ) [] s.heap.size) 3 (MQ below (cQ D E sz (mx M a0, ρ) [] (pV (fun u => u = ((mx M r0.1, ρ), [])))) args s 0 0 (Aof (mx M a0, ρ) [] s.heap.size)) (mx M a1, ρ) [] 0 0 26 [(0, .ref (ρ.2.2.2 40 0)), (1, .int z1), (2, .int z2)] []) (h : b_X9_connect_26 k26 w a x1 x2 = some r0) : G p l e ({ frames := 3, cells := 0, slots := 0, locals := 73 } : Room) s m args below meth c D E (Aof (mx M a0, ρ) [] s.heap.size) 3 (MQ below (cQ D E sz (mx M a0, ρ) [] (pV (fun u => u = ((mx M r0.1, ρ), [])))) args s 0 0 (Aof (mx M a0, ρ) [] s.heap.size)) (mx M a, ρ) [] 0 0 26 [(0, .ref (ρ.2.2.2 40 0)), (1, .int x1), (2, .int x2)] [] := by
  unfold b_X9_connect_26 at h
  refine g_iload_n C dX9_connect_26 rfl 2 rfl ?_
  refine g_iconst (v := (2 : Int32)) C dX9_connect_27 (by decide) ?_
  refine g_icmp_ge (tgt := 97) C dX9_connect_28 (by decide) (fun c28 => ?_) (fun c28 => ?_)
  · replace h := (if_pos c28).symm.trans h
    refine g_aload_n C dX9_connect_97 rfl 0 rfl ?_
    refine g_iconst (v := (1 : Int32)) C dX9_connect_98 (by decide) ?_
    refine q_put C hρ (j := 2) (by decide) gw_1331 rfl rfl (tyX9_ok 2 (by decide)) rfl rfl (by simp [fvs, up1]) dX9_connect_99 (fun a2 ea2 => ?_)
    replace h := yl_of h ea2
    refine g_aload_n C dX9_connect_102 rfl 0 rfl ?_
    refine g_iconst (v := (0 : Int32)) C dX9_connect_103 (by decide) ?_
    refine g_iconst (v := (0 : Int32)) C dX9_connect_104 (by decide) ?_
    refine g_iconst (v := (0 : Int32)) C dX9_connect_105 (by decide) ?_
    refine g_iconst (v := (0 : Int32)) C dX9_connect_106 (by decide) ?_
    refine g_iconst (v := (0 : Int32)) C dX9_connect_107 (by decide) ?_
    refine g_iconst (v := (0 : Int32)) C dX9_connect_108 (by decide) ?_
    obtain ⟨v3, hv3, h⟩ := bind_of h
    refine g_cVv (n := 6) (exc := []) (exr := []) C [_, _, _, _, _, _] _ rfl rfl [] [] rfl rfl rfl rfl (fun _ h => absurd h (by simp)) (fun _ h => absurd h (by simp)) (fun _ h => absurd h (by simp)) (fun sz => k_X9_sends l M ρ hρ w _ _ _ _ _ _ _ _ hv3 D E sz) rfl gw_1476 gw_9 gw_1473 gw_1475 gs_41 ⟨by decide +kernel, by decide +kernel, by decide +kernel⟩ ⟨rfl, rfl⟩ ⟨Nat.le_of_ble_eq_true rfl, Nat.le_of_ble_eq_true rfl⟩ (rcvT (lvY0 hρ) rfl rfl rfl) (Nat.le_of_ble_eq_true rfl) dX9_connect_109 ⟨by decide, by decide⟩ (fun u hp hx => ?_)
    obtain rfl := hp
    try dsimp only [List.append_nil]
    refine g_aload_n C dX9_connect_112 rfl 0 rfl ?_
    refine g_iconst (v := (1 : Int32)) C dX9_connect_113 (by decide) ?_
    refine g_iconst (v := (0 : Int32)) C dX9_connect_114 (by decide) ?_
    refine g_iconst (v := (0 : Int32)) C dX9_connect_115 (by decide) ?_
    refine g_iconst (v := (0 : Int32)) C dX9_connect_116 (by decide) ?_
    refine g_iconst (v := (0 : Int32)) C dX9_connect_117 (by decide) ?_
    refine g_iconst (v := (0 : Int32)) C dX9_connect_118 (by decide) ?_
    obtain ⟨v4, hv4, h⟩ := bind_of h
    refine g_cVv (n := 6) (exc := []) (exr := []) C [_, _, _, _, _, _] _ rfl rfl [] [] rfl rfl rfl rfl (fun _ h => absurd h (by simp)) (fun _ h => absurd h (by simp)) (fun _ h => absurd h (by simp)) (fun sz => k_X9_sends l M ρ hρ w _ _ _ _ _ _ _ _ hv4 D E sz) rfl gw_1476 gw_9 gw_1473 gw_1475 gs_41 ⟨by decide +kernel, by decide +kernel, by decide +kernel⟩ ⟨rfl, rfl⟩ ⟨Nat.le_of_ble_eq_true rfl, Nat.le_of_ble_eq_true rfl⟩ (rcvT (lvY0 hρ) rfl rfl rfl) (Nat.le_of_ble_eq_true rfl) dX9_connect_119 ⟨by decide, by decide⟩ (fun u hp hx => ?_)
    obtain rfl := hp
    try dsimp only [List.append_nil]
    obtain rfl := Option.some.inj h
    exact g_vret C hr hz ⟨rfl, rfl, fun _ => rfl, fun _ => rfl⟩ rfl (fun j x h => by simp at h) dX9_connect_122
  · replace h := (if_neg c28).symm.trans h
    refine g_aload_n C dX9_connect_31 rfl 0 rfl ?_
    refine g_get (k := 40) (i := 0) (ref := "TradeLineModel") (v := .ref (ρ.2.2.2 (40 + 4) 0)) C rfl (lvY0 hρ) rfl rfl inGX9 4 (by decide) gw_1333 (fun _ h => h) rfl dX9_connect_32 ?_
    refine g_iload_n C dX9_connect_35 rfl 2 rfl ?_
    refine g_iload_n C dX9_connect_36 rfl 1 rfl ?_
    refine g_if_eq (tgt := 44) C dX9_connect_37 (by decide) (fun c37 => ?_) (fun c37 => ?_)
    · replace h := (if_pos c37).symm.trans h
      refine g_aload_n C dX9_connect_44 rfl 0 rfl ?_
      refine g_get (k := 40) (i := 0) (ref := "TradeLineModel") (v := .ref (ρ.2.2.2 (40 + 4) 0)) C rfl (lvY0 hρ) rfl rfl inGX9 4 (by decide) gw_1333 (fun _ h => h) rfl dX9_connect_45 ?_
      refine g_iload_n C dX9_connect_48 rfl 2 rfl ?_
      obtain ⟨g5, h⟩ := of_guard h
      refine q_iald C hρ (j := 4) (N := 2) (List.mem_of_getElem? (i := 1) rfl) rfl rfl g5 dX9_connect_49 ?_
      refine g_lv [0, 1, 2] rfl ?_
      exact lb_X9_connect_50 C hr hz hρ hk26 h
    · replace h := (if_neg c37).symm.trans h
      refine g_iconst (v := (0 : Int32)) C dX9_connect_40 (by decide) ?_
      refine g_goto (tgt := 50) C dX9_connect_41 (by decide) ?_
      refine g_lv [0, 1, 2] rfl ?_
      exact lb_X9_connect_50 C hr hz hρ hk26 h
noncomputable def l_X9_connect_26  (w : Nat) : Nat → AS → Int32 → Int32 → Option (AS × Int32)
  | 0 => fun _ _ _ => none
  | n + 1 => fun a x1 x2 => b_X9_connect_26  (l_X9_connect_26  w n) w a x1 x2
theorem ll_X9_connect_26 {p : Program} {l : Launch} {e : Env} {s : State} {m : MethodId} {args : Array Value} {below : List Frame} {meth : Method} {c : Code} {D : va_G} {E : Nat → ClassId} {sz : Nat} {M : Nat → Nat → Nat → Int32} {a0 : AS} {ρ : YR} {w : Nat} {r0 : AS × Int32} (C : cx p s m args meth c D E (Aof (mx M a0, ρ) [] s.heap.size) cX9_connect 3 "TradeLineModel") (hr : meth.sig.returnType = none) (hz : s.heap.size = sz) (hρ : rsh ρ)   : ∀ (n : Nat) (a : AS) (x1 x2 : Int32), l_X9_connect_26  w n a x1 x2 = some r0 → G p l e ({ frames := 3, cells := 0, slots := 0, locals := 73 } : Room) s m args below meth c D E (Aof (mx M a0, ρ) [] s.heap.size) 3 (MQ below (cQ D E sz (mx M a0, ρ) [] (pV (fun u => u = ((mx M r0.1, ρ), [])))) args s 0 0 (Aof (mx M a0, ρ) [] s.heap.size)) (mx M a, ρ) [] 0 0 26 [(0, .ref (ρ.2.2.2 40 0)), (1, .int x1), (2, .int x2)] [] := by
  intro n
  induction n with
  | zero => exact fun a x1 x2 h => absurd (show (none : Option (AS × Int32)) = some r0 from h) (by simp)
  | succ n ih => exact fun a x1 x2 h => lb_X9_connect_26 (w := w) C hr hz hρ  ih h
noncomputable def b_X9_connect_13  (w : Nat) (a : AS) (x1 s0 : Int32) : Option (AS × Int32) := yl (up2 a 0 0 s0) (fun a1 => (if (a1 0 0) ≤ (0 : Int32) then (l_X9_connect_26  w w a1 x1 (0 : Int32)) else (some (a1, (0 : Int32)))))
set_option maxHeartbeats 4000000 in
set_option maxRecDepth 100000 in
theorem lb_X9_connect_13 {p : Program} {l : Launch} {e : Env} {s : State} {m : MethodId} {args : Array Value} {below : List Frame} {meth : Method} {c : Code} {D : va_G} {E : Nat → ClassId} {sz : Nat} {M : Nat → Nat → Nat → Int32} {a0 : AS} {ρ : YR} {w : Nat} {r0 : AS × Int32} (C : cx p s m args meth c D E (Aof (mx M a0, ρ) [] s.heap.size) cX9_connect 3 "TradeLineModel") (hr : meth.sig.returnType = none) (hz : s.heap.size = sz) (hρ : rsh ρ) {a : AS} {x1 s0 : Int32}   (h : b_X9_connect_13  w a x1 s0 = some r0) : G p l e ({ frames := 3, cells := 0, slots := 0, locals := 73 } : Room) s m args below meth c D E (Aof (mx M a0, ρ) [] s.heap.size) 3 (MQ below (cQ D E sz (mx M a0, ρ) [] (pV (fun u => u = ((mx M r0.1, ρ), [])))) args s 0 0 (Aof (mx M a0, ρ) [] s.heap.size)) (mx M a, ρ) [] 0 0 13 [(0, .ref (ρ.2.2.2 40 0)), (1, .int x1)] [.int s0, .ref (ρ.2.2.2 40 0)] := by
  unfold b_X9_connect_13 at h
  refine q_put C hρ (j := 0) (by decide) gw_1329 rfl rfl (tyX9_ok 0 (by decide)) rfl rfl (by simp [fvs, up1]) dX9_connect_13 (fun a1 ea1 => ?_)
  replace h := yl_of h ea1
  refine g_aload_n C dX9_connect_16 rfl 0 rfl ?_
  refine g_get (k := 40) (i := 0) (ref := "TradeLineModel") (v := .int (a1 0 0)) C rfl (lvY0 hρ) rfl rfl inGX9 0 (by decide) gw_1329 (fun _ h => h) rfl dX9_connect_17 ?_
  refine g_if_le (tgt := 24) C dX9_connect_20 (by decide) (fun c20 => ?_) (fun c20 => ?_)
  · replace h := (if_pos c20).symm.trans h
    refine g_iconst (v := (0 : Int32)) C dX9_connect_24 (by decide) ?_
    refine g_istore_n (lv' := [(2, .int (0 : Int32)), (0, .ref (ρ.2.2.2 40 0)), (1, .int x1)]) C dX9_connect_25 rfl (by decide) rfl ?_
    refine g_lv [1, 2, 0] rfl ?_
    exact ll_X9_connect_26 C hr hz hρ  w _ _ _ h
  · replace h := (if_neg c20).symm.trans h
    obtain rfl := Option.some.inj h
    exact g_vret C hr hz ⟨rfl, rfl, fun _ => rfl, fun _ => rfl⟩ rfl (fun j x h => by simp at h) dX9_connect_23
noncomputable def f_X9_connect  (w : Nat) (a : AS) (x1 : Int32) : Option (AS × Int32) := (if (a 0 2) = (0 : Int32) then (b_X9_connect_13  w a x1 (0 : Int32)) else (b_X9_connect_13  w a x1 (1 : Int32)))
set_option maxHeartbeats 4000000 in
set_option maxRecDepth 100000 in
theorem lb_X9_connect_0 {p : Program} {l : Launch} {e : Env} {s : State} {m : MethodId} {args : Array Value} {below : List Frame} {meth : Method} {c : Code} {D : va_G} {E : Nat → ClassId} {sz : Nat} {M : Nat → Nat → Nat → Int32} {a0 : AS} {ρ : YR} {w : Nat} {r0 : AS × Int32} (C : cx p s m args meth c D E (Aof (mx M a0, ρ) [] s.heap.size) cX9_connect 3 "TradeLineModel") (hr : meth.sig.returnType = none) (hz : s.heap.size = sz) (hρ : rsh ρ) {a : AS} {x1 : Int32}   (h : f_X9_connect  w a x1 = some r0) : G p l e ({ frames := 3, cells := 0, slots := 0, locals := 73 } : Room) s m args below meth c D E (Aof (mx M a0, ρ) [] s.heap.size) 3 (MQ below (cQ D E sz (mx M a0, ρ) [] (pV (fun u => u = ((mx M r0.1, ρ), [])))) args s 0 0 (Aof (mx M a0, ρ) [] s.heap.size)) (mx M a, ρ) [] 0 0 0 [(0, .ref (ρ.2.2.2 40 0)), (1, .int x1)] [] := by
  unfold f_X9_connect at h
  refine g_aload_n C dX9_connect_0 rfl 0 rfl ?_
  refine g_aload_n C dX9_connect_1 rfl 0 rfl ?_
  refine g_get (k := 40) (i := 0) (ref := "TradeLineModel") (v := .int (a 0 2)) C rfl (lvY0 hρ) rfl rfl inGX9 2 (by decide) gw_1331 (fun _ h => h) rfl dX9_connect_2 ?_
  refine g_if_eq (tgt := 12) C dX9_connect_5 (by decide) (fun c5 => ?_) (fun c5 => ?_)
  · replace h := (if_pos c5).symm.trans h
    refine g_iconst (v := (0 : Int32)) C dX9_connect_12 (by decide) ?_
    refine g_lv [0, 1] rfl ?_
    exact lb_X9_connect_13 C hr hz hρ  h
  · replace h := (if_neg c5).symm.trans h
    refine g_iconst (v := (1 : Int32)) C dX9_connect_8 (by decide) ?_
    refine g_goto (tgt := 13) C dX9_connect_9 (by decide) ?_
    refine g_lv [0, 1] rfl ?_
    exact lb_X9_connect_13 C hr hz hρ  h
theorem k_X9_connect (l : Launch) (M : Nat → Nat → Nat → Int32) (ρ : YR) (hρ : rsh ρ) (w : Nat) (a : AS) (x1 : Int32) (r0 : AS × Int32) (h : f_X9_connect w a x1 = some r0) : ∀ D E sz, Met l yX9_connect gwX9_connect ({ frames := 3, cells := 0, slots := 0, locals := 73 } : Room) (cP D E sz (mx M a, ρ) [] [.ref (ρ.2.2.2 40 0), .int x1]) (cQ D E sz (mx M a, ρ) [] (pV (fun u => u = ((mx M r0.1, ρ), [])))) (0) (0) (Aof (mx M a, ρ) [] sz) := by
  intro D E sz
  refine g_of (cc := cX9_connect) (maxL := 3) (ret := none) (own := "TradeLineModel") (by decide) rfl rfl (Nat.le_of_ble_eq_true rfl) ?_
  intro p e s m args below meth c C hr hin hz ha hwr
  refine g_lv [0, 1] rfl ?_
  exact lb_X9_connect_0 C hr hz hρ h
noncomputable def b_X9_cut_13  (w : Nat) (a : AS) (s0 : Int32) : Option (AS × Int32) := yl (up2 a 0 0 s0) (fun a1 => (if (a1 0 0) ≤ (0 : Int32) then ((f_X9_goesDown w a1 ).bind (fun v2 => some (v2.1, v2.2))) else (some (a1, (0 : Int32)))))
set_option maxHeartbeats 4000000 in
set_option maxRecDepth 100000 in
theorem lb_X9_cut_13 {p : Program} {l : Launch} {e : Env} {s : State} {m : MethodId} {args : Array Value} {below : List Frame} {meth : Method} {c : Code} {D : va_G} {E : Nat → ClassId} {sz : Nat} {M : Nat → Nat → Nat → Int32} {a0 : AS} {ρ : YR} {w : Nat} {r0 : AS × Int32} (C : cx p s m args meth c D E (Aof (mx M a0, ρ) [] s.heap.size) cX9_cut 1 "TradeLineModel") (hr : meth.sig.returnType = (some .int)) (hz : s.heap.size = sz) (hρ : rsh ρ) {a : AS} {s0 : Int32}   (h : b_X9_cut_13  w a s0 = some r0) : G p l e ({ frames := 2, cells := 0, slots := 0, locals := 43 } : Room) s m args below meth c D E (Aof (mx M a0, ρ) [] s.heap.size) 1 (MQ below (cQ D E sz (mx M a0, ρ) [] (pI (fun r u => r = r0.2 ∧ u = ((mx M r0.1, ρ), [])))) args s 0 0 (Aof (mx M a0, ρ) [] s.heap.size)) (mx M a, ρ) [] 0 0 13 [(0, .ref (ρ.2.2.2 40 0))] [.int s0, .ref (ρ.2.2.2 40 0)] := by
  unfold b_X9_cut_13 at h
  refine q_put C hρ (j := 0) (by decide) gw_1329 rfl rfl (tyX9_ok 0 (by decide)) rfl rfl (by simp [fvs, up1]) dX9_cut_13 (fun a1 ea1 => ?_)
  replace h := yl_of h ea1
  refine g_aload_n C dX9_cut_16 rfl 0 rfl ?_
  refine g_get (k := 40) (i := 0) (ref := "TradeLineModel") (v := .int (a1 0 0)) C rfl (lvY0 hρ) rfl rfl inGX9 0 (by decide) gw_1329 (fun _ h => h) rfl dX9_cut_17 ?_
  refine g_if_le (tgt := 27) C dX9_cut_20 (by decide) (fun c20 => ?_) (fun c20 => ?_)
  · replace h := (if_pos c20).symm.trans h
    refine g_aload_n C dX9_cut_27 rfl 0 rfl ?_
    obtain ⟨v2, hv2, h⟩ := bind_of h
    refine g_cVi (n := 0) (exc := []) (exr := []) C [] _ rfl rfl [] [] rfl rfl rfl rfl (fun _ h => absurd h (by simp)) (fun _ h => absurd h (by simp)) (fun _ h => absurd h (by simp)) (fun sz => k_X9_goesDown l M ρ hρ w _  _ hv2 D E sz) rfl gw_1493 gw_9 gw_1490 gw_1492 gs_44 ⟨by decide +kernel, by decide +kernel, by decide +kernel⟩ ⟨rfl, rfl⟩ ⟨Nat.le_of_ble_eq_true rfl, Nat.le_of_ble_eq_true rfl⟩ (rcvT (lvY0 hρ) rfl rfl rfl) (Nat.le_of_ble_eq_true rfl) dX9_cut_28 ⟨by decide, by decide⟩ (fun r u hp hx => ?_)
    obtain ⟨er, rfl⟩ := hp
    rw [er]
    try dsimp only [List.append_nil]
    obtain rfl := Option.some.inj h
    exact g_iret C hr rfl hz ⟨rfl, rfl, fun _ => rfl, fun _ => rfl⟩ ⟨rfl, rfl⟩ (fun j x h => by simp at h) dX9_cut_31
  · replace h := (if_neg c20).symm.trans h
    refine g_iconst (v := (0 : Int32)) C dX9_cut_23 (by decide) ?_
    refine g_goto (tgt := 31) C dX9_cut_24 (by decide) ?_
    obtain rfl := Option.some.inj h
    exact g_iret C hr rfl hz ⟨rfl, rfl, fun _ => rfl, fun _ => rfl⟩ ⟨rfl, rfl⟩ (fun j x h => by simp at h) dX9_cut_31
noncomputable def f_X9_cut  (w : Nat) (a : AS) : Option (AS × Int32) := (if (a 0 2) = (0 : Int32) then (b_X9_cut_13  w a (1 : Int32)) else (b_X9_cut_13  w a (0 : Int32)))
set_option maxHeartbeats 4000000 in
set_option maxRecDepth 100000 in
theorem lb_X9_cut_0 {p : Program} {l : Launch} {e : Env} {s : State} {m : MethodId} {args : Array Value} {below : List Frame} {meth : Method} {c : Code} {D : va_G} {E : Nat → ClassId} {sz : Nat} {M : Nat → Nat → Nat → Int32} {a0 : AS} {ρ : YR} {w : Nat} {r0 : AS × Int32} (C : cx p s m args meth c D E (Aof (mx M a0, ρ) [] s.heap.size) cX9_cut 1 "TradeLineModel") (hr : meth.sig.returnType = (some .int)) (hz : s.heap.size = sz) (hρ : rsh ρ) {a : AS}   (h : f_X9_cut  w a  = some r0) : G p l e ({ frames := 2, cells := 0, slots := 0, locals := 43 } : Room) s m args below meth c D E (Aof (mx M a0, ρ) [] s.heap.size) 1 (MQ below (cQ D E sz (mx M a0, ρ) [] (pI (fun r u => r = r0.2 ∧ u = ((mx M r0.1, ρ), [])))) args s 0 0 (Aof (mx M a0, ρ) [] s.heap.size)) (mx M a, ρ) [] 0 0 0 [(0, .ref (ρ.2.2.2 40 0))] [] := by
  unfold f_X9_cut at h
  refine g_aload_n C dX9_cut_0 rfl 0 rfl ?_
  refine g_aload_n C dX9_cut_1 rfl 0 rfl ?_
  refine g_get (k := 40) (i := 0) (ref := "TradeLineModel") (v := .int (a 0 2)) C rfl (lvY0 hρ) rfl rfl inGX9 2 (by decide) gw_1331 (fun _ h => h) rfl dX9_cut_2 ?_
  refine g_if_eq (tgt := 12) C dX9_cut_5 (by decide) (fun c5 => ?_) (fun c5 => ?_)
  · replace h := (if_pos c5).symm.trans h
    refine g_iconst (v := (1 : Int32)) C dX9_cut_12 (by decide) ?_
    refine g_lv [0] rfl ?_
    exact lb_X9_cut_13 C hr hz hρ  h
  · replace h := (if_neg c5).symm.trans h
    refine g_iconst (v := (0 : Int32)) C dX9_cut_8 (by decide) ?_
    refine g_goto (tgt := 13) C dX9_cut_9 (by decide) ?_
    refine g_lv [0] rfl ?_
    exact lb_X9_cut_13 C hr hz hρ  h
theorem k_X9_cut (l : Launch) (M : Nat → Nat → Nat → Int32) (ρ : YR) (hρ : rsh ρ) (w : Nat) (a : AS) (r0 : AS × Int32) (h : f_X9_cut w a  = some r0) : ∀ D E sz, Met l yX9_cut gwX9_cut ({ frames := 2, cells := 0, slots := 0, locals := 43 } : Room) (cP D E sz (mx M a, ρ) [] [.ref (ρ.2.2.2 40 0)]) (cQ D E sz (mx M a, ρ) [] (pI (fun r u => r = r0.2 ∧ u = ((mx M r0.1, ρ), [])))) (0) (0) (Aof (mx M a, ρ) [] sz) := by
  intro D E sz
  refine g_of (cc := cX9_cut) (maxL := 1) (ret := (some .int)) (own := "TradeLineModel") (by decide) rfl rfl (Nat.le_of_ble_eq_true rfl) ?_
  intro p e s m args below meth c C hr hin hz ha hwr
  refine g_lv [0] rfl ?_
  exact lb_X9_cut_0 C hr hz hρ h
noncomputable def b_X9_staysAway_67  (w : Nat) (a : AS) (x3 x4 : Int32) : Option (AS × Int32) := bif ixB x3 16384 then (if (a 11 x3.toNatClampNeg) < (5 : Int32) then (some (a, (1 : Int32))) else ((if x4 = (0 : Int32) then (some (a, (0 : Int32))) else (some (a, (1 : Int32)))))) else none
set_option maxHeartbeats 4000000 in
set_option maxRecDepth 100000 in
theorem lb_X9_staysAway_67 {p : Program} {l : Launch} {e : Env} {s : State} {m : MethodId} {args : Array Value} {below : List Frame} {meth : Method} {c : Code} {D : va_G} {E : Nat → ClassId} {sz : Nat} {M : Nat → Nat → Nat → Int32} {a0 : AS} {ρ : YR} {w : Nat} {r0 : AS × Int32} (C : cx p s m args meth c D E (Aof (mx M a0, ρ) [] s.heap.size) cX9_staysAway 5 "TradeLineModel") (hr : meth.sig.returnType = (some .boolean)) (hz : s.heap.size = sz) (hρ : rsh ρ) {a : AS} {x3 x4 : Int32}   (h : b_X9_staysAway_67  w a x3 x4 = some r0) : G p l e ({ frames := 0, cells := 0, slots := 0, locals := 0 } : Room) s m args below meth c D E (Aof (mx M a0, ρ) [] s.heap.size) 5 (MQ below (cQ D E sz (mx M a0, ρ) [] (pI (fun r u => r = r0.2 ∧ u = ((mx M r0.1, ρ), [])))) args s 0 0 (Aof (mx M a0, ρ) [] s.heap.size)) (mx M a, ρ) [] 0 0 67 [(0, .ref (ρ.2.2.2 40 0)), (3, .int x3), (4, .int x4)] [] := by
  unfold b_X9_staysAway_67 at h
  refine g_aload_n C dX9_staysAway_67 rfl 0 rfl ?_
  refine g_get (k := 40) (i := 0) (ref := "TradeLineModel") (v := .ref (ρ.2.2.2 (40 + 11) 0)) C rfl (lvY0 hρ) rfl rfl inGX9 11 (by decide) gw_1340 (fun _ h => h) rfl dX9_staysAway_68 ?_
  refine g_iload_n C dX9_staysAway_71 rfl 1 rfl ?_
  obtain ⟨g3, h⟩ := of_guard h
  refine q_iald C hρ (j := 11) (N := 16384) (List.mem_of_getElem? (i := 8) rfl) rfl rfl g3 dX9_staysAway_72 ?_
  refine g_iconst (v := (5 : Int32)) C dX9_staysAway_73 (by decide) ?_
  refine g_icmp_lt (tgt := 82) C dX9_staysAway_74 (by decide) (fun c74 => ?_) (fun c74 => ?_)
  · replace h := (if_pos c74).symm.trans h
    refine g_iconst (v := (1 : Int32)) C dX9_staysAway_82 (by decide) ?_
    refine g_goto (tgt := 87) C dX9_staysAway_83 (by decide) ?_
    obtain rfl := Option.some.inj h
    exact g_iret C hr rfl hz ⟨rfl, rfl, fun _ => rfl, fun _ => rfl⟩ ⟨rfl, rfl⟩ (fun j x h => by simp at h) dX9_staysAway_87
  · replace h := (if_neg c74).symm.trans h
    refine g_iload C dX9_staysAway_77 2 rfl ?_
    refine g_if_eq (tgt := 86) C dX9_staysAway_79 (by decide) (fun c79 => ?_) (fun c79 => ?_)
    · replace h := (if_pos c79).symm.trans h
      refine g_iconst (v := (0 : Int32)) C dX9_staysAway_86 (by decide) ?_
      obtain rfl := Option.some.inj h
      exact g_iret C hr rfl hz ⟨rfl, rfl, fun _ => rfl, fun _ => rfl⟩ ⟨rfl, rfl⟩ (fun j x h => by simp at h) dX9_staysAway_87
    · replace h := (if_neg c79).symm.trans h
      refine g_iconst (v := (1 : Int32)) C dX9_staysAway_82 (by decide) ?_
      refine g_goto (tgt := 87) C dX9_staysAway_83 (by decide) ?_
      obtain rfl := Option.some.inj h
      exact g_iret C hr rfl hz ⟨rfl, rfl, fun _ => rfl, fun _ => rfl⟩ ⟨rfl, rfl⟩ (fun j x h => by simp at h) dX9_staysAway_87
noncomputable def b_X9_staysAway_48  (w : Nat) (a : AS) (x3 s0 : Int32) : Option (AS × Int32) := (if s0 = (0 : Int32) then (b_X9_staysAway_67  w a x3 s0) else (bif ixB x3 16384 then bif ixB (a 14 x3.toNatClampNeg) 40 then yl (up2 a 29 (a 14 x3.toNatClampNeg).toNatClampNeg (vp_nar .boolean (1 : Int32))) (fun a6 => b_X9_staysAway_67  w a6 x3 s0) else none else none))
set_option maxHeartbeats 4000000 in
set_option maxRecDepth 100000 in
theorem lb_X9_staysAway_48 {p : Program} {l : Launch} {e : Env} {s : State} {m : MethodId} {args : Array Value} {below : List Frame} {meth : Method} {c : Code} {D : va_G} {E : Nat → ClassId} {sz : Nat} {M : Nat → Nat → Nat → Int32} {a0 : AS} {ρ : YR} {w : Nat} {r0 : AS × Int32} (C : cx p s m args meth c D E (Aof (mx M a0, ρ) [] s.heap.size) cX9_staysAway 5 "TradeLineModel") (hr : meth.sig.returnType = (some .boolean)) (hz : s.heap.size = sz) (hρ : rsh ρ) {a : AS} {x3 s0 : Int32}   (h : b_X9_staysAway_48  w a x3 s0 = some r0) : G p l e ({ frames := 0, cells := 0, slots := 0, locals := 0 } : Room) s m args below meth c D E (Aof (mx M a0, ρ) [] s.heap.size) 5 (MQ below (cQ D E sz (mx M a0, ρ) [] (pI (fun r u => r = r0.2 ∧ u = ((mx M r0.1, ρ), [])))) args s 0 0 (Aof (mx M a0, ρ) [] s.heap.size)) (mx M a, ρ) [] 0 0 48 [(0, .ref (ρ.2.2.2 40 0)), (3, .int x3)] [.int s0] := by
  unfold b_X9_staysAway_48 at h
  refine g_istore (lv' := [(4, .int s0), (0, .ref (ρ.2.2.2 40 0)), (3, .int x3)]) C dX9_staysAway_48 (by decide) rfl ?_
  refine g_iload C dX9_staysAway_50 0 rfl ?_
  refine g_if_eq (tgt := 67) C dX9_staysAway_52 (by decide) (fun c52 => ?_) (fun c52 => ?_)
  · replace h := (if_pos c52).symm.trans h
    refine g_lv [1, 2, 0] rfl ?_
    exact lb_X9_staysAway_67 C hr hz hρ  h
  · replace h := (if_neg c52).symm.trans h
    refine g_aload_n C dX9_staysAway_55 rfl 1 rfl ?_
    refine g_get (k := 40) (i := 0) (ref := "TradeLineModel") (v := .ref (ρ.2.2.2 (40 + 29) 0)) C rfl (lvY0 hρ) rfl rfl inGX9 29 (by decide) gw_1358 (fun _ h => h) rfl dX9_staysAway_56 ?_
    refine g_aload_n C dX9_staysAway_59 rfl 1 rfl ?_
    refine g_get (k := 40) (i := 0) (ref := "TradeLineModel") (v := .ref (ρ.2.2.2 (40 + 14) 0)) C rfl (lvY0 hρ) rfl rfl inGX9 14 (by decide) gw_1343 (fun _ h => h) rfl dX9_staysAway_60 ?_
    refine g_iload_n C dX9_staysAway_63 rfl 2 rfl ?_
    obtain ⟨g4, h⟩ := of_guard h
    refine q_iald C hρ (j := 14) (N := 16384) (List.mem_of_getElem? (i := 11) rfl) rfl rfl g4 dX9_staysAway_64 ?_
    refine g_iconst (v := (1 : Int32)) C dX9_staysAway_65 (by decide) ?_
    obtain ⟨g5, h⟩ := of_guard h
    refine q_zast C hρ (j := 29) (N := 40) (List.mem_of_getElem? (i := 25) rfl) rfl rfl g5 dX9_staysAway_66 (fun a6 ea6 => ?_)
    replace h := yl_of h ea6
    refine g_lv [1, 2, 0] rfl ?_
    exact lb_X9_staysAway_67 C hr hz hρ  h
noncomputable def b_X9_staysAway_47  (w : Nat) (a : AS) (x3 : Int32) : Option (AS × Int32) := b_X9_staysAway_48  w a x3 (0 : Int32)
set_option maxHeartbeats 4000000 in
set_option maxRecDepth 100000 in
theorem lb_X9_staysAway_47 {p : Program} {l : Launch} {e : Env} {s : State} {m : MethodId} {args : Array Value} {below : List Frame} {meth : Method} {c : Code} {D : va_G} {E : Nat → ClassId} {sz : Nat} {M : Nat → Nat → Nat → Int32} {a0 : AS} {ρ : YR} {w : Nat} {r0 : AS × Int32} (C : cx p s m args meth c D E (Aof (mx M a0, ρ) [] s.heap.size) cX9_staysAway 5 "TradeLineModel") (hr : meth.sig.returnType = (some .boolean)) (hz : s.heap.size = sz) (hρ : rsh ρ) {a : AS} {x3 : Int32}   (h : b_X9_staysAway_47  w a x3 = some r0) : G p l e ({ frames := 0, cells := 0, slots := 0, locals := 0 } : Room) s m args below meth c D E (Aof (mx M a0, ρ) [] s.heap.size) 5 (MQ below (cQ D E sz (mx M a0, ρ) [] (pI (fun r u => r = r0.2 ∧ u = ((mx M r0.1, ρ), [])))) args s 0 0 (Aof (mx M a0, ρ) [] s.heap.size)) (mx M a, ρ) [] 0 0 47 [(0, .ref (ρ.2.2.2 40 0)), (3, .int x3)] [] := by
  unfold b_X9_staysAway_47 at h
  refine g_iconst (v := (0 : Int32)) C dX9_staysAway_47 (by decide) ?_
  refine g_lv [0, 1] rfl ?_
  exact lb_X9_staysAway_48 C hr hz hρ  h
noncomputable def f_X9_staysAway  (w : Nat) (a : AS) (x1 x2 : Int32) : Option (AS × Int32) := yl ((((8192 : Int32) * x1) + x2)) (fun t1 => bif ixB t1 16384 then (if (a 11 t1.toNatClampNeg) = (5 : Int32) then ((if ((a 0 1) - (a 12 t1.toNatClampNeg)) ≤ (20 : Int32) then (b_X9_staysAway_47  w a t1) else ((if (a 13 t1.toNatClampNeg) = (0 : Int32) then (b_X9_staysAway_48  w a t1 (1 : Int32)) else (b_X9_staysAway_47  w a t1))))) else (b_X9_staysAway_47  w a t1)) else none)
set_option maxHeartbeats 4000000 in
set_option maxRecDepth 100000 in
theorem lb_X9_staysAway_0 {p : Program} {l : Launch} {e : Env} {s : State} {m : MethodId} {args : Array Value} {below : List Frame} {meth : Method} {c : Code} {D : va_G} {E : Nat → ClassId} {sz : Nat} {M : Nat → Nat → Nat → Int32} {a0 : AS} {ρ : YR} {w : Nat} {r0 : AS × Int32} (C : cx p s m args meth c D E (Aof (mx M a0, ρ) [] s.heap.size) cX9_staysAway 5 "TradeLineModel") (hr : meth.sig.returnType = (some .boolean)) (hz : s.heap.size = sz) (hρ : rsh ρ) {a : AS} {x1 x2 : Int32}   (h : f_X9_staysAway  w a x1 x2 = some r0) : G p l e ({ frames := 0, cells := 0, slots := 0, locals := 0 } : Room) s m args below meth c D E (Aof (mx M a0, ρ) [] s.heap.size) 5 (MQ below (cQ D E sz (mx M a0, ρ) [] (pI (fun r u => r = r0.2 ∧ u = ((mx M r0.1, ρ), [])))) args s 0 0 (Aof (mx M a0, ρ) [] s.heap.size)) (mx M a, ρ) [] 0 0 0 [(0, .ref (ρ.2.2.2 40 0)), (1, .int x1), (2, .int x2)] [] := by
  unfold f_X9_staysAway at h
  refine g_sipush (v := (8192 : Int32)) C dX9_staysAway_0 (by decide) ?_
  refine g_iload_n C dX9_staysAway_3 rfl 1 rfl ?_
  refine g_imul C dX9_staysAway_4 ?_
  refine g_iload_n C dX9_staysAway_5 rfl 2 rfl ?_
  refine g_iadd C dX9_staysAway_6 ?_
  refine q_topi (fun t1 et1 => ?_)
  replace h := yl_of h et1
  refine g_istore_n (lv' := [(3, .int t1), (0, .ref (ρ.2.2.2 40 0)), (1, .int x1), (2, .int x2)]) C dX9_staysAway_7 rfl (by decide) rfl ?_
  refine g_aload_n C dX9_staysAway_8 rfl 1 rfl ?_
  refine g_get (k := 40) (i := 0) (ref := "TradeLineModel") (v := .ref (ρ.2.2.2 (40 + 11) 0)) C rfl (lvY0 hρ) rfl rfl inGX9 11 (by decide) gw_1340 (fun _ h => h) rfl dX9_staysAway_9 ?_
  refine g_iload_n C dX9_staysAway_12 rfl 0 rfl ?_
  obtain ⟨g2, h⟩ := of_guard h
  refine q_iald C hρ (j := 11) (N := 16384) (List.mem_of_getElem? (i := 8) rfl) rfl rfl g2 dX9_staysAway_13 ?_
  refine g_iconst (v := (5 : Int32)) C dX9_staysAway_14 (by decide) ?_
  refine g_icmp_ne (tgt := 47) C dX9_staysAway_15 (by decide) (fun c15 => ?_) (fun c15 => ?_)
  · replace h := (if_neg c15).symm.trans h
    refine g_lv [1, 0] rfl ?_
    exact lb_X9_staysAway_47 C hr hz hρ  h
  · replace h := (if_pos c15).symm.trans h
    refine g_aload_n C dX9_staysAway_18 rfl 1 rfl ?_
    refine g_get (k := 40) (i := 0) (ref := "TradeLineModel") (v := .int (a 0 1)) C rfl (lvY0 hρ) rfl rfl inGX9 1 (by decide) gw_1330 (fun _ h => h) rfl dX9_staysAway_19 ?_
    refine g_aload_n C dX9_staysAway_22 rfl 1 rfl ?_
    refine g_get (k := 40) (i := 0) (ref := "TradeLineModel") (v := .ref (ρ.2.2.2 (40 + 12) 0)) C rfl (lvY0 hρ) rfl rfl inGX9 12 (by decide) gw_1341 (fun _ h => h) rfl dX9_staysAway_23 ?_
    refine g_iload_n C dX9_staysAway_26 rfl 0 rfl ?_
    refine q_iald C hρ (j := 12) (N := 16384) (List.mem_of_getElem? (i := 9) rfl) rfl rfl g2 dX9_staysAway_27 ?_
    refine g_isub C dX9_staysAway_28 ?_
    refine g_bipush (v := (20 : Int32)) C dX9_staysAway_29 (by decide) ?_
    refine g_icmp_le (tgt := 47) C dX9_staysAway_31 (by decide) (fun c31 => ?_) (fun c31 => ?_)
    · replace h := (if_pos c31).symm.trans h
      refine g_lv [1, 0] rfl ?_
      exact lb_X9_staysAway_47 C hr hz hρ  h
    · replace h := (if_neg c31).symm.trans h
      refine g_aload_n C dX9_staysAway_34 rfl 1 rfl ?_
      refine g_get (k := 40) (i := 0) (ref := "TradeLineModel") (v := .ref (ρ.2.2.2 (40 + 13) 0)) C rfl (lvY0 hρ) rfl rfl inGX9 13 (by decide) gw_1342 (fun _ h => h) rfl dX9_staysAway_35 ?_
      refine g_iload_n C dX9_staysAway_38 rfl 0 rfl ?_
      refine q_zald C hρ (j := 13) (N := 16384) (List.mem_of_getElem? (i := 10) rfl) rfl rfl g2 dX9_staysAway_39 ?_
      refine g_if_ne (tgt := 47) C dX9_staysAway_40 (by decide) (fun c40 => ?_) (fun c40 => ?_)
      · replace h := (if_neg c40).symm.trans h
        refine g_lv [1, 0] rfl ?_
        exact lb_X9_staysAway_47 C hr hz hρ  h
      · replace h := (if_pos c40).symm.trans h
        refine g_iconst (v := (1 : Int32)) C dX9_staysAway_43 (by decide) ?_
        refine g_goto (tgt := 48) C dX9_staysAway_44 (by decide) ?_
        refine g_lv [1, 0] rfl ?_
        exact lb_X9_staysAway_48 C hr hz hρ  h
theorem k_X9_staysAway (l : Launch) (M : Nat → Nat → Nat → Int32) (ρ : YR) (hρ : rsh ρ) (w : Nat) (a : AS) (x1 x2 : Int32) (r0 : AS × Int32) (h : f_X9_staysAway w a x1 x2 = some r0) : ∀ D E sz, Met l yX9_staysAway gwX9_staysAway ({ frames := 0, cells := 0, slots := 0, locals := 0 } : Room) (cP D E sz (mx M a, ρ) [] [.ref (ρ.2.2.2 40 0), .int x1, .int x2]) (cQ D E sz (mx M a, ρ) [] (pI (fun r u => r = r0.2 ∧ u = ((mx M r0.1, ρ), [])))) (0) (0) (Aof (mx M a, ρ) [] sz) := by
  intro D E sz
  refine g_of (cc := cX9_staysAway) (maxL := 5) (ret := (some .boolean)) (own := "TradeLineModel") (by decide) rfl rfl (Nat.le_of_ble_eq_true rfl) ?_
  intro p e s m args below meth c C hr hin hz ha hwr
  refine g_lv [0, 1, 2] rfl ?_
  exact lb_X9_staysAway_0 C hr hz hρ h
noncomputable def b_X9_answers_94 (k22 : AS → Int32 → Int32 → Int32 → Int32 → Option (AS × Int32)) (w : Nat) (a : AS) (x1 x3 x4 x5 : Int32) : Option (AS × Int32) := yl (x5 + (1 : Int32)) (fun t8 => k22 a x1 x3 x4 t8)
set_option maxHeartbeats 4000000 in
set_option maxRecDepth 100000 in
theorem lb_X9_answers_94 {p : Program} {l : Launch} {e : Env} {s : State} {m : MethodId} {args : Array Value} {below : List Frame} {meth : Method} {c : Code} {D : va_G} {E : Nat → ClassId} {sz : Nat} {M : Nat → Nat → Nat → Int32} {a0 : AS} {ρ : YR} {w : Nat} {r0 : AS × Int32} (C : cx p s m args meth c D E (Aof (mx M a0, ρ) [] s.heap.size) cX9_answers 6 "TradeLineModel") (hr : meth.sig.returnType = none) (hz : s.heap.size = sz) (hρ : rsh ρ) {a : AS} {x1 x3 x4 x5 : Int32} {k22 : AS → Int32 → Int32 → Int32 → Int32 → Option (AS × Int32)} (hk22 : ∀ (a1 : AS) (z1 z3 z4 z5 : Int32), k22 a1 z1 z3 z4 z5 = some r0 → G p l e ({ frames := 2, cells := 0, slots := 0, locals := 46 } : Room) s m args below meth c D E (Aof (mx M a0, ρ) [] s.heap.size) 6 (MQ below (cQ D E sz (mx M a0, ρ) [] (pV (fun u => u = ((mx M r0.1, ρ), [])))) args s 0 0 (Aof (mx M a0, ρ) [] s.heap.size)) (mx M a1, ρ) [] 0 0 22 [(0, .ref (ρ.2.2.2 40 0)), (1, .int z1), (3, .int z3), (4, .int z4), (5, .int z5)] []) (h : b_X9_answers_94 k22 w a x1 x3 x4 x5 = some r0) : G p l e ({ frames := 2, cells := 0, slots := 0, locals := 46 } : Room) s m args below meth c D E (Aof (mx M a0, ρ) [] s.heap.size) 6 (MQ below (cQ D E sz (mx M a0, ρ) [] (pV (fun u => u = ((mx M r0.1, ρ), [])))) args s 0 0 (Aof (mx M a0, ρ) [] s.heap.size)) (mx M a, ρ) [] 0 0 94 [(0, .ref (ρ.2.2.2 40 0)), (1, .int x1), (3, .int x3), (4, .int x4), (5, .int x5)] [] := by
  unfold b_X9_answers_94 at h
  obtain ⟨t8, et8⟩ : ∃ y : Int32, x5 + (1 : Int32) = y := ⟨_, rfl⟩
  replace h := yl_of h et8
  refine g_iinc (v := t8) (lv' := [(5, .int t8), (0, .ref (ρ.2.2.2 40 0)), (1, .int x1), (3, .int x3), (4, .int x4)]) C dX9_answers_94 4 rfl (by rw [← et8]; rfl) (by decide) rfl ?_
  refine g_goto (tgt := 22) C dX9_answers_97 (by decide) ?_
  refine g_lv [1, 2, 3, 4, 0] rfl ?_
  exact hk22 _ _ _ _ _ h
noncomputable def b_X9_answers_69 (k22 : AS → Int32 → Int32 → Int32 → Int32 → Option (AS × Int32)) (w : Nat) (a : AS) (x1 x3 x5 : Int32) : Option (AS × Int32) := bif ixB (((8192 : Int32) * x1) + x5) 16384 then yl (up2 a 13 (((8192 : Int32) * x1) + x5).toNatClampNeg (vp_nar .boolean (1 : Int32))) (fun a6 => (f_X9_goes w a6 x1 x5 (0 : Int32)).bind (fun v7 => b_X9_answers_94 k22 w v7.1 x1 x3 (0 : Int32) x5)) else none
set_option maxHeartbeats 4000000 in
set_option maxRecDepth 100000 in
theorem lb_X9_answers_69 {p : Program} {l : Launch} {e : Env} {s : State} {m : MethodId} {args : Array Value} {below : List Frame} {meth : Method} {c : Code} {D : va_G} {E : Nat → ClassId} {sz : Nat} {M : Nat → Nat → Nat → Int32} {a0 : AS} {ρ : YR} {w : Nat} {r0 : AS × Int32} (C : cx p s m args meth c D E (Aof (mx M a0, ρ) [] s.heap.size) cX9_answers 6 "TradeLineModel") (hr : meth.sig.returnType = none) (hz : s.heap.size = sz) (hρ : rsh ρ) {a : AS} {x1 x3 x5 : Int32} {k22 : AS → Int32 → Int32 → Int32 → Int32 → Option (AS × Int32)} (hk22 : ∀ (a1 : AS) (z1 z3 z4 z5 : Int32), k22 a1 z1 z3 z4 z5 = some r0 → G p l e ({ frames := 2, cells := 0, slots := 0, locals := 46 } : Room) s m args below meth c D E (Aof (mx M a0, ρ) [] s.heap.size) 6 (MQ below (cQ D E sz (mx M a0, ρ) [] (pV (fun u => u = ((mx M r0.1, ρ), [])))) args s 0 0 (Aof (mx M a0, ρ) [] s.heap.size)) (mx M a1, ρ) [] 0 0 22 [(0, .ref (ρ.2.2.2 40 0)), (1, .int z1), (3, .int z3), (4, .int z4), (5, .int z5)] []) (h : b_X9_answers_69 k22 w a x1 x3 x5 = some r0) : G p l e ({ frames := 2, cells := 0, slots := 0, locals := 46 } : Room) s m args below meth c D E (Aof (mx M a0, ρ) [] s.heap.size) 6 (MQ below (cQ D E sz (mx M a0, ρ) [] (pV (fun u => u = ((mx M r0.1, ρ), [])))) args s 0 0 (Aof (mx M a0, ρ) [] s.heap.size)) (mx M a, ρ) [] 0 0 69 [(0, .ref (ρ.2.2.2 40 0)), (1, .int x1), (3, .int x3), (5, .int x5)] [] := by
  unfold b_X9_answers_69 at h
  refine g_iconst (v := (0 : Int32)) C dX9_answers_69 (by decide) ?_
  refine g_istore (lv' := [(4, .int (0 : Int32)), (0, .ref (ρ.2.2.2 40 0)), (1, .int x1), (3, .int x3), (5, .int x5)]) C dX9_answers_70 (by decide) rfl ?_
  refine g_aload_n C dX9_answers_72 rfl 1 rfl ?_
  refine g_get (k := 40) (i := 0) (ref := "TradeLineModel") (v := .ref (ρ.2.2.2 (40 + 13) 0)) C rfl (lvY0 hρ) rfl rfl inGX9 13 (by decide) gw_1342 (fun _ h => h) rfl dX9_answers_73 ?_
  refine g_sipush (v := (8192 : Int32)) C dX9_answers_76 (by decide) ?_
  refine g_iload_n C dX9_answers_79 rfl 2 rfl ?_
  refine g_imul C dX9_answers_80 ?_
  refine g_iload C dX9_answers_81 4 rfl ?_
  refine g_iadd C dX9_answers_83 ?_
  refine g_iconst (v := (1 : Int32)) C dX9_answers_84 (by decide) ?_
  obtain ⟨g5, h⟩ := of_guard h
  refine q_zast C hρ (j := 13) (N := 16384) (List.mem_of_getElem? (i := 10) rfl) rfl rfl g5 dX9_answers_85 (fun a6 ea6 => ?_)
  replace h := yl_of h ea6
  refine g_aload_n C dX9_answers_86 rfl 1 rfl ?_
  refine g_iload_n C dX9_answers_87 rfl 2 rfl ?_
  refine g_iload C dX9_answers_88 4 rfl ?_
  refine g_iconst (v := (0 : Int32)) C dX9_answers_90 (by decide) ?_
  obtain ⟨v7, hv7, h⟩ := bind_of h
  refine g_cVv (n := 3) (exc := []) (exr := []) C [_, _, _] _ rfl rfl [] [] rfl rfl rfl rfl (fun _ h => absurd h (by simp)) (fun _ h => absurd h (by simp)) (fun _ h => absurd h (by simp)) (fun sz => k_X9_goes l M ρ hρ w _ _ _ _ _ hv7 D E sz) rfl gw_1480 gw_9 gw_1477 gw_1479 gs_42 ⟨by decide +kernel, by decide +kernel, by decide +kernel⟩ ⟨rfl, rfl⟩ ⟨Nat.le_of_ble_eq_true rfl, Nat.le_of_ble_eq_true rfl⟩ (rcvT (lvY0 hρ) rfl rfl rfl) (Nat.le_of_ble_eq_true rfl) dX9_answers_91 ⟨by decide, by decide⟩ (fun u hp hx => ?_)
  obtain rfl := hp
  try dsimp only [List.append_nil]
  refine g_lv [1, 2, 3, 0, 4] rfl ?_
  exact lb_X9_answers_94 C hr hz hρ hk22 h
noncomputable def b_X9_answers_50 (k22 : AS → Int32 → Int32 → Int32 → Int32 → Option (AS × Int32)) (w : Nat) (a : AS) (x1 x3 x5 s0 : Int32) : Option (AS × Int32) := b_X9_answers_94 k22 w a x1 x3 s0 x5
set_option maxHeartbeats 4000000 in
set_option maxRecDepth 100000 in
theorem lb_X9_answers_50 {p : Program} {l : Launch} {e : Env} {s : State} {m : MethodId} {args : Array Value} {below : List Frame} {meth : Method} {c : Code} {D : va_G} {E : Nat → ClassId} {sz : Nat} {M : Nat → Nat → Nat → Int32} {a0 : AS} {ρ : YR} {w : Nat} {r0 : AS × Int32} (C : cx p s m args meth c D E (Aof (mx M a0, ρ) [] s.heap.size) cX9_answers 6 "TradeLineModel") (hr : meth.sig.returnType = none) (hz : s.heap.size = sz) (hρ : rsh ρ) {a : AS} {x1 x3 x5 s0 : Int32} {k22 : AS → Int32 → Int32 → Int32 → Int32 → Option (AS × Int32)} (hk22 : ∀ (a1 : AS) (z1 z3 z4 z5 : Int32), k22 a1 z1 z3 z4 z5 = some r0 → G p l e ({ frames := 2, cells := 0, slots := 0, locals := 46 } : Room) s m args below meth c D E (Aof (mx M a0, ρ) [] s.heap.size) 6 (MQ below (cQ D E sz (mx M a0, ρ) [] (pV (fun u => u = ((mx M r0.1, ρ), [])))) args s 0 0 (Aof (mx M a0, ρ) [] s.heap.size)) (mx M a1, ρ) [] 0 0 22 [(0, .ref (ρ.2.2.2 40 0)), (1, .int z1), (3, .int z3), (4, .int z4), (5, .int z5)] []) (h : b_X9_answers_50 k22 w a x1 x3 x5 s0 = some r0) : G p l e ({ frames := 2, cells := 0, slots := 0, locals := 46 } : Room) s m args below meth c D E (Aof (mx M a0, ρ) [] s.heap.size) 6 (MQ below (cQ D E sz (mx M a0, ρ) [] (pV (fun u => u = ((mx M r0.1, ρ), [])))) args s 0 0 (Aof (mx M a0, ρ) [] s.heap.size)) (mx M a, ρ) [] 0 0 50 [(0, .ref (ρ.2.2.2 40 0)), (1, .int x1), (3, .int x3), (5, .int x5)] [.int s0] := by
  unfold b_X9_answers_50 at h
  refine g_istore (lv' := [(4, .int s0), (0, .ref (ρ.2.2.2 40 0)), (1, .int x1), (3, .int x3), (5, .int x5)]) C dX9_answers_50 (by decide) rfl ?_
  refine g_goto (tgt := 94) C dX9_answers_52 (by decide) ?_
  refine g_lv [1, 2, 3, 0, 4] rfl ?_
  exact lb_X9_answers_94 C hr hz hρ hk22 h
noncomputable def b_X9_answers_22 (k22 : AS → Int32 → Int32 → Int32 → Int32 → Option (AS × Int32)) (w : Nat) (a : AS) (x1 x3 x4 x5 : Int32) : Option (AS × Int32) := (if x3 < x5 then ((if x4 ≤ (0 : Int32) then (some (a, (0 : Int32))) else ((f_X9_goes w a x1 x4 (x3 + (1 : Int32))).bind (fun v3 => some (v3.1, (0 : Int32)))))) else ((f_X9_staysAway w a x1 x5).bind (fun v4 => (if v4.2 = (0 : Int32) then ((if x4 ≤ (0 : Int32) then (b_X9_answers_69 k22 w v4.1 x1 x3 x5) else ((f_X9_goes w v4.1 x1 x4 x5).bind (fun v9 => b_X9_answers_69 k22 w v9.1 x1 x3 x5)))) else ((if x4 = (0 : Int32) then (b_X9_answers_50 k22 w v4.1 x1 x3 x5 x5) else (b_X9_answers_50 k22 w v4.1 x1 x3 x5 x4)))))))
set_option maxHeartbeats 4000000 in
set_option maxRecDepth 100000 in
theorem lb_X9_answers_22 {p : Program} {l : Launch} {e : Env} {s : State} {m : MethodId} {args : Array Value} {below : List Frame} {meth : Method} {c : Code} {D : va_G} {E : Nat → ClassId} {sz : Nat} {M : Nat → Nat → Nat → Int32} {a0 : AS} {ρ : YR} {w : Nat} {r0 : AS × Int32} (C : cx p s m args meth c D E (Aof (mx M a0, ρ) [] s.heap.size) cX9_answers 6 "TradeLineModel") (hr : meth.sig.returnType = none) (hz : s.heap.size = sz) (hρ : rsh ρ) {a : AS} {x1 x3 x4 x5 : Int32} {k22 : AS → Int32 → Int32 → Int32 → Int32 → Option (AS × Int32)} (hk22 : ∀ (a1 : AS) (z1 z3 z4 z5 : Int32), k22 a1 z1 z3 z4 z5 = some r0 → G p l e ({ frames := 2, cells := 0, slots := 0, locals := 46 } : Room) s m args below meth c D E (Aof (mx M a0, ρ) [] s.heap.size) 6 (MQ below (cQ D E sz (mx M a0, ρ) [] (pV (fun u => u = ((mx M r0.1, ρ), [])))) args s 0 0 (Aof (mx M a0, ρ) [] s.heap.size)) (mx M a1, ρ) [] 0 0 22 [(0, .ref (ρ.2.2.2 40 0)), (1, .int z1), (3, .int z3), (4, .int z4), (5, .int z5)] []) (h : b_X9_answers_22 k22 w a x1 x3 x4 x5 = some r0) : G p l e ({ frames := 2, cells := 0, slots := 0, locals := 46 } : Room) s m args below meth c D E (Aof (mx M a0, ρ) [] s.heap.size) 6 (MQ below (cQ D E sz (mx M a0, ρ) [] (pV (fun u => u = ((mx M r0.1, ρ), [])))) args s 0 0 (Aof (mx M a0, ρ) [] s.heap.size)) (mx M a, ρ) [] 0 0 22 [(0, .ref (ρ.2.2.2 40 0)), (1, .int x1), (3, .int x3), (4, .int x4), (5, .int x5)] [] := by
  unfold b_X9_answers_22 at h
  refine g_iload C dX9_answers_22 4 rfl ?_
  refine g_iload_n C dX9_answers_24 rfl 2 rfl ?_
  refine g_icmp_gt (tgt := 100) C dX9_answers_25 (by decide) (fun c25 => ?_) (fun c25 => ?_)
  · replace h := (if_pos c25).symm.trans h
    refine g_iload C dX9_answers_100 3 rfl ?_
    refine g_if_le (tgt := 115) C dX9_answers_102 (by decide) (fun c102 => ?_) (fun c102 => ?_)
    · replace h := (if_pos c102).symm.trans h
      obtain rfl := Option.some.inj h
      exact g_vret C hr hz ⟨rfl, rfl, fun _ => rfl, fun _ => rfl⟩ rfl (fun j x h => by simp at h) dX9_answers_115
    · replace h := (if_neg c102).symm.trans h
      refine g_aload_n C dX9_answers_105 rfl 0 rfl ?_
      refine g_iload_n C dX9_answers_106 rfl 1 rfl ?_
      refine g_iload C dX9_answers_107 3 rfl ?_
      refine g_iload_n C dX9_answers_109 rfl 2 rfl ?_
      refine g_iconst (v := (1 : Int32)) C dX9_answers_110 (by decide) ?_
      refine g_iadd C dX9_answers_111 ?_
      obtain ⟨v3, hv3, h⟩ := bind_of h
      refine g_cVv (n := 3) (exc := []) (exr := []) C [_, _, _] _ rfl rfl [] [] rfl rfl rfl rfl (fun _ h => absurd h (by simp)) (fun _ h => absurd h (by simp)) (fun _ h => absurd h (by simp)) (fun sz => k_X9_goes l M ρ hρ w _ _ _ _ _ hv3 D E sz) rfl gw_1480 gw_9 gw_1477 gw_1479 gs_42 ⟨by decide +kernel, by decide +kernel, by decide +kernel⟩ ⟨rfl, rfl⟩ ⟨Nat.le_of_ble_eq_true rfl, Nat.le_of_ble_eq_true rfl⟩ (rcvT (lvY0 hρ) rfl rfl rfl) (Nat.le_of_ble_eq_true rfl) dX9_answers_112 ⟨by decide, by decide⟩ (fun u hp hx => ?_)
      obtain rfl := hp
      try dsimp only [List.append_nil]
      obtain rfl := Option.some.inj h
      exact g_vret C hr hz ⟨rfl, rfl, fun _ => rfl, fun _ => rfl⟩ rfl (fun j x h => by simp at h) dX9_answers_115
  · replace h := (if_neg c25).symm.trans h
    refine g_aload_n C dX9_answers_28 rfl 0 rfl ?_
    refine g_iload_n C dX9_answers_29 rfl 1 rfl ?_
    refine g_iload C dX9_answers_30 4 rfl ?_
    obtain ⟨v4, hv4, h⟩ := bind_of h
    refine g_cVi (n := 2) (exc := []) (exr := []) C [_, _] _ rfl rfl [] [] rfl rfl rfl rfl (fun _ h => absurd h (by simp)) (fun _ h => absurd h (by simp)) (fun _ h => absurd h (by simp)) (fun sz => k_X9_staysAway l M ρ hρ w _ _ _ _ hv4 D E sz) rfl gw_1519 gw_9 gw_1516 gw_1518 gs_48 ⟨by decide +kernel, by decide +kernel, by decide +kernel⟩ ⟨rfl, rfl⟩ ⟨Nat.le_of_ble_eq_true rfl, Nat.le_of_ble_eq_true rfl⟩ (rcvT (lvY0 hρ) rfl rfl rfl) (Nat.le_of_ble_eq_true rfl) dX9_answers_32 ⟨by decide, by decide⟩ (fun r u hp hx => ?_)
    obtain ⟨er, rfl⟩ := hp
    rw [er]
    try dsimp only [List.append_nil]
    refine g_if_eq (tgt := 55) C dX9_answers_35 (by decide) (fun c35 => ?_) (fun c35 => ?_)
    · replace h := (if_pos c35).symm.trans h
      refine g_iload C dX9_answers_55 3 rfl ?_
      refine g_if_le (tgt := 69) C dX9_answers_57 (by decide) (fun c57 => ?_) (fun c57 => ?_)
      · replace h := (if_pos c57).symm.trans h
        refine g_lv [0, 1, 2, 4] rfl ?_
        exact lb_X9_answers_69 C hr hz hρ hk22 h
      · replace h := (if_neg c57).symm.trans h
        refine g_aload_n C dX9_answers_60 rfl 0 rfl ?_
        refine g_iload_n C dX9_answers_61 rfl 1 rfl ?_
        refine g_iload C dX9_answers_62 3 rfl ?_
        refine g_iload C dX9_answers_64 4 rfl ?_
        obtain ⟨v9, hv9, h⟩ := bind_of h
        refine g_cVv (n := 3) (exc := []) (exr := []) C [_, _, _] _ rfl rfl [] [] rfl rfl rfl rfl (fun _ h => absurd h (by simp)) (fun _ h => absurd h (by simp)) (fun _ h => absurd h (by simp)) (fun sz => k_X9_goes l M ρ hρ w _ _ _ _ _ hv9 D E sz) rfl gw_1480 gw_9 gw_1477 gw_1479 gs_42 ⟨by decide +kernel, by decide +kernel, by decide +kernel⟩ ⟨rfl, rfl⟩ ⟨Nat.le_of_ble_eq_true rfl, Nat.le_of_ble_eq_true rfl⟩ (rcvT (lvY0 hρ) rfl rfl rfl) (Nat.le_of_ble_eq_true rfl) dX9_answers_66 ⟨by decide, by decide⟩ (fun u hp hx => ?_)
        obtain rfl := hp
        try dsimp only [List.append_nil]
        refine g_lv [0, 1, 2, 4] rfl ?_
        exact lb_X9_answers_69 C hr hz hρ hk22 h
    · replace h := (if_neg c35).symm.trans h
      refine g_iload C dX9_answers_38 3 rfl ?_
      refine g_if_ne (tgt := 48) C dX9_answers_40 (by decide) (fun c40 => ?_) (fun c40 => ?_)
      · replace h := (if_neg c40).symm.trans h
        refine g_iload C dX9_answers_48 3 rfl ?_
        refine g_lv [0, 1, 2, 4] rfl ?_
        exact lb_X9_answers_50 C hr hz hρ hk22 h
      · replace h := (if_pos c40).symm.trans h
        refine g_iload C dX9_answers_43 4 rfl ?_
        refine g_goto (tgt := 50) C dX9_answers_45 (by decide) ?_
        refine g_lv [0, 1, 2, 4] rfl ?_
        exact lb_X9_answers_50 C hr hz hρ hk22 h
noncomputable def l_X9_answers_22  (w : Nat) : Nat → AS → Int32 → Int32 → Int32 → Int32 → Option (AS × Int32)
  | 0 => fun _ _ _ _ _ => none
  | n + 1 => fun a x1 x3 x4 x5 => b_X9_answers_22  (l_X9_answers_22  w n) w a x1 x3 x4 x5
theorem ll_X9_answers_22 {p : Program} {l : Launch} {e : Env} {s : State} {m : MethodId} {args : Array Value} {below : List Frame} {meth : Method} {c : Code} {D : va_G} {E : Nat → ClassId} {sz : Nat} {M : Nat → Nat → Nat → Int32} {a0 : AS} {ρ : YR} {w : Nat} {r0 : AS × Int32} (C : cx p s m args meth c D E (Aof (mx M a0, ρ) [] s.heap.size) cX9_answers 6 "TradeLineModel") (hr : meth.sig.returnType = none) (hz : s.heap.size = sz) (hρ : rsh ρ)   : ∀ (n : Nat) (a : AS) (x1 x3 x4 x5 : Int32), l_X9_answers_22  w n a x1 x3 x4 x5 = some r0 → G p l e ({ frames := 2, cells := 0, slots := 0, locals := 46 } : Room) s m args below meth c D E (Aof (mx M a0, ρ) [] s.heap.size) 6 (MQ below (cQ D E sz (mx M a0, ρ) [] (pV (fun u => u = ((mx M r0.1, ρ), [])))) args s 0 0 (Aof (mx M a0, ρ) [] s.heap.size)) (mx M a, ρ) [] 0 0 22 [(0, .ref (ρ.2.2.2 40 0)), (1, .int x1), (3, .int x3), (4, .int x4), (5, .int x5)] [] := by
  intro n
  induction n with
  | zero => exact fun a x1 x3 x4 x5 h => absurd (show (none : Option (AS × Int32)) = some r0 from h) (by simp)
  | succ n ih => exact fun a x1 x3 x4 x5 h => lb_X9_answers_22 (w := w) C hr hz hρ  ih h
noncomputable def b_X9_answers_20  (w : Nat) (a : AS) (x1 x3 x4 s0 : Int32) : Option (AS × Int32) := l_X9_answers_22  w w a x1 x3 x4 s0
set_option maxHeartbeats 4000000 in
set_option maxRecDepth 100000 in
theorem lb_X9_answers_20 {p : Program} {l : Launch} {e : Env} {s : State} {m : MethodId} {args : Array Value} {below : List Frame} {meth : Method} {c : Code} {D : va_G} {E : Nat → ClassId} {sz : Nat} {M : Nat → Nat → Nat → Int32} {a0 : AS} {ρ : YR} {w : Nat} {r0 : AS × Int32} (C : cx p s m args meth c D E (Aof (mx M a0, ρ) [] s.heap.size) cX9_answers 6 "TradeLineModel") (hr : meth.sig.returnType = none) (hz : s.heap.size = sz) (hρ : rsh ρ) {a : AS} {x1 x3 x4 s0 : Int32}   (h : b_X9_answers_20  w a x1 x3 x4 s0 = some r0) : G p l e ({ frames := 2, cells := 0, slots := 0, locals := 46 } : Room) s m args below meth c D E (Aof (mx M a0, ρ) [] s.heap.size) 6 (MQ below (cQ D E sz (mx M a0, ρ) [] (pV (fun u => u = ((mx M r0.1, ρ), [])))) args s 0 0 (Aof (mx M a0, ρ) [] s.heap.size)) (mx M a, ρ) [] 0 0 20 [(0, .ref (ρ.2.2.2 40 0)), (1, .int x1), (3, .int x3), (4, .int x4)] [.int s0] := by
  unfold b_X9_answers_20 at h
  refine g_istore (lv' := [(5, .int s0), (0, .ref (ρ.2.2.2 40 0)), (1, .int x1), (3, .int x3), (4, .int x4)]) C dX9_answers_20 (by decide) rfl ?_
  refine g_lv [1, 2, 3, 4, 0] rfl ?_
  exact ll_X9_answers_22 C hr hz hρ  w _ _ _ _ _ h
noncomputable def f_X9_answers  (w : Nat) (a : AS) (x1 x2 : Int32) : Option (AS × Int32) := bif ixB x1 2 then yl ((a 4 x1.toNatClampNeg)) (fun t2 => (if (1 : Int32) ≤ x2 then (b_X9_answers_20  w a x1 t2 (0 : Int32) x2) else (b_X9_answers_20  w a x1 t2 (0 : Int32) (1 : Int32)))) else none
set_option maxHeartbeats 4000000 in
set_option maxRecDepth 100000 in
theorem lb_X9_answers_0 {p : Program} {l : Launch} {e : Env} {s : State} {m : MethodId} {args : Array Value} {below : List Frame} {meth : Method} {c : Code} {D : va_G} {E : Nat → ClassId} {sz : Nat} {M : Nat → Nat → Nat → Int32} {a0 : AS} {ρ : YR} {w : Nat} {r0 : AS × Int32} (C : cx p s m args meth c D E (Aof (mx M a0, ρ) [] s.heap.size) cX9_answers 6 "TradeLineModel") (hr : meth.sig.returnType = none) (hz : s.heap.size = sz) (hρ : rsh ρ) {a : AS} {x1 x2 : Int32}   (h : f_X9_answers  w a x1 x2 = some r0) : G p l e ({ frames := 2, cells := 0, slots := 0, locals := 46 } : Room) s m args below meth c D E (Aof (mx M a0, ρ) [] s.heap.size) 6 (MQ below (cQ D E sz (mx M a0, ρ) [] (pV (fun u => u = ((mx M r0.1, ρ), [])))) args s 0 0 (Aof (mx M a0, ρ) [] s.heap.size)) (mx M a, ρ) [] 0 0 0 [(0, .ref (ρ.2.2.2 40 0)), (1, .int x1), (2, .int x2)] [] := by
  unfold f_X9_answers at h
  refine g_aload_n C dX9_answers_0 rfl 0 rfl ?_
  refine g_get (k := 40) (i := 0) (ref := "TradeLineModel") (v := .ref (ρ.2.2.2 (40 + 4) 0)) C rfl (lvY0 hρ) rfl rfl inGX9 4 (by decide) gw_1333 (fun _ h => h) rfl dX9_answers_1 ?_
  refine g_iload_n C dX9_answers_4 rfl 1 rfl ?_
  obtain ⟨g1, h⟩ := of_guard h
  refine q_iald C hρ (j := 4) (N := 2) (List.mem_of_getElem? (i := 1) rfl) rfl rfl g1 dX9_answers_5 ?_
  refine q_topi (fun t2 et2 => ?_)
  replace h := yl_of h et2
  refine g_istore_n (lv' := [(3, .int t2), (0, .ref (ρ.2.2.2 40 0)), (1, .int x1), (2, .int x2)]) C dX9_answers_6 rfl (by decide) rfl ?_
  refine g_iconst (v := (0 : Int32)) C dX9_answers_7 (by decide) ?_
  refine g_istore (lv' := [(4, .int (0 : Int32)), (3, .int t2), (0, .ref (ρ.2.2.2 40 0)), (1, .int x1), (2, .int x2)]) C dX9_answers_8 (by decide) rfl ?_
  refine g_iload_n C dX9_answers_10 rfl 4 rfl ?_
  refine g_iconst (v := (1 : Int32)) C dX9_answers_11 (by decide) ?_
  refine g_icmp_ge (tgt := 19) C dX9_answers_12 (by decide) (fun c12 => ?_) (fun c12 => ?_)
  · replace h := (if_pos c12).symm.trans h
    refine g_iload_n C dX9_answers_19 rfl 4 rfl ?_
    refine g_lv [2, 3, 1, 0] rfl ?_
    exact lb_X9_answers_20 C hr hz hρ  h
  · replace h := (if_neg c12).symm.trans h
    refine g_iconst (v := (1 : Int32)) C dX9_answers_15 (by decide) ?_
    refine g_goto (tgt := 20) C dX9_answers_16 (by decide) ?_
    refine g_lv [2, 3, 1, 0] rfl ?_
    exact lb_X9_answers_20 C hr hz hρ  h
theorem k_X9_answers (l : Launch) (M : Nat → Nat → Nat → Int32) (ρ : YR) (hρ : rsh ρ) (w : Nat) (a : AS) (x1 x2 : Int32) (r0 : AS × Int32) (h : f_X9_answers w a x1 x2 = some r0) : ∀ D E sz, Met l yX9_answers gwX9_answers ({ frames := 2, cells := 0, slots := 0, locals := 46 } : Room) (cP D E sz (mx M a, ρ) [] [.ref (ρ.2.2.2 40 0), .int x1, .int x2]) (cQ D E sz (mx M a, ρ) [] (pV (fun u => u = ((mx M r0.1, ρ), [])))) (0) (0) (Aof (mx M a, ρ) [] sz) := by
  intro D E sz
  refine g_of (cc := cX9_answers) (maxL := 6) (ret := none) (own := "TradeLineModel") (by decide) rfl rfl (Nat.le_of_ble_eq_true rfl) ?_
  intro p e s m args below meth c C hr hin hz ha hwr
  refine g_lv [0, 1, 2] rfl ?_
  exact lb_X9_answers_0 C hr hz hρ h
