noncomputable def f_X8_party  (w : Nat) (μ : MP) (ν : NC) (x1 : Int32) : Option (Nat) := (if x1 = (1 : Int32) then (bif ltB 0 (ν.2 0) then some (1 + 1) else none) else (bif ltB 0 (ν.2 0) then some (0 + 1) else none))
set_option maxHeartbeats 4000000 in
set_option maxRecDepth 100000 in
theorem lb_X8_party_0 {p : Program} {l : Launch} {e : Env} {s : State} {m : MethodId} {args : Array Value} {below : List Frame} {meth : Method} {c : Code} {D : va_G} {E : Nat → ClassId} {sz : Nat} {μ : MP} {ν : NC} {a : AS} {Ad : Nat → Nat → Nat} {w : Nat} {r0 : Nat} (C : cx p s m args meth c D E (Aof (zS μ ν a Ad) [] s.heap.size) cX8_party 2 "TradeLine") (hr : meth.sig.returnType = (some (.object "TradeLine$Party"))) (hz : s.heap.size = sz) {x1 : Int32}   (h : f_X8_party  w μ ν x1 = some r0) : G p l e ({ frames := 0, cells := 0, slots := 0, locals := 0 } : Room) s m args below meth c D E (Aof (zS μ ν a Ad) [] s.heap.size) 2 (MQ below (cQ D E sz (zS μ ν a Ad) [] (pQ (fun r u => r = nv (Ad 1) r0 ∧ u = (zS μ ν a Ad, [])))) args s 0 0 (Aof (zS μ ν a Ad) [] s.heap.size)) (zS μ ν a Ad) [] 0 0 0 [(0, .ref (Ad 0 0)), (1, .int x1)] [] := by
  unfold f_X8_party at h
  refine g_iload_n C dX8_party_0 rfl 1 rfl ?_
  refine g_iconst (v := (1 : Int32)) C dX8_party_1 (by decide) ?_
  refine g_icmp_ne (tgt := 12) C dX8_party_2 (by decide) (fun c2 => ?_) (fun c2 => ?_)
  · replace h := (if_neg c2).symm.trans h
    refine g_aload_n C dX8_party_12 rfl 0 rfl ?_
    obtain ⟨g1, h⟩ := of_guard h
    refine g_get (k := 0) (i := 0) (ref := "TradeLine") (v := .ref (Ad 1 0)) C rfl (lvZ g1 rfl) rfl rfl inGX8 0 (by decide) gw_170 (fun _ h => h) rfl dX8_party_13 ?_
    obtain rfl := Option.some.inj h
    exact g_aret C hr (Or.inl ⟨_, rfl⟩) (Or.inr ⟨_, rfl⟩) hz ⟨rfl, rfl, fun _ => rfl, fun _ => rfl⟩ ⟨rfl, rfl⟩ (fun j x h => by simp at h) dX8_party_16
  · replace h := (if_pos c2).symm.trans h
    refine g_aload_n C dX8_party_5 rfl 0 rfl ?_
    obtain ⟨g2, h⟩ := of_guard h
    refine g_get (k := 0) (i := 0) (ref := "TradeLine") (v := .ref (Ad 1 1)) C rfl (lvZ g2 rfl) rfl rfl inGX8 1 (by decide) gw_171 (fun _ h => h) rfl dX8_party_6 ?_
    refine g_goto (tgt := 16) C dX8_party_9 (by decide) ?_
    obtain rfl := Option.some.inj h
    exact g_aret C hr (Or.inl ⟨_, rfl⟩) (Or.inr ⟨_, rfl⟩) hz ⟨rfl, rfl, fun _ => rfl, fun _ => rfl⟩ ⟨rfl, rfl⟩ (fun j x h => by simp at h) dX8_party_16
theorem c_X8_party (l : Launch) (μ : MP) (ν : NC) (a : AS) (Ad : Nat → Nat → Nat) (w : Nat) (x1 : Int32) (r0 : Nat) (h : f_X8_party w μ ν x1 = some r0) : ∀ D E sz, Met l yX8_party gwX8_party ({ frames := 0, cells := 0, slots := 0, locals := 0 } : Room) (cP D E sz (zS μ ν a Ad) [] [.ref (Ad 0 0), .int x1]) (cQ D E sz (zS μ ν a Ad) [] (pQ (fun r u => r = nv (Ad 1) r0 ∧ u = (zS μ ν a Ad, [])))) (0) (0) (Aof (zS μ ν a Ad) [] sz) := by
  intro D E sz
  refine g_of (cc := cX8_party) (maxL := 2) (ret := (some (.object "TradeLine$Party"))) (own := "TradeLine") (by decide) rfl rfl (Nat.le_of_ble_eq_true rfl) ?_
  intro p e s m args below meth c C hr hin hz ha hwr
  refine g_lv (lv' := [(0, .ref (Ad 0 0)), (1, .int x1)]) [0, 1] rfl ?_
  exact lb_X8_party_0 C hr hz h
noncomputable def f_X8_otherSide  (w : Nat) (μ : MP) (ν : NC) (x0 : Int32) : Option (Int32) := (if x0 = (1 : Int32) then (some (0 : Int32)) else (some (1 : Int32)))
set_option maxHeartbeats 4000000 in
set_option maxRecDepth 100000 in
theorem lb_X8_otherSide_0 {p : Program} {l : Launch} {e : Env} {s : State} {m : MethodId} {args : Array Value} {below : List Frame} {meth : Method} {c : Code} {D : va_G} {E : Nat → ClassId} {sz : Nat} {μ : MP} {ν : NC} {a : AS} {Ad : Nat → Nat → Nat} {w : Nat} {r0 : Int32} (C : cx p s m args meth c D E (Aof (zS μ ν a Ad) [] s.heap.size) cX8_otherSide 1 "TradeLine") (hr : meth.sig.returnType = (some .int)) (hz : s.heap.size = sz) {x0 : Int32}   (h : f_X8_otherSide  w μ ν x0 = some r0) : G p l e ({ frames := 0, cells := 0, slots := 0, locals := 0 } : Room) s m args below meth c D E (Aof (zS μ ν a Ad) [] s.heap.size) 1 (MQ below (cQ D E sz (zS μ ν a Ad) [] (pI (fun r u => r = r0 ∧ u = (zS μ ν a Ad, [])))) args s 0 0 (Aof (zS μ ν a Ad) [] s.heap.size)) (zS μ ν a Ad) [] 0 0 0 [(0, .int x0)] [] := by
  unfold f_X8_otherSide at h
  refine g_iload_n C dX8_otherSide_0 rfl 0 rfl ?_
  refine g_iconst (v := (1 : Int32)) C dX8_otherSide_1 (by decide) ?_
  refine g_icmp_ne (tgt := 9) C dX8_otherSide_2 (by decide) (fun c2 => ?_) (fun c2 => ?_)
  · replace h := (if_neg c2).symm.trans h
    refine g_iconst (v := (1 : Int32)) C dX8_otherSide_9 (by decide) ?_
    exact g_iret C hr rfl hz ⟨rfl, rfl, fun _ => rfl, fun _ => rfl⟩ ⟨Option.some.inj h, rfl⟩ (fun j x h => by simp at h) dX8_otherSide_10
  · replace h := (if_pos c2).symm.trans h
    refine g_iconst (v := (0 : Int32)) C dX8_otherSide_5 (by decide) ?_
    refine g_goto (tgt := 10) C dX8_otherSide_6 (by decide) ?_
    exact g_iret C hr rfl hz ⟨rfl, rfl, fun _ => rfl, fun _ => rfl⟩ ⟨Option.some.inj h, rfl⟩ (fun j x h => by simp at h) dX8_otherSide_10
theorem c_X8_otherSide (l : Launch) (μ : MP) (ν : NC) (a : AS) (Ad : Nat → Nat → Nat) (w : Nat) (x0 : Int32) (r0 : Int32) (h : f_X8_otherSide w μ ν x0 = some r0) : ∀ D E sz, Met l yX8_otherSide gwX8_otherSide ({ frames := 0, cells := 0, slots := 0, locals := 0 } : Room) (cP D E sz (zS μ ν a Ad) [] [.int x0]) (cQ D E sz (zS μ ν a Ad) [] (pI (fun r u => r = r0 ∧ u = (zS μ ν a Ad, [])))) (0) (0) (Aof (zS μ ν a Ad) [] sz) := by
  intro D E sz
  refine g_of (cc := cX8_otherSide) (maxL := 1) (ret := (some .int)) (own := "TradeLine") (by decide) rfl rfl (Nat.le_of_ble_eq_true rfl) ?_
  intro p e s m args below meth c C hr hin hz ha hwr
  refine g_lv (lv' := [(0, .int x0)]) [0] rfl ?_
  exact lb_X8_otherSide_0 C hr hz h
noncomputable def b_X8_findOrder_29  (w : Nat) (μ : MP) (ν : NC) : Option (Nat) := some 0
set_option maxHeartbeats 4000000 in
set_option maxRecDepth 100000 in
theorem lb_X8_findOrder_29 {p : Program} {l : Launch} {e : Env} {s : State} {m : MethodId} {args : Array Value} {below : List Frame} {meth : Method} {c : Code} {D : va_G} {E : Nat → ClassId} {sz : Nat} {μ : MP} {ν : NC} {a : AS} {Ad : Nat → Nat → Nat} {w : Nat} {r0 : Nat} (C : cx p s m args meth c D E (Aof (zS μ ν a Ad) [] s.heap.size) cX8_findOrder 2 "TradeLine") (hr : meth.sig.returnType = (some (.object "TradeLine$Order"))) (hz : s.heap.size = sz)   (h : b_X8_findOrder_29  w μ ν  = some r0) : G p l e ({ frames := 3, cells := 0, slots := 0, locals := 81 } : Room) s m args below meth c D E (Aof (zS μ ν a Ad) [] s.heap.size) 2 (MQ below (cQ D E sz (zS μ ν a Ad) [] (pQ (fun r u => r = nv (Ad 20) r0 ∧ u = (zS μ ν a Ad, [])))) args s 0 0 (Aof (zS μ ν a Ad) [] s.heap.size)) (zS μ ν a Ad) [] 0 0 29 [(0, .ref (Ad 0 0))] [] := by
  unfold b_X8_findOrder_29 at h
  refine g_null C dX8_findOrder_29 ?_
  obtain rfl := Option.some.inj h
  exact g_aret C hr (Or.inl ⟨_, rfl⟩) (Or.inl rfl) hz ⟨rfl, rfl, fun _ => rfl, fun _ => rfl⟩ ⟨rfl, rfl⟩ (fun j x h => by simp at h) dX8_findOrder_30
noncomputable def f_X8_findOrder  (w : Nat) (μ : MP) (ν : NC) (x1 : Int32) : Option (Nat) := (if x1 < (0 : Int32) then (b_X8_findOrder_29  w μ ν ) else (bif ltB 0 (ν.2 0) then bif ltB 2 (ν.2 4) then (if (μ.1 4 2 2) ≤ x1 then (b_X8_findOrder_29  w μ ν ) else ((ls_get μ ν 2 x1).bind (fun v3 => bif eqB (eK 5 2) 20 then bif ltB v3 (ν.2 20) then some (v3 + 1) else none else none))) else none else none))
set_option maxHeartbeats 4000000 in
set_option maxRecDepth 100000 in
theorem lb_X8_findOrder_0 {p : Program} {l : Launch} {e : Env} {s : State} {m : MethodId} {args : Array Value} {below : List Frame} {meth : Method} {c : Code} {D : va_G} {E : Nat → ClassId} {sz : Nat} {μ : MP} {ν : NC} {a : AS} {Ad : Nat → Nat → Nat} {w : Nat} {r0 : Nat} (C : cx p s m args meth c D E (Aof (zS μ ν a Ad) [] s.heap.size) cX8_findOrder 2 "TradeLine") (hr : meth.sig.returnType = (some (.object "TradeLine$Order"))) (hz : s.heap.size = sz) {x1 : Int32}   (h : f_X8_findOrder  w μ ν x1 = some r0) : G p l e ({ frames := 3, cells := 0, slots := 0, locals := 81 } : Room) s m args below meth c D E (Aof (zS μ ν a Ad) [] s.heap.size) 2 (MQ below (cQ D E sz (zS μ ν a Ad) [] (pQ (fun r u => r = nv (Ad 20) r0 ∧ u = (zS μ ν a Ad, [])))) args s 0 0 (Aof (zS μ ν a Ad) [] s.heap.size)) (zS μ ν a Ad) [] 0 0 0 [(0, .ref (Ad 0 0)), (1, .int x1)] [] := by
  unfold f_X8_findOrder at h
  refine g_iload_n C dX8_findOrder_0 rfl 1 rfl ?_
  refine g_if_lt (tgt := 29) C dX8_findOrder_1 (by decide) (fun c1 => ?_) (fun c1 => ?_)
  · replace h := (if_pos c1).symm.trans h
    refine g_lv [0] rfl ?_
    exact lb_X8_findOrder_29 C hr hz  h
  · replace h := (if_neg c1).symm.trans h
    refine g_iload_n C dX8_findOrder_4 rfl 1 rfl ?_
    refine g_aload_n C dX8_findOrder_5 rfl 0 rfl ?_
    obtain ⟨g1, h⟩ := of_guard h
    refine g_get (k := 0) (i := 0) (ref := "TradeLine") (v := .ref (Ad 4 2)) C rfl (lvZ g1 rfl) rfl rfl inGX8 2 (by decide) gw_172 (fun _ h => h) rfl dX8_findOrder_6 ?_
    obtain ⟨g2, h⟩ := of_guard h
    refine g_cVi (n := 0) (exc := []) (exr := []) C [] _ rfl rfl [] [] rfl rfl rfl rfl (fun _ h => absurd h (by simp)) (fun _ h => absurd h (by simp)) (fun _ h => absurd h (by simp)) (fun sz => c_Jx4a65c_size_8abf5 l μ ν a Ad _ g2 D E sz) rfl gw_308 gw_5 gw_305 gw_306 gw_307 ⟨by decide +kernel, by decide +kernel, by decide +kernel⟩ ⟨rfl, rfl⟩ ⟨Nat.le_of_ble_eq_true rfl, Nat.le_of_ble_eq_true rfl⟩ (rcvT (lvZ g2 rfl) rfl rfl rfl) (Nat.le_of_ble_eq_true rfl) dX8_findOrder_9 ⟨by decide, by decide⟩ (fun r u hp hx => ?_)
    obtain ⟨er, rfl⟩ := hp
    rw [er]
    try dsimp only [List.append_nil]
    refine g_icmp_ge (tgt := 29) C dX8_findOrder_12 (by decide) (fun c12 => ?_) (fun c12 => ?_)
    · replace h := (if_pos c12).symm.trans h
      refine g_lv [0] rfl ?_
      exact lb_X8_findOrder_29 C hr hz  h
    · replace h := (if_neg c12).symm.trans h
      refine g_aload_n C dX8_findOrder_15 rfl 0 rfl ?_
      refine g_get (k := 0) (i := 0) (ref := "TradeLine") (v := .ref (Ad 4 2)) C rfl (lvZ g1 rfl) rfl rfl inGX8 2 (by decide) gw_172 (fun _ h => h) rfl dX8_findOrder_16 ?_
      refine g_iload_n C dX8_findOrder_19 rfl 1 rfl ?_
      obtain ⟨v3, hv3, h⟩ := bind_of h
      refine g_cVq (n := 1) (exc := []) (exr := []) C [_] _ rfl rfl [] [] rfl rfl rfl rfl (fun _ h => absurd h (by simp)) (fun _ h => absurd h (by simp)) (fun _ h => absurd h (by simp)) (fun sz => c_Jx4a65c_get_915e3 l μ ν a Ad _ _ _ hv3 D E sz) rfl gw_543 gw_5 gw_576 gw_541 gw_542 ⟨by decide +kernel, by decide +kernel, by decide +kernel⟩ ⟨rfl, rfl⟩ ⟨Nat.le_of_ble_eq_true rfl, Nat.le_of_ble_eq_true rfl⟩ (rcvT (lvZ g2 rfl) rfl rfl rfl) (Nat.le_of_ble_eq_true rfl) dX8_findOrder_20 ⟨by decide, by decide⟩ (fun r u hp hx => ?_)
      obtain ⟨er, rfl⟩ := hp
      rw [er]
      try dsimp only [List.append_nil]
      obtain ⟨g4, h⟩ := of_guard h
      rw [eqB_e g4]
      obtain ⟨g5, h⟩ := of_guard h
      refine z_cast (k := 20) (i := v3) C (lvZ g5 rfl) rfl rfl gw_577 dX8_findOrder_23 ?_
      refine g_goto (tgt := 30) C dX8_findOrder_26 (by decide) ?_
      obtain rfl := Option.some.inj h
      exact g_aret C hr (Or.inl ⟨_, rfl⟩) (Or.inr ⟨_, rfl⟩) hz ⟨rfl, rfl, fun _ => rfl, fun _ => rfl⟩ ⟨rfl, rfl⟩ (fun j x h => by simp at h) dX8_findOrder_30
theorem c_X8_findOrder (l : Launch) (μ : MP) (ν : NC) (a : AS) (Ad : Nat → Nat → Nat) (w : Nat) (x1 : Int32) (r0 : Nat) (h : f_X8_findOrder w μ ν x1 = some r0) : ∀ D E sz, Met l yX8_findOrder gwX8_findOrder ({ frames := 3, cells := 0, slots := 0, locals := 81 } : Room) (cP D E sz (zS μ ν a Ad) [] [.ref (Ad 0 0), .int x1]) (cQ D E sz (zS μ ν a Ad) [] (pQ (fun r u => r = nv (Ad 20) r0 ∧ u = (zS μ ν a Ad, [])))) (0) (0) (Aof (zS μ ν a Ad) [] sz) := by
  intro D E sz
  refine g_of (cc := cX8_findOrder) (maxL := 2) (ret := (some (.object "TradeLine$Order"))) (own := "TradeLine") (by decide) rfl rfl (Nat.le_of_ble_eq_true rfl) ?_
  intro p e s m args below meth c C hr hin hz ha hwr
  refine g_lv (lv' := [(0, .ref (Ad 0 0)), (1, .int x1)]) [0, 1] rfl ?_
  exact lb_X8_findOrder_0 C hr hz h
noncomputable def b_X8_findExecution_29  (w : Nat) (μ : MP) (ν : NC) : Option (Nat) := some 0
set_option maxHeartbeats 4000000 in
set_option maxRecDepth 100000 in
theorem lb_X8_findExecution_29 {p : Program} {l : Launch} {e : Env} {s : State} {m : MethodId} {args : Array Value} {below : List Frame} {meth : Method} {c : Code} {D : va_G} {E : Nat → ClassId} {sz : Nat} {μ : MP} {ν : NC} {a : AS} {Ad : Nat → Nat → Nat} {w : Nat} {r0 : Nat} (C : cx p s m args meth c D E (Aof (zS μ ν a Ad) [] s.heap.size) cX8_findExecution 2 "TradeLine") (hr : meth.sig.returnType = (some (.object "TradeLine$Execution"))) (hz : s.heap.size = sz)   (h : b_X8_findExecution_29  w μ ν  = some r0) : G p l e ({ frames := 3, cells := 0, slots := 0, locals := 81 } : Room) s m args below meth c D E (Aof (zS μ ν a Ad) [] s.heap.size) 2 (MQ below (cQ D E sz (zS μ ν a Ad) [] (pQ (fun r u => r = nv (Ad 23) r0 ∧ u = (zS μ ν a Ad, [])))) args s 0 0 (Aof (zS μ ν a Ad) [] s.heap.size)) (zS μ ν a Ad) [] 0 0 29 [(0, .ref (Ad 0 0))] [] := by
  unfold b_X8_findExecution_29 at h
  refine g_null C dX8_findExecution_29 ?_
  obtain rfl := Option.some.inj h
  exact g_aret C hr (Or.inl ⟨_, rfl⟩) (Or.inl rfl) hz ⟨rfl, rfl, fun _ => rfl, fun _ => rfl⟩ ⟨rfl, rfl⟩ (fun j x h => by simp at h) dX8_findExecution_30
noncomputable def f_X8_findExecution  (w : Nat) (μ : MP) (ν : NC) (x1 : Int32) : Option (Nat) := (if x1 < (0 : Int32) then (b_X8_findExecution_29  w μ ν ) else (bif ltB 0 (ν.2 0) then bif ltB 5 (ν.2 4) then (if (μ.1 4 5 2) ≤ x1 then (b_X8_findExecution_29  w μ ν ) else ((ls_get μ ν 5 x1).bind (fun v3 => bif eqB (eK 5 5) 23 then bif ltB v3 (ν.2 23) then some (v3 + 1) else none else none))) else none else none))
set_option maxHeartbeats 4000000 in
set_option maxRecDepth 100000 in
theorem lb_X8_findExecution_0 {p : Program} {l : Launch} {e : Env} {s : State} {m : MethodId} {args : Array Value} {below : List Frame} {meth : Method} {c : Code} {D : va_G} {E : Nat → ClassId} {sz : Nat} {μ : MP} {ν : NC} {a : AS} {Ad : Nat → Nat → Nat} {w : Nat} {r0 : Nat} (C : cx p s m args meth c D E (Aof (zS μ ν a Ad) [] s.heap.size) cX8_findExecution 2 "TradeLine") (hr : meth.sig.returnType = (some (.object "TradeLine$Execution"))) (hz : s.heap.size = sz) {x1 : Int32}   (h : f_X8_findExecution  w μ ν x1 = some r0) : G p l e ({ frames := 3, cells := 0, slots := 0, locals := 81 } : Room) s m args below meth c D E (Aof (zS μ ν a Ad) [] s.heap.size) 2 (MQ below (cQ D E sz (zS μ ν a Ad) [] (pQ (fun r u => r = nv (Ad 23) r0 ∧ u = (zS μ ν a Ad, [])))) args s 0 0 (Aof (zS μ ν a Ad) [] s.heap.size)) (zS μ ν a Ad) [] 0 0 0 [(0, .ref (Ad 0 0)), (1, .int x1)] [] := by
  unfold f_X8_findExecution at h
  refine g_iload_n C dX8_findExecution_0 rfl 1 rfl ?_
  refine g_if_lt (tgt := 29) C dX8_findExecution_1 (by decide) (fun c1 => ?_) (fun c1 => ?_)
  · replace h := (if_pos c1).symm.trans h
    refine g_lv [0] rfl ?_
    exact lb_X8_findExecution_29 C hr hz  h
  · replace h := (if_neg c1).symm.trans h
    refine g_iload_n C dX8_findExecution_4 rfl 1 rfl ?_
    refine g_aload_n C dX8_findExecution_5 rfl 0 rfl ?_
    obtain ⟨g1, h⟩ := of_guard h
    refine g_get (k := 0) (i := 0) (ref := "TradeLine") (v := .ref (Ad 4 5)) C rfl (lvZ g1 rfl) rfl rfl inGX8 5 (by decide) gw_175 (fun _ h => h) rfl dX8_findExecution_6 ?_
    obtain ⟨g2, h⟩ := of_guard h
    refine g_cVi (n := 0) (exc := []) (exr := []) C [] _ rfl rfl [] [] rfl rfl rfl rfl (fun _ h => absurd h (by simp)) (fun _ h => absurd h (by simp)) (fun _ h => absurd h (by simp)) (fun sz => c_Jx4a65c_size_8abf5 l μ ν a Ad _ g2 D E sz) rfl gw_308 gw_5 gw_305 gw_306 gw_307 ⟨by decide +kernel, by decide +kernel, by decide +kernel⟩ ⟨rfl, rfl⟩ ⟨Nat.le_of_ble_eq_true rfl, Nat.le_of_ble_eq_true rfl⟩ (rcvT (lvZ g2 rfl) rfl rfl rfl) (Nat.le_of_ble_eq_true rfl) dX8_findExecution_9 ⟨by decide, by decide⟩ (fun r u hp hx => ?_)
    obtain ⟨er, rfl⟩ := hp
    rw [er]
    try dsimp only [List.append_nil]
    refine g_icmp_ge (tgt := 29) C dX8_findExecution_12 (by decide) (fun c12 => ?_) (fun c12 => ?_)
    · replace h := (if_pos c12).symm.trans h
      refine g_lv [0] rfl ?_
      exact lb_X8_findExecution_29 C hr hz  h
    · replace h := (if_neg c12).symm.trans h
      refine g_aload_n C dX8_findExecution_15 rfl 0 rfl ?_
      refine g_get (k := 0) (i := 0) (ref := "TradeLine") (v := .ref (Ad 4 5)) C rfl (lvZ g1 rfl) rfl rfl inGX8 5 (by decide) gw_175 (fun _ h => h) rfl dX8_findExecution_16 ?_
      refine g_iload_n C dX8_findExecution_19 rfl 1 rfl ?_
      obtain ⟨v3, hv3, h⟩ := bind_of h
      refine g_cVq (n := 1) (exc := []) (exr := []) C [_] _ rfl rfl [] [] rfl rfl rfl rfl (fun _ h => absurd h (by simp)) (fun _ h => absurd h (by simp)) (fun _ h => absurd h (by simp)) (fun sz => c_Jx4a65c_get_915e3 l μ ν a Ad _ _ _ hv3 D E sz) rfl gw_543 gw_5 gw_576 gw_541 gw_542 ⟨by decide +kernel, by decide +kernel, by decide +kernel⟩ ⟨rfl, rfl⟩ ⟨Nat.le_of_ble_eq_true rfl, Nat.le_of_ble_eq_true rfl⟩ (rcvT (lvZ g2 rfl) rfl rfl rfl) (Nat.le_of_ble_eq_true rfl) dX8_findExecution_20 ⟨by decide, by decide⟩ (fun r u hp hx => ?_)
      obtain ⟨er, rfl⟩ := hp
      rw [er]
      try dsimp only [List.append_nil]
      obtain ⟨g4, h⟩ := of_guard h
      rw [eqB_e g4]
      obtain ⟨g5, h⟩ := of_guard h
      refine z_cast (k := 23) (i := v3) C (lvZ g5 rfl) rfl rfl gw_893 dX8_findExecution_23 ?_
      refine g_goto (tgt := 30) C dX8_findExecution_26 (by decide) ?_
      obtain rfl := Option.some.inj h
      exact g_aret C hr (Or.inl ⟨_, rfl⟩) (Or.inr ⟨_, rfl⟩) hz ⟨rfl, rfl, fun _ => rfl, fun _ => rfl⟩ ⟨rfl, rfl⟩ (fun j x h => by simp at h) dX8_findExecution_30
theorem c_X8_findExecution (l : Launch) (μ : MP) (ν : NC) (a : AS) (Ad : Nat → Nat → Nat) (w : Nat) (x1 : Int32) (r0 : Nat) (h : f_X8_findExecution w μ ν x1 = some r0) : ∀ D E sz, Met l yX8_findExecution gwX8_findExecution ({ frames := 3, cells := 0, slots := 0, locals := 81 } : Room) (cP D E sz (zS μ ν a Ad) [] [.ref (Ad 0 0), .int x1]) (cQ D E sz (zS μ ν a Ad) [] (pQ (fun r u => r = nv (Ad 23) r0 ∧ u = (zS μ ν a Ad, [])))) (0) (0) (Aof (zS μ ν a Ad) [] sz) := by
  intro D E sz
  refine g_of (cc := cX8_findExecution) (maxL := 2) (ret := (some (.object "TradeLine$Execution"))) (own := "TradeLine") (by decide) rfl rfl (Nat.le_of_ble_eq_true rfl) ?_
  intro p e s m args below meth c C hr hin hz ha hwr
  refine g_lv (lv' := [(0, .ref (Ad 0 0)), (1, .int x1)]) [0, 1] rfl ?_
  exact lb_X8_findExecution_0 C hr hz h
noncomputable def f_X8_quotesFor  (w : Nat) (μ : MP) (ν : NC) (x1 : Int32) : Option (Nat) := (if x1 = (0 : Int32) then (bif ltB 0 (ν.2 0) then some (0 + 1) else none) else (bif ltB 0 (ν.2 0) then some (1 + 1) else none))
set_option maxHeartbeats 4000000 in
set_option maxRecDepth 100000 in
theorem lb_X8_quotesFor_0 {p : Program} {l : Launch} {e : Env} {s : State} {m : MethodId} {args : Array Value} {below : List Frame} {meth : Method} {c : Code} {D : va_G} {E : Nat → ClassId} {sz : Nat} {μ : MP} {ν : NC} {a : AS} {Ad : Nat → Nat → Nat} {w : Nat} {r0 : Nat} (C : cx p s m args meth c D E (Aof (zS μ ν a Ad) [] s.heap.size) cX8_quotesFor 2 "TradeLine") (hr : meth.sig.returnType = (some (.array (.object "TradeLine$Quote")))) (hz : s.heap.size = sz) {x1 : Int32}   (h : f_X8_quotesFor  w μ ν x1 = some r0) : G p l e ({ frames := 0, cells := 0, slots := 0, locals := 0 } : Room) s m args below meth c D E (Aof (zS μ ν a Ad) [] s.heap.size) 2 (MQ below (cQ D E sz (zS μ ν a Ad) [] (pQ (fun r u => r = nv (Ad 24) r0 ∧ u = (zS μ ν a Ad, [])))) args s 0 0 (Aof (zS μ ν a Ad) [] s.heap.size)) (zS μ ν a Ad) [] 0 0 0 [(0, .ref (Ad 0 0)), (1, .int x1)] [] := by
  unfold f_X8_quotesFor at h
  refine g_iload_n C dX8_quotesFor_0 rfl 1 rfl ?_
  refine g_if_eq (tgt := 11) C dX8_quotesFor_1 (by decide) (fun c1 => ?_) (fun c1 => ?_)
  · replace h := (if_pos c1).symm.trans h
    refine g_aload_n C dX8_quotesFor_11 rfl 0 rfl ?_
    obtain ⟨g1, h⟩ := of_guard h
    refine g_get (k := 0) (i := 0) (ref := "TradeLine") (v := .ref (Ad 24 0)) C rfl (lvZ g1 rfl) rfl rfl inGX8 6 (by decide) gw_176 (fun _ h => h) rfl dX8_quotesFor_12 ?_
    obtain rfl := Option.some.inj h
    exact g_aret C hr (Or.inr ⟨_, rfl⟩) (Or.inr ⟨_, rfl⟩) hz ⟨rfl, rfl, fun _ => rfl, fun _ => rfl⟩ ⟨rfl, rfl⟩ (fun j x h => by simp at h) dX8_quotesFor_15
  · replace h := (if_neg c1).symm.trans h
    refine g_aload_n C dX8_quotesFor_4 rfl 0 rfl ?_
    obtain ⟨g2, h⟩ := of_guard h
    refine g_get (k := 0) (i := 0) (ref := "TradeLine") (v := .ref (Ad 24 1)) C rfl (lvZ g2 rfl) rfl rfl inGX8 7 (by decide) gw_177 (fun _ h => h) rfl dX8_quotesFor_5 ?_
    refine g_goto (tgt := 15) C dX8_quotesFor_8 (by decide) ?_
    obtain rfl := Option.some.inj h
    exact g_aret C hr (Or.inr ⟨_, rfl⟩) (Or.inr ⟨_, rfl⟩) hz ⟨rfl, rfl, fun _ => rfl, fun _ => rfl⟩ ⟨rfl, rfl⟩ (fun j x h => by simp at h) dX8_quotesFor_15
theorem c_X8_quotesFor (l : Launch) (μ : MP) (ν : NC) (a : AS) (Ad : Nat → Nat → Nat) (w : Nat) (x1 : Int32) (r0 : Nat) (h : f_X8_quotesFor w μ ν x1 = some r0) : ∀ D E sz, Met l yX8_quotesFor gwX8_quotesFor ({ frames := 0, cells := 0, slots := 0, locals := 0 } : Room) (cP D E sz (zS μ ν a Ad) [] [.ref (Ad 0 0), .int x1]) (cQ D E sz (zS μ ν a Ad) [] (pQ (fun r u => r = nv (Ad 24) r0 ∧ u = (zS μ ν a Ad, [])))) (0) (0) (Aof (zS μ ν a Ad) [] sz) := by
  intro D E sz
  refine g_of (cc := cX8_quotesFor) (maxL := 2) (ret := (some (.array (.object "TradeLine$Quote")))) (own := "TradeLine") (by decide) rfl rfl (Nat.le_of_ble_eq_true rfl) ?_
  intro p e s m args below meth c C hr hin hz ha hwr
  refine g_lv (lv' := [(0, .ref (Ad 0 0)), (1, .int x1)]) [0, 1] rfl ?_
  exact lb_X8_quotesFor_0 C hr hz h
noncomputable def f_X8_byRank  (w : Nat) (μ : MP) (ν : NC) (x1 : Int32) : Option (Nat) := (if x1 = (0 : Int32) then (bif ltB 0 (ν.2 0) then some (3 + 1) else none) else (bif ltB 0 (ν.2 0) then some (4 + 1) else none))
set_option maxHeartbeats 4000000 in
set_option maxRecDepth 100000 in
theorem lb_X8_byRank_0 {p : Program} {l : Launch} {e : Env} {s : State} {m : MethodId} {args : Array Value} {below : List Frame} {meth : Method} {c : Code} {D : va_G} {E : Nat → ClassId} {sz : Nat} {μ : MP} {ν : NC} {a : AS} {Ad : Nat → Nat → Nat} {w : Nat} {r0 : Nat} (C : cx p s m args meth c D E (Aof (zS μ ν a Ad) [] s.heap.size) cX8_byRank 2 "TradeLine") (hr : meth.sig.returnType = (some (.object "java/util/ArrayList"))) (hz : s.heap.size = sz) {x1 : Int32}   (h : f_X8_byRank  w μ ν x1 = some r0) : G p l e ({ frames := 0, cells := 0, slots := 0, locals := 0 } : Room) s m args below meth c D E (Aof (zS μ ν a Ad) [] s.heap.size) 2 (MQ below (cQ D E sz (zS μ ν a Ad) [] (pQ (fun r u => r = nv (Ad 4) r0 ∧ u = (zS μ ν a Ad, [])))) args s 0 0 (Aof (zS μ ν a Ad) [] s.heap.size)) (zS μ ν a Ad) [] 0 0 0 [(0, .ref (Ad 0 0)), (1, .int x1)] [] := by
  unfold f_X8_byRank at h
  refine g_iload_n C dX8_byRank_0 rfl 1 rfl ?_
  refine g_if_eq (tgt := 11) C dX8_byRank_1 (by decide) (fun c1 => ?_) (fun c1 => ?_)
  · replace h := (if_pos c1).symm.trans h
    refine g_aload_n C dX8_byRank_11 rfl 0 rfl ?_
    obtain ⟨g1, h⟩ := of_guard h
    refine g_get (k := 0) (i := 0) (ref := "TradeLine") (v := .ref (Ad 4 3)) C rfl (lvZ g1 rfl) rfl rfl inGX8 3 (by decide) gw_173 (fun _ h => h) rfl dX8_byRank_12 ?_
    obtain rfl := Option.some.inj h
    exact g_aret C hr (Or.inl ⟨_, rfl⟩) (Or.inr ⟨_, rfl⟩) hz ⟨rfl, rfl, fun _ => rfl, fun _ => rfl⟩ ⟨rfl, rfl⟩ (fun j x h => by simp at h) dX8_byRank_15
  · replace h := (if_neg c1).symm.trans h
    refine g_aload_n C dX8_byRank_4 rfl 0 rfl ?_
    obtain ⟨g2, h⟩ := of_guard h
    refine g_get (k := 0) (i := 0) (ref := "TradeLine") (v := .ref (Ad 4 4)) C rfl (lvZ g2 rfl) rfl rfl inGX8 4 (by decide) gw_174 (fun _ h => h) rfl dX8_byRank_5 ?_
    refine g_goto (tgt := 15) C dX8_byRank_8 (by decide) ?_
    obtain rfl := Option.some.inj h
    exact g_aret C hr (Or.inl ⟨_, rfl⟩) (Or.inr ⟨_, rfl⟩) hz ⟨rfl, rfl, fun _ => rfl, fun _ => rfl⟩ ⟨rfl, rfl⟩ (fun j x h => by simp at h) dX8_byRank_15
theorem c_X8_byRank (l : Launch) (μ : MP) (ν : NC) (a : AS) (Ad : Nat → Nat → Nat) (w : Nat) (x1 : Int32) (r0 : Nat) (h : f_X8_byRank w μ ν x1 = some r0) : ∀ D E sz, Met l yX8_byRank gwX8_byRank ({ frames := 0, cells := 0, slots := 0, locals := 0 } : Room) (cP D E sz (zS μ ν a Ad) [] [.ref (Ad 0 0), .int x1]) (cQ D E sz (zS μ ν a Ad) [] (pQ (fun r u => r = nv (Ad 4) r0 ∧ u = (zS μ ν a Ad, [])))) (0) (0) (Aof (zS μ ν a Ad) [] sz) := by
  intro D E sz
  refine g_of (cc := cX8_byRank) (maxL := 2) (ret := (some (.object "java/util/ArrayList"))) (own := "TradeLine") (by decide) rfl rfl (Nat.le_of_ble_eq_true rfl) ?_
  intro p e s m args below meth c C hr hin hz ha hwr
  refine g_lv (lv' := [(0, .ref (Ad 0 0)), (1, .int x1)]) [0, 1] rfl ?_
  exact lb_X8_byRank_0 C hr hz h
noncomputable def b_X8_hasExecutedAt_46 (k2 : Nat → Int32 → Int32 → Option (Int32)) (w : Nat) (μ : MP) (ν : NC) (p1 : Nat) (x2 : Int32) (x3 : Int32) : Option (Int32) := yl (x3 + (1 : Int32)) (fun t9 => k2 p1 x2 t9)
set_option maxHeartbeats 4000000 in
set_option maxRecDepth 100000 in
theorem lb_X8_hasExecutedAt_46 {p : Program} {l : Launch} {e : Env} {s : State} {m : MethodId} {args : Array Value} {below : List Frame} {meth : Method} {c : Code} {D : va_G} {E : Nat → ClassId} {sz : Nat} {μ : MP} {ν : NC} {a : AS} {Ad : Nat → Nat → Nat} {w : Nat} {r0 : Int32} (C : cx p s m args meth c D E (Aof (zS μ ν a Ad) [] s.heap.size) cX8_hasExecutedAt 5 "TradeLine") (hr : meth.sig.returnType = (some .boolean)) (hz : s.heap.size = sz) {p1 : Nat} {x2 : Int32} {x3 : Int32} {k2 : Nat → Int32 → Int32 → Option (Int32)} (hk2 : ∀ (z1 : Nat) (z2 : Int32) (z3 : Int32), k2 z1 z2 z3 = some r0 → G p l e ({ frames := 3, cells := 0, slots := 0, locals := 81 } : Room) s m args below meth c D E (Aof (zS μ ν a Ad) [] s.heap.size) 5 (MQ below (cQ D E sz (zS μ ν a Ad) [] (pI (fun r u => r = r0 ∧ u = (zS μ ν a Ad, [])))) args s 0 0 (Aof (zS μ ν a Ad) [] s.heap.size)) (zS μ ν a Ad) [] 0 0 2 [(0, .ref (Ad 0 0)), (1, nv (Ad 20) z1), (2, .int z2), (3, .int z3)] []) (h : b_X8_hasExecutedAt_46 k2 w μ ν p1 x2 x3 = some r0) : G p l e ({ frames := 3, cells := 0, slots := 0, locals := 81 } : Room) s m args below meth c D E (Aof (zS μ ν a Ad) [] s.heap.size) 5 (MQ below (cQ D E sz (zS μ ν a Ad) [] (pI (fun r u => r = r0 ∧ u = (zS μ ν a Ad, [])))) args s 0 0 (Aof (zS μ ν a Ad) [] s.heap.size)) (zS μ ν a Ad) [] 0 0 46 [(0, .ref (Ad 0 0)), (1, nv (Ad 20) p1), (2, .int x2), (3, .int x3)] [] := by
  unfold b_X8_hasExecutedAt_46 at h
  obtain ⟨t9, et9⟩ : ∃ y : Int32, x3 + (1 : Int32) = y := ⟨_, rfl⟩
  replace h := yl_of h et9
  refine g_iinc (v := t9) (lv' := [(3, .int t9), (0, .ref (Ad 0 0)), (1, nv (Ad 20) p1), (2, .int x2)]) C dX8_hasExecutedAt_46 3 rfl (by rw [← et9]; rfl) (by decide) (by simp [nv_cat, cat_i, cat_r, cat_n]) ?_
  refine g_goto (tgt := 2) C dX8_hasExecutedAt_49 (by decide) ?_
  refine g_lv [1, 2, 3, 0] rfl ?_
  exact hk2 _ _ _ h
noncomputable def b_X8_hasExecutedAt_2 (k2 : Nat → Int32 → Int32 → Option (Int32)) (w : Nat) (μ : MP) (ν : NC) (p1 : Nat) (x2 : Int32) (x3 : Int32) : Option (Int32) := bif ltB 0 (ν.2 0) then bif ltB 5 (ν.2 4) then (if (μ.1 4 5 2) ≤ x3 then (some (0 : Int32)) else ((ls_get μ ν 5 x3).bind (fun v3 => bif eqB (eK 5 5) 23 then bif ltB v3 (ν.2 23) then bif nzB p1 then bif ltB (p1 - 1) (ν.2 20) then bif ltB (μ.2 23 v3 0) (ν.2 20) then (if (μ.2 23 v3 0) = (p1 - 1) then ((if (μ.1 23 v3 1) = x2 then (some (1 : Int32)) else (b_X8_hasExecutedAt_46 k2 w μ ν ((p1 - 1) + 1) x2 x3))) else (b_X8_hasExecutedAt_46 k2 w μ ν ((p1 - 1) + 1) x2 x3)) else none else none else none else none else none))) else none else none
set_option maxHeartbeats 4000000 in
set_option maxRecDepth 100000 in
theorem lb_X8_hasExecutedAt_2 {p : Program} {l : Launch} {e : Env} {s : State} {m : MethodId} {args : Array Value} {below : List Frame} {meth : Method} {c : Code} {D : va_G} {E : Nat → ClassId} {sz : Nat} {μ : MP} {ν : NC} {a : AS} {Ad : Nat → Nat → Nat} {w : Nat} {r0 : Int32} (C : cx p s m args meth c D E (Aof (zS μ ν a Ad) [] s.heap.size) cX8_hasExecutedAt 5 "TradeLine") (hr : meth.sig.returnType = (some .boolean)) (hz : s.heap.size = sz) {p1 : Nat} {x2 : Int32} {x3 : Int32} {k2 : Nat → Int32 → Int32 → Option (Int32)} (hk2 : ∀ (z1 : Nat) (z2 : Int32) (z3 : Int32), k2 z1 z2 z3 = some r0 → G p l e ({ frames := 3, cells := 0, slots := 0, locals := 81 } : Room) s m args below meth c D E (Aof (zS μ ν a Ad) [] s.heap.size) 5 (MQ below (cQ D E sz (zS μ ν a Ad) [] (pI (fun r u => r = r0 ∧ u = (zS μ ν a Ad, [])))) args s 0 0 (Aof (zS μ ν a Ad) [] s.heap.size)) (zS μ ν a Ad) [] 0 0 2 [(0, .ref (Ad 0 0)), (1, nv (Ad 20) z1), (2, .int z2), (3, .int z3)] []) (h : b_X8_hasExecutedAt_2 k2 w μ ν p1 x2 x3 = some r0) : G p l e ({ frames := 3, cells := 0, slots := 0, locals := 81 } : Room) s m args below meth c D E (Aof (zS μ ν a Ad) [] s.heap.size) 5 (MQ below (cQ D E sz (zS μ ν a Ad) [] (pI (fun r u => r = r0 ∧ u = (zS μ ν a Ad, [])))) args s 0 0 (Aof (zS μ ν a Ad) [] s.heap.size)) (zS μ ν a Ad) [] 0 0 2 [(0, .ref (Ad 0 0)), (1, nv (Ad 20) p1), (2, .int x2), (3, .int x3)] [] := by
  unfold b_X8_hasExecutedAt_2 at h
  refine g_iload_n C dX8_hasExecutedAt_2 rfl 3 rfl ?_
  refine g_aload_n C dX8_hasExecutedAt_3 rfl 0 rfl ?_
  obtain ⟨g1, h⟩ := of_guard h
  refine g_get (k := 0) (i := 0) (ref := "TradeLine") (v := .ref (Ad 4 5)) C rfl (lvZ g1 rfl) rfl rfl inGX8 5 (by decide) gw_175 (fun _ h => h) rfl dX8_hasExecutedAt_4 ?_
  obtain ⟨g2, h⟩ := of_guard h
  refine g_cVi (n := 0) (exc := []) (exr := []) C [] _ rfl rfl [] [] rfl rfl rfl rfl (fun _ h => absurd h (by simp)) (fun _ h => absurd h (by simp)) (fun _ h => absurd h (by simp)) (fun sz => c_Jx4a65c_size_8abf5 l μ ν a Ad _ g2 D E sz) rfl gw_308 gw_5 gw_305 gw_306 gw_307 ⟨by decide +kernel, by decide +kernel, by decide +kernel⟩ ⟨rfl, rfl⟩ ⟨Nat.le_of_ble_eq_true rfl, Nat.le_of_ble_eq_true rfl⟩ (rcvT (lvZ g2 rfl) rfl rfl rfl) (Nat.le_of_ble_eq_true rfl) dX8_hasExecutedAt_7 ⟨by decide, by decide⟩ (fun r u hp hx => ?_)
  obtain ⟨er, rfl⟩ := hp
  rw [er]
  try dsimp only [List.append_nil]
  refine g_icmp_ge (tgt := 52) C dX8_hasExecutedAt_10 (by decide) (fun c10 => ?_) (fun c10 => ?_)
  · replace h := (if_pos c10).symm.trans h
    refine g_iconst (v := (0 : Int32)) C dX8_hasExecutedAt_52 (by decide) ?_
    exact g_iret C hr rfl hz ⟨rfl, rfl, fun _ => rfl, fun _ => rfl⟩ ⟨Option.some.inj h, rfl⟩ (fun j x h => by simp at h) dX8_hasExecutedAt_53
  · replace h := (if_neg c10).symm.trans h
    refine g_aload_n C dX8_hasExecutedAt_13 rfl 0 rfl ?_
    refine g_get (k := 0) (i := 0) (ref := "TradeLine") (v := .ref (Ad 4 5)) C rfl (lvZ g1 rfl) rfl rfl inGX8 5 (by decide) gw_175 (fun _ h => h) rfl dX8_hasExecutedAt_14 ?_
    refine g_iload_n C dX8_hasExecutedAt_17 rfl 3 rfl ?_
    obtain ⟨v3, hv3, h⟩ := bind_of h
    refine g_cVq (n := 1) (exc := []) (exr := []) C [_] _ rfl rfl [] [] rfl rfl rfl rfl (fun _ h => absurd h (by simp)) (fun _ h => absurd h (by simp)) (fun _ h => absurd h (by simp)) (fun sz => c_Jx4a65c_get_915e3 l μ ν a Ad _ _ _ hv3 D E sz) rfl gw_543 gw_5 gw_576 gw_541 gw_542 ⟨by decide +kernel, by decide +kernel, by decide +kernel⟩ ⟨rfl, rfl⟩ ⟨Nat.le_of_ble_eq_true rfl, Nat.le_of_ble_eq_true rfl⟩ (rcvT (lvZ g2 rfl) rfl rfl rfl) (Nat.le_of_ble_eq_true rfl) dX8_hasExecutedAt_18 ⟨by decide, by decide⟩ (fun r u hp hx => ?_)
    obtain ⟨er, rfl⟩ := hp
    rw [er]
    try dsimp only [List.append_nil]
    obtain ⟨g4, h⟩ := of_guard h
    rw [eqB_e g4]
    obtain ⟨g5, h⟩ := of_guard h
    refine z_cast (k := 23) (i := v3) C (lvZ g5 rfl) rfl rfl gw_893 dX8_hasExecutedAt_21 ?_
    refine z_astore (lv' := [(4, .ref (Ad 23 v3)), (0, .ref (Ad 0 0)), (1, nv (Ad 20) p1), (2, .int x2), (3, .int x3)]) C dX8_hasExecutedAt_24 (Or.inr ⟨_, rfl⟩) (by decide) (by simp [nv_cat, cat_i, cat_r, cat_n]) ?_
    refine g_aload C dX8_hasExecutedAt_26 0 rfl ?_
    refine g_get (k := 23) (i := v3) (ref := "TradeLine$Execution") (v := .ref (Ad 20 (μ.2 23 v3 0))) C rfl (lvZ g5 rfl) rfl rfl inGX2 0 (by decide) gw_900 (fun _ h => h) rfl dX8_hasExecutedAt_28 ?_
    refine z_aload_n C dX8_hasExecutedAt_31 rfl 2 rfl (nv_or _ _) ?_
    obtain ⟨g6, h⟩ := of_guard h
    rw [nzB_e g6]
    obtain ⟨g7, h⟩ := of_guard h
    obtain ⟨g8, h⟩ := of_guard h
    refine z_acmp_ne (k := 20) (i := (μ.2 23 v3 0)) (j := (p1 - 1)) (tgt := 46) C (lvZ g8 rfl) (lvZ g7 rfl) dX8_hasExecutedAt_32 (by decide) (fun c32 => ?_) (fun c32 => ?_)
    · replace h := (if_neg c32).symm.trans h
      refine g_lv [1, 2, 3, 4] rfl ?_
      exact lb_X8_hasExecutedAt_46 C hr hz hk2 h
    · replace h := (if_pos c32).symm.trans h
      refine g_aload C dX8_hasExecutedAt_35 0 rfl ?_
      refine g_get (k := 23) (i := v3) (ref := "TradeLine$Execution") (v := .int (μ.1 23 v3 1)) C rfl (lvZ g5 rfl) rfl rfl inGX2 1 (by decide) gw_902 (fun _ h => h) rfl dX8_hasExecutedAt_37 ?_
      refine g_iload_n C dX8_hasExecutedAt_40 rfl 3 rfl ?_
      refine g_icmp_ne (tgt := 46) C dX8_hasExecutedAt_41 (by decide) (fun c41 => ?_) (fun c41 => ?_)
      · replace h := (if_neg c41).symm.trans h
        refine g_lv [1, 2, 3, 4] rfl ?_
        exact lb_X8_hasExecutedAt_46 C hr hz hk2 h
      · replace h := (if_pos c41).symm.trans h
        refine g_iconst (v := (1 : Int32)) C dX8_hasExecutedAt_44 (by decide) ?_
        exact g_iret C hr rfl hz ⟨rfl, rfl, fun _ => rfl, fun _ => rfl⟩ ⟨Option.some.inj h, rfl⟩ (fun j x h => by simp at h) dX8_hasExecutedAt_45
noncomputable def l_X8_hasExecutedAt_2  (w : Nat) (μ : MP) (ν : NC) : Nat → Nat → Int32 → Int32 → Option (Int32)
  | 0 => fun _ _ _ => none
  | n + 1 => fun p1 x2 x3 => b_X8_hasExecutedAt_2  (l_X8_hasExecutedAt_2  w μ ν n) w μ ν p1 x2 x3
theorem ll_X8_hasExecutedAt_2 {p : Program} {l : Launch} {e : Env} {s : State} {m : MethodId} {args : Array Value} {below : List Frame} {meth : Method} {c : Code} {D : va_G} {E : Nat → ClassId} {sz : Nat} {μ : MP} {ν : NC} {a : AS} {Ad : Nat → Nat → Nat} {w : Nat} {r0 : Int32} (C : cx p s m args meth c D E (Aof (zS μ ν a Ad) [] s.heap.size) cX8_hasExecutedAt 5 "TradeLine") (hr : meth.sig.returnType = (some .boolean)) (hz : s.heap.size = sz)   : ∀ (n : Nat) (p1 : Nat) (x2 : Int32) (x3 : Int32), l_X8_hasExecutedAt_2  w μ ν n p1 x2 x3 = some r0 → G p l e ({ frames := 3, cells := 0, slots := 0, locals := 81 } : Room) s m args below meth c D E (Aof (zS μ ν a Ad) [] s.heap.size) 5 (MQ below (cQ D E sz (zS μ ν a Ad) [] (pI (fun r u => r = r0 ∧ u = (zS μ ν a Ad, [])))) args s 0 0 (Aof (zS μ ν a Ad) [] s.heap.size)) (zS μ ν a Ad) [] 0 0 2 [(0, .ref (Ad 0 0)), (1, nv (Ad 20) p1), (2, .int x2), (3, .int x3)] [] := by
  intro n
  induction n with
  | zero => exact fun p1 x2 x3 h => absurd (show (none : Option (Int32)) = some r0 from h) (by simp)
  | succ n ih => exact fun p1 x2 x3 h => lb_X8_hasExecutedAt_2 (w := w) C hr hz  ih h
noncomputable def f_X8_hasExecutedAt  (w : Nat) (μ : MP) (ν : NC) (p1 : Nat) (x2 : Int32) : Option (Int32) := l_X8_hasExecutedAt_2  w μ ν w p1 x2 (0 : Int32)
set_option maxHeartbeats 4000000 in
set_option maxRecDepth 100000 in
theorem lb_X8_hasExecutedAt_0 {p : Program} {l : Launch} {e : Env} {s : State} {m : MethodId} {args : Array Value} {below : List Frame} {meth : Method} {c : Code} {D : va_G} {E : Nat → ClassId} {sz : Nat} {μ : MP} {ν : NC} {a : AS} {Ad : Nat → Nat → Nat} {w : Nat} {r0 : Int32} (C : cx p s m args meth c D E (Aof (zS μ ν a Ad) [] s.heap.size) cX8_hasExecutedAt 5 "TradeLine") (hr : meth.sig.returnType = (some .boolean)) (hz : s.heap.size = sz) {p1 : Nat} {x2 : Int32}   (h : f_X8_hasExecutedAt  w μ ν p1 x2 = some r0) : G p l e ({ frames := 3, cells := 0, slots := 0, locals := 81 } : Room) s m args below meth c D E (Aof (zS μ ν a Ad) [] s.heap.size) 5 (MQ below (cQ D E sz (zS μ ν a Ad) [] (pI (fun r u => r = r0 ∧ u = (zS μ ν a Ad, [])))) args s 0 0 (Aof (zS μ ν a Ad) [] s.heap.size)) (zS μ ν a Ad) [] 0 0 0 [(0, .ref (Ad 0 0)), (1, nv (Ad 20) p1), (2, .int x2)] [] := by
  unfold f_X8_hasExecutedAt at h
  refine g_iconst (v := (0 : Int32)) C dX8_hasExecutedAt_0 (by decide) ?_
  refine g_istore_n (i := 3) (lv' := [(3, .int (0 : Int32)), (0, .ref (Ad 0 0)), (1, nv (Ad 20) p1), (2, .int x2)]) C dX8_hasExecutedAt_1 rfl (by decide) (by simp [nv_cat, cat_i, cat_r, cat_n]) ?_
  refine g_lv [1, 2, 3, 0] rfl ?_
  exact ll_X8_hasExecutedAt_2 C hr hz  w _ _ _ h
theorem c_X8_hasExecutedAt (l : Launch) (μ : MP) (ν : NC) (a : AS) (Ad : Nat → Nat → Nat) (w : Nat) (p1 : Nat) (x2 : Int32) (r0 : Int32) (h : f_X8_hasExecutedAt w μ ν p1 x2 = some r0) : ∀ D E sz, Met l yX8_hasExecutedAt gwX8_hasExecutedAt ({ frames := 3, cells := 0, slots := 0, locals := 81 } : Room) (cP D E sz (zS μ ν a Ad) [] [.ref (Ad 0 0), nv (Ad 20) p1, .int x2]) (cQ D E sz (zS μ ν a Ad) [] (pI (fun r u => r = r0 ∧ u = (zS μ ν a Ad, [])))) (0) (0) (Aof (zS μ ν a Ad) [] sz) := by
  intro D E sz
  refine g_of (cc := cX8_hasExecutedAt) (maxL := 5) (ret := (some .boolean)) (own := "TradeLine") (by decide) rfl rfl (by cases p1 <;> exact Nat.le_of_ble_eq_true rfl) ?_
  intro p e s m args below meth c C hr hin hz ha hwr
  refine g_lv (lv' := [(0, .ref (Ad 0 0)), (1, nv (Ad 20) p1), (2, .int x2)]) [0, 1, 2] (by cases p1 <;> rfl) ?_
  exact lb_X8_hasExecutedAt_0 C hr hz h
noncomputable def f_X8_mayGoAgain  (w : Nat) (μ : MP) (ν : NC) (p1 : Nat) : Option (Int32) := bif nzB p1 then bif ltB (p1 - 1) (ν.2 6) then (if (μ.1 6 (p1 - 1) 0) = (5 : Int32) then ((if (μ.1 6 (p1 - 1) 3) = (0 : Int32) then (bif ltB 0 (ν.2 0) then (if (20 : Int32) < ((μ.1 0 0 9) - (μ.1 6 (p1 - 1) 1)) then (some (0 : Int32)) else (some (1 : Int32))) else none) else (some (1 : Int32)))) else ((if (μ.1 6 (p1 - 1) 0) ≤ (5 : Int32) then (some (0 : Int32)) else (some (1 : Int32))))) else none else none
set_option maxHeartbeats 4000000 in
set_option maxRecDepth 100000 in
theorem lb_X8_mayGoAgain_0 {p : Program} {l : Launch} {e : Env} {s : State} {m : MethodId} {args : Array Value} {below : List Frame} {meth : Method} {c : Code} {D : va_G} {E : Nat → ClassId} {sz : Nat} {μ : MP} {ν : NC} {a : AS} {Ad : Nat → Nat → Nat} {w : Nat} {r0 : Int32} (C : cx p s m args meth c D E (Aof (zS μ ν a Ad) [] s.heap.size) cX8_mayGoAgain 2 "TradeLine") (hr : meth.sig.returnType = (some .boolean)) (hz : s.heap.size = sz) {p1 : Nat}   (h : f_X8_mayGoAgain  w μ ν p1 = some r0) : G p l e ({ frames := 0, cells := 0, slots := 0, locals := 0 } : Room) s m args below meth c D E (Aof (zS μ ν a Ad) [] s.heap.size) 2 (MQ below (cQ D E sz (zS μ ν a Ad) [] (pI (fun r u => r = r0 ∧ u = (zS μ ν a Ad, [])))) args s 0 0 (Aof (zS μ ν a Ad) [] s.heap.size)) (zS μ ν a Ad) [] 0 0 0 [(0, .ref (Ad 0 0)), (1, nv (Ad 6) p1)] [] := by
  unfold f_X8_mayGoAgain at h
  refine z_aload_n C dX8_mayGoAgain_0 rfl 1 rfl (nv_or _ _) ?_
  obtain ⟨g1, h⟩ := of_guard h
  rw [nzB_e g1]
  obtain ⟨g2, h⟩ := of_guard h
  refine g_get (k := 6) (i := (p1 - 1)) (ref := "TradeLine$Message") (v := .int (μ.1 6 (p1 - 1) 0)) C rfl (lvZ g2 rfl) rfl rfl inGX3 0 (by decide) gw_337 (fun _ h => h) rfl dX8_mayGoAgain_1 ?_
  refine g_iconst (v := (5 : Int32)) C dX8_mayGoAgain_4 (by decide) ?_
  refine g_icmp_ne (tgt := 35) C dX8_mayGoAgain_5 (by decide) (fun c5 => ?_) (fun c5 => ?_)
  · replace h := (if_neg c5).symm.trans h
    refine g_aload_n C dX8_mayGoAgain_35 rfl 1 rfl ?_
    refine g_get (k := 6) (i := (p1 - 1)) (ref := "TradeLine$Message") (v := .int (μ.1 6 (p1 - 1) 0)) C rfl (lvZ g2 rfl) rfl rfl inGX3 0 (by decide) gw_337 (fun _ h => h) rfl dX8_mayGoAgain_36 ?_
    refine g_iconst (v := (5 : Int32)) C dX8_mayGoAgain_39 (by decide) ?_
    refine g_icmp_le (tgt := 47) C dX8_mayGoAgain_40 (by decide) (fun c40 => ?_) (fun c40 => ?_)
    · replace h := (if_pos c40).symm.trans h
      refine g_iconst (v := (0 : Int32)) C dX8_mayGoAgain_47 (by decide) ?_
      exact g_iret C hr rfl hz ⟨rfl, rfl, fun _ => rfl, fun _ => rfl⟩ ⟨Option.some.inj h, rfl⟩ (fun j x h => by simp at h) dX8_mayGoAgain_48
    · replace h := (if_neg c40).symm.trans h
      refine g_iconst (v := (1 : Int32)) C dX8_mayGoAgain_43 (by decide) ?_
      refine g_goto (tgt := 48) C dX8_mayGoAgain_44 (by decide) ?_
      exact g_iret C hr rfl hz ⟨rfl, rfl, fun _ => rfl, fun _ => rfl⟩ ⟨Option.some.inj h, rfl⟩ (fun j x h => by simp at h) dX8_mayGoAgain_48
  · replace h := (if_pos c5).symm.trans h
    refine g_aload_n C dX8_mayGoAgain_8 rfl 1 rfl ?_
    refine g_get (k := 6) (i := (p1 - 1)) (ref := "TradeLine$Message") (v := .int (μ.1 6 (p1 - 1) 3)) C rfl (lvZ g2 rfl) rfl rfl inGX3 3 (by decide) gw_341 (fun _ h => h) rfl dX8_mayGoAgain_9 ?_
    refine g_if_ne (tgt := 29) C dX8_mayGoAgain_12 (by decide) (fun c12 => ?_) (fun c12 => ?_)
    · replace h := (if_neg c12).symm.trans h
      refine g_iconst (v := (1 : Int32)) C dX8_mayGoAgain_29 (by decide) ?_
      refine g_goto (tgt := 34) C dX8_mayGoAgain_30 (by decide) ?_
      exact g_iret C hr rfl hz ⟨rfl, rfl, fun _ => rfl, fun _ => rfl⟩ ⟨Option.some.inj h, rfl⟩ (fun j x h => by simp at h) dX8_mayGoAgain_34
    · replace h := (if_pos c12).symm.trans h
      refine g_aload_n C dX8_mayGoAgain_15 rfl 0 rfl ?_
      obtain ⟨g3, h⟩ := of_guard h
      refine g_get (k := 0) (i := 0) (ref := "TradeLine") (v := .int (μ.1 0 0 9)) C rfl (lvZ g3 rfl) rfl rfl inGX8 9 (by decide) gw_179 (fun _ h => h) rfl dX8_mayGoAgain_16 ?_
      refine g_aload_n C dX8_mayGoAgain_19 rfl 1 rfl ?_
      refine g_get (k := 6) (i := (p1 - 1)) (ref := "TradeLine$Message") (v := .int (μ.1 6 (p1 - 1) 1)) C rfl (lvZ g2 rfl) rfl rfl inGX3 1 (by decide) gw_339 (fun _ h => h) rfl dX8_mayGoAgain_20 ?_
      refine g_isub C dX8_mayGoAgain_23 ?_
      refine g_bipush (v := (20 : Int32)) C dX8_mayGoAgain_24 (by decide) ?_
      refine g_icmp_gt (tgt := 33) C dX8_mayGoAgain_26 (by decide) (fun c26 => ?_) (fun c26 => ?_)
      · replace h := (if_pos c26).symm.trans h
        refine g_iconst (v := (0 : Int32)) C dX8_mayGoAgain_33 (by decide) ?_
        exact g_iret C hr rfl hz ⟨rfl, rfl, fun _ => rfl, fun _ => rfl⟩ ⟨Option.some.inj h, rfl⟩ (fun j x h => by simp at h) dX8_mayGoAgain_34
      · replace h := (if_neg c26).symm.trans h
        refine g_iconst (v := (1 : Int32)) C dX8_mayGoAgain_29 (by decide) ?_
        refine g_goto (tgt := 34) C dX8_mayGoAgain_30 (by decide) ?_
        exact g_iret C hr rfl hz ⟨rfl, rfl, fun _ => rfl, fun _ => rfl⟩ ⟨Option.some.inj h, rfl⟩ (fun j x h => by simp at h) dX8_mayGoAgain_34
theorem c_X8_mayGoAgain (l : Launch) (μ : MP) (ν : NC) (a : AS) (Ad : Nat → Nat → Nat) (w : Nat) (p1 : Nat) (r0 : Int32) (h : f_X8_mayGoAgain w μ ν p1 = some r0) : ∀ D E sz, Met l yX8_mayGoAgain gwX8_mayGoAgain ({ frames := 0, cells := 0, slots := 0, locals := 0 } : Room) (cP D E sz (zS μ ν a Ad) [] [.ref (Ad 0 0), nv (Ad 6) p1]) (cQ D E sz (zS μ ν a Ad) [] (pI (fun r u => r = r0 ∧ u = (zS μ ν a Ad, [])))) (0) (0) (Aof (zS μ ν a Ad) [] sz) := by
  intro D E sz
  refine g_of (cc := cX8_mayGoAgain) (maxL := 2) (ret := (some .boolean)) (own := "TradeLine") (by decide) rfl rfl (by cases p1 <;> exact Nat.le_of_ble_eq_true rfl) ?_
  intro p e s m args below meth c C hr hin hz ha hwr
  refine g_lv (lv' := [(0, .ref (Ad 0 0)), (1, nv (Ad 6) p1)]) [0, 1] (by cases p1 <;> rfl) ?_
  exact lb_X8_mayGoAgain_0 C hr hz h
noncomputable def f_X8_leaveOutOrderOf  (w : Nat) (μ : MP) (ν : NC) (p1 : Nat) : Option (MP × Int32) := (if p1 = 0 then (some (μ, (0 : Int32))) else (bif ltB (p1 - 1) (ν.2 6) then (if (μ.1 6 (p1 - 1) 0) = (5 : Int32) then ((f_X3_valueOf w μ ν (p1 - 1) (11 : Int32)).bind (fun v2 => bif ltB 0 (ν.2 0) then (f_X8_findOrder w μ ν v2).bind (fun v4 => (if v4 = 0 then (some (μ, (0 : Int32))) else (bif ltB (v4 - 1) (ν.2 20) then yl (uM μ 20 (v4 - 1) 5 (1 : Int32)) (fun m6 => some (m6, (0 : Int32))) else none))) else none)) else (some (μ, (0 : Int32)))) else none))
set_option maxHeartbeats 4000000 in
set_option maxRecDepth 100000 in
theorem lb_X8_leaveOutOrderOf_0 {p : Program} {l : Launch} {e : Env} {s : State} {m : MethodId} {args : Array Value} {below : List Frame} {meth : Method} {c : Code} {D : va_G} {E : Nat → ClassId} {sz : Nat} {μ0 : MP} {ν : NC} {a : AS} {Ad : Nat → Nat → Nat} {w : Nat} {r0 : MP × Int32} (C : cx p s m args meth c D E (Aof (zS μ0 ν a Ad) [] s.heap.size) cX8_leaveOutOrderOf 3 "TradeLine") (hr : meth.sig.returnType = none) (hz : s.heap.size = sz) {μ : MP} {p1 : Nat}   (h : f_X8_leaveOutOrderOf  w μ ν p1 = some r0) : G p l e ({ frames := 4, cells := 0, slots := 0, locals := 102 } : Room) s m args below meth c D E (Aof (zS μ0 ν a Ad) [] s.heap.size) 3 (MQ below (cQ D E sz (zS μ0 ν a Ad) [] (pV (fun u => u = (zS r0.1 ν a Ad, [])))) args s 0 0 (Aof (zS μ0 ν a Ad) [] s.heap.size)) (zS μ ν a Ad) [] 0 0 0 [(0, .ref (Ad 0 0)), (1, nv (Ad 6) p1)] [] := by
  unfold f_X8_leaveOutOrderOf at h
  refine z_aload_n C dX8_leaveOutOrderOf_0 rfl 1 rfl (nv_or _ _) ?_
  by_cases c1 : p1 = 0
  · replace h := (if_pos c1).symm.trans h
    rw [nv_z c1]
    refine z_ifnullN (tgt := 12) C dX8_leaveOutOrderOf_1 (by decide) ?_
    obtain rfl := Option.some.inj h
    exact g_vret C hr hz ⟨rfl, rfl, fun _ => rfl, fun _ => rfl⟩ rfl (fun j x h => by simp at h) dX8_leaveOutOrderOf_12
  · replace h := (if_neg c1).symm.trans h
    rw [nv_n c1]
    refine z_ifnull C dX8_leaveOutOrderOf_1 ?_
    refine g_aload_n C dX8_leaveOutOrderOf_4 rfl 1 rfl ?_
    obtain ⟨g1, h⟩ := of_guard h
    refine g_get (k := 6) (i := (p1 - 1)) (ref := "TradeLine$Message") (v := .int (μ.1 6 (p1 - 1) 0)) C rfl (lvZ g1 rfl) rfl rfl inGX3 0 (by decide) gw_337 (fun _ h => h) rfl dX8_leaveOutOrderOf_5 ?_
    refine g_iconst (v := (5 : Int32)) C dX8_leaveOutOrderOf_8 (by decide) ?_
    refine g_icmp_eq (tgt := 13) C dX8_leaveOutOrderOf_9 (by decide) (fun c9 => ?_) (fun c9 => ?_)
    · replace h := (if_pos c9).symm.trans h
      refine g_aload_n C dX8_leaveOutOrderOf_13 rfl 0 rfl ?_
      refine g_aload_n C dX8_leaveOutOrderOf_14 rfl 1 rfl ?_
      refine g_bipush (v := (11 : Int32)) C dX8_leaveOutOrderOf_15 (by decide) ?_
      obtain ⟨v2, hv2, h⟩ := bind_of h
      refine g_cVi (n := 1) (exc := []) (exr := []) C [_] _ rfl rfl [] [] rfl rfl rfl rfl (fun _ h => absurd h (by simp)) (fun _ h => absurd h (by simp)) (fun _ h => absurd h (by simp)) (fun sz => c_X3_valueOf l μ ν a Ad w (p1 - 1) (11 : Int32) _ hv2 D E sz) rfl gw_558 gw_18 gw_555 gw_556 gw_557 ⟨by decide +kernel, by decide +kernel, by decide +kernel⟩ ⟨rfl, rfl⟩ ⟨Nat.le_of_ble_eq_true rfl, Nat.le_of_ble_eq_true rfl⟩ (rcvT (lvZ g1 rfl) rfl rfl rfl) (Nat.le_of_ble_eq_true rfl) dX8_leaveOutOrderOf_17 ⟨by decide, by decide⟩ (fun r u hp hx => ?_)
      obtain ⟨er, rfl⟩ := hp
      rw [er]
      try dsimp only [List.append_nil]
      obtain ⟨g3, h⟩ := of_guard h
      obtain ⟨v4, hv4, h⟩ := bind_of h
      refine g_cVq (n := 1) (exc := []) (exr := []) C [_] _ rfl rfl [] [] rfl rfl rfl rfl (fun _ h => absurd h (by simp)) (fun _ h => absurd h (by simp)) (fun _ h => absurd h (by simp)) (fun sz => c_X8_findOrder l μ ν a Ad w v2 _ hv4 D E sz) rfl gw_575 gw_1 gw_572 gw_574 gs_13 ⟨by decide +kernel, by decide +kernel, by decide +kernel⟩ ⟨rfl, rfl⟩ ⟨Nat.le_of_ble_eq_true rfl, Nat.le_of_ble_eq_true rfl⟩ (rcvT (lvZ g3 rfl) rfl rfl rfl) (Nat.le_of_ble_eq_true rfl) dX8_leaveOutOrderOf_20 ⟨by decide, by decide⟩ (fun r u hp hx => ?_)
      obtain ⟨er, rfl⟩ := hp
      rw [er]
      try dsimp only [List.append_nil]
      refine z_astore_n (i := 2) (lv' := [(2, nv (Ad 20) v4), (0, .ref (Ad 0 0)), (1, .ref (Ad 6 (p1 - 1)))]) C dX8_leaveOutOrderOf_23 (nv_or _ _) rfl (by decide) (by simp [nv_cat, cat_i, cat_r, cat_n]) ?_
      refine z_aload_n C dX8_leaveOutOrderOf_24 rfl 0 rfl (nv_or _ _) ?_
      by_cases c25 : v4 = 0
      · replace h := (if_pos c25).symm.trans h
        rw [nv_z c25]
        refine z_ifnullN (tgt := 33) C dX8_leaveOutOrderOf_25 (by decide) ?_
        obtain rfl := Option.some.inj h
        exact g_vret C hr hz ⟨rfl, rfl, fun _ => rfl, fun _ => rfl⟩ rfl (fun j x h => by simp at h) dX8_leaveOutOrderOf_33
      · replace h := (if_neg c25).symm.trans h
        rw [nv_n c25]
        refine z_ifnull C dX8_leaveOutOrderOf_25 ?_
        refine g_aload_n C dX8_leaveOutOrderOf_28 rfl 0 rfl ?_
        refine g_iconst (v := (1 : Int32)) C dX8_leaveOutOrderOf_29 (by decide) ?_
        obtain ⟨g5, h⟩ := of_guard h
        refine z_put (k := 20) (i := (v4 - 1)) (ref := "TradeLine$Order") C rfl g5 rfl rfl rfl inGX4 tyX4 tyX4_ok nmX4 5 (by decide) gw_1119 (fun _ h => h) rfl (tyX4_ok 5 (by decide)) rfl rfl (by simp [fvs]) (by simp [fvs, up1]) dX8_leaveOutOrderOf_30 (fun m6 em6 => ?_)
        replace h := yl_of h em6
        obtain rfl := Option.some.inj h
        exact g_vret C hr hz ⟨rfl, rfl, fun _ => rfl, fun _ => rfl⟩ rfl (fun j x h => by simp at h) dX8_leaveOutOrderOf_33
    · replace h := (if_neg c9).symm.trans h
      obtain rfl := Option.some.inj h
      exact g_vret C hr hz ⟨rfl, rfl, fun _ => rfl, fun _ => rfl⟩ rfl (fun j x h => by simp at h) dX8_leaveOutOrderOf_12
theorem c_X8_leaveOutOrderOf (l : Launch) (μ : MP) (ν : NC) (a : AS) (Ad : Nat → Nat → Nat) (w : Nat) (p1 : Nat) (r0 : MP × Int32) (h : f_X8_leaveOutOrderOf w μ ν p1 = some r0) : ∀ D E sz, Met l yX8_leaveOutOrderOf gwX8_leaveOutOrderOf ({ frames := 4, cells := 0, slots := 0, locals := 102 } : Room) (cP D E sz (zS μ ν a Ad) [] [.ref (Ad 0 0), nv (Ad 6) p1]) (cQ D E sz (zS μ ν a Ad) [] (pV (fun u => u = (zS r0.1 ν a Ad, [])))) (0) (0) (Aof (zS μ ν a Ad) [] sz) := by
  intro D E sz
  refine g_of (cc := cX8_leaveOutOrderOf) (maxL := 3) (ret := none) (own := "TradeLine") (by decide) rfl rfl (by cases p1 <;> exact Nat.le_of_ble_eq_true rfl) ?_
  intro p e s m args below meth c C hr hin hz ha hwr
  refine g_lv (lv' := [(0, .ref (Ad 0 0)), (1, nv (Ad 6) p1)]) [0, 1] (by cases p1 <;> rfl) ?_
  exact lb_X8_leaveOutOrderOf_0 C hr hz h
noncomputable def b_X8_bestQuoteFor_56 (k14 : Nat → Nat → Nat → Int32 → Option (Nat)) (w : Nat) (μ : MP) (ν : NC) (p1 : Nat) (p2 : Nat) (p3 : Nat) (x4 : Int32) : Option (Nat) := yl (x4 + (1 : Int32)) (fun t12 => k14 p1 p2 p3 t12)
set_option maxHeartbeats 4000000 in
set_option maxRecDepth 100000 in
theorem lb_X8_bestQuoteFor_56 {p : Program} {l : Launch} {e : Env} {s : State} {m : MethodId} {args : Array Value} {below : List Frame} {meth : Method} {c : Code} {D : va_G} {E : Nat → ClassId} {sz : Nat} {μ : MP} {ν : NC} {a : AS} {Ad : Nat → Nat → Nat} {w : Nat} {r0 : Nat} (C : cx p s m args meth c D E (Aof (zS μ ν a Ad) [] s.heap.size) cX8_bestQuoteFor 6 "TradeLine") (hr : meth.sig.returnType = (some (.object "TradeLine$Quote"))) (hz : s.heap.size = sz) {p1 : Nat} {p2 : Nat} {p3 : Nat} {x4 : Int32} {k14 : Nat → Nat → Nat → Int32 → Option (Nat)} (hk14 : ∀ (z1 : Nat) (z2 : Nat) (z3 : Nat) (z4 : Int32), k14 z1 z2 z3 z4 = some r0 → G p l e ({ frames := 2, cells := 0, slots := 0, locals := 41 } : Room) s m args below meth c D E (Aof (zS μ ν a Ad) [] s.heap.size) 6 (MQ below (cQ D E sz (zS μ ν a Ad) [] (pQ (fun r u => r = nv (Ad 25) r0 ∧ u = (zS μ ν a Ad, [])))) args s 0 0 (Aof (zS μ ν a Ad) [] s.heap.size)) (zS μ ν a Ad) [] 0 0 14 [(0, .ref (Ad 0 0)), (1, nv (Ad 20) z1), (2, nv (Ad 24) z2), (3, nv (Ad 25) z3), (4, .int z4)] []) (h : b_X8_bestQuoteFor_56 k14 w μ ν p1 p2 p3 x4 = some r0) : G p l e ({ frames := 2, cells := 0, slots := 0, locals := 41 } : Room) s m args below meth c D E (Aof (zS μ ν a Ad) [] s.heap.size) 6 (MQ below (cQ D E sz (zS μ ν a Ad) [] (pQ (fun r u => r = nv (Ad 25) r0 ∧ u = (zS μ ν a Ad, [])))) args s 0 0 (Aof (zS μ ν a Ad) [] s.heap.size)) (zS μ ν a Ad) [] 0 0 56 [(0, .ref (Ad 0 0)), (1, nv (Ad 20) p1), (2, nv (Ad 24) p2), (3, nv (Ad 25) p3), (4, .int x4)] [] := by
  unfold b_X8_bestQuoteFor_56 at h
  obtain ⟨t12, et12⟩ : ∃ y : Int32, x4 + (1 : Int32) = y := ⟨_, rfl⟩
  replace h := yl_of h et12
  refine g_iinc (v := t12) (lv' := [(4, .int t12), (0, .ref (Ad 0 0)), (1, nv (Ad 20) p1), (2, nv (Ad 24) p2), (3, nv (Ad 25) p3)]) C dX8_bestQuoteFor_56 4 rfl (by rw [← et12]; rfl) (by decide) (by simp [nv_cat, cat_i, cat_r, cat_n]) ?_
  refine g_goto (tgt := 14) C dX8_bestQuoteFor_59 (by decide) ?_
  refine g_lv [1, 2, 3, 4, 0] rfl ?_
  exact hk14 _ _ _ _ h
noncomputable def b_X8_bestQuoteFor_53 (k14 : Nat → Nat → Nat → Int32 → Option (Nat)) (w : Nat) (μ : MP) (ν : NC) (p1 : Nat) (p2 : Nat) (x4 : Int32) (p5 : Nat) : Option (Nat) := b_X8_bestQuoteFor_56 k14 w μ ν p1 p2 p5 x4
set_option maxHeartbeats 4000000 in
set_option maxRecDepth 100000 in
theorem lb_X8_bestQuoteFor_53 {p : Program} {l : Launch} {e : Env} {s : State} {m : MethodId} {args : Array Value} {below : List Frame} {meth : Method} {c : Code} {D : va_G} {E : Nat → ClassId} {sz : Nat} {μ : MP} {ν : NC} {a : AS} {Ad : Nat → Nat → Nat} {w : Nat} {r0 : Nat} (C : cx p s m args meth c D E (Aof (zS μ ν a Ad) [] s.heap.size) cX8_bestQuoteFor 6 "TradeLine") (hr : meth.sig.returnType = (some (.object "TradeLine$Quote"))) (hz : s.heap.size = sz) {p1 : Nat} {p2 : Nat} {x4 : Int32} {p5 : Nat} {k14 : Nat → Nat → Nat → Int32 → Option (Nat)} (hk14 : ∀ (z1 : Nat) (z2 : Nat) (z3 : Nat) (z4 : Int32), k14 z1 z2 z3 z4 = some r0 → G p l e ({ frames := 2, cells := 0, slots := 0, locals := 41 } : Room) s m args below meth c D E (Aof (zS μ ν a Ad) [] s.heap.size) 6 (MQ below (cQ D E sz (zS μ ν a Ad) [] (pQ (fun r u => r = nv (Ad 25) r0 ∧ u = (zS μ ν a Ad, [])))) args s 0 0 (Aof (zS μ ν a Ad) [] s.heap.size)) (zS μ ν a Ad) [] 0 0 14 [(0, .ref (Ad 0 0)), (1, nv (Ad 20) z1), (2, nv (Ad 24) z2), (3, nv (Ad 25) z3), (4, .int z4)] []) (h : b_X8_bestQuoteFor_53 k14 w μ ν p1 p2 x4 p5 = some r0) : G p l e ({ frames := 2, cells := 0, slots := 0, locals := 41 } : Room) s m args below meth c D E (Aof (zS μ ν a Ad) [] s.heap.size) 6 (MQ below (cQ D E sz (zS μ ν a Ad) [] (pQ (fun r u => r = nv (Ad 25) r0 ∧ u = (zS μ ν a Ad, [])))) args s 0 0 (Aof (zS μ ν a Ad) [] s.heap.size)) (zS μ ν a Ad) [] 0 0 53 [(0, .ref (Ad 0 0)), (1, nv (Ad 20) p1), (2, nv (Ad 24) p2), (4, .int x4), (5, nv (Ad 25) p5)] [] := by
  unfold b_X8_bestQuoteFor_53 at h
  refine z_aload C dX8_bestQuoteFor_53 4 rfl (nv_or _ _) ?_
  refine z_astore_n (i := 3) (lv' := [(3, nv (Ad 25) p5), (0, .ref (Ad 0 0)), (1, nv (Ad 20) p1), (2, nv (Ad 24) p2), (4, .int x4), (5, nv (Ad 25) p5)]) C dX8_bestQuoteFor_55 (nv_or _ _) rfl (by decide) (by simp [nv_cat, cat_i, cat_r, cat_n]) ?_
  refine g_lv [1, 2, 3, 0, 4] rfl ?_
  exact lb_X8_bestQuoteFor_56 C hr hz hk14 h
noncomputable def b_X8_bestQuoteFor_14 (k14 : Nat → Nat → Nat → Int32 → Option (Nat)) (w : Nat) (μ : MP) (ν : NC) (p1 : Nat) (p2 : Nat) (p3 : Nat) (x4 : Int32) : Option (Nat) := bif nzB p2 then bif ltB (p2 - 1) (ν.2 24) then (if (nI (ν.1 24 (p2 - 1))) ≤ x4 then (some p3) else (bif ixB x4 (ν.1 24 (p2 - 1)) then bif nzB (μ.2 24 (p2 - 1) x4.toNatClampNeg) then bif nzB p1 then bif ltB (p1 - 1) (ν.2 20) then (f_X4_canTradeWith w μ ν (p1 - 1) (((μ.2 24 (p2 - 1) x4.toNatClampNeg) - 1) + 1)).bind (fun v11 => (if v11 = (0 : Int32) then (b_X8_bestQuoteFor_56 k14 w μ ν ((p1 - 1) + 1) ((p2 - 1) + 1) p3 x4) else ((if p3 = 0 then (b_X8_bestQuoteFor_53 k14 w μ ν ((p1 - 1) + 1) ((p2 - 1) + 1) x4 (((μ.2 24 (p2 - 1) x4.toNatClampNeg) - 1) + 1)) else (bif ltB ((μ.2 24 (p2 - 1) x4.toNatClampNeg) - 1) (ν.2 25) then (f_X6_isBetterThan w μ ν ((μ.2 24 (p2 - 1) x4.toNatClampNeg) - 1) ((p3 - 1) + 1) (μ.1 20 (p1 - 1) 1)).bind (fun v14 => (if v14 = (0 : Int32) then (b_X8_bestQuoteFor_56 k14 w μ ν ((p1 - 1) + 1) ((p2 - 1) + 1) ((p3 - 1) + 1) x4) else (b_X8_bestQuoteFor_53 k14 w μ ν ((p1 - 1) + 1) ((p2 - 1) + 1) x4 (((μ.2 24 (p2 - 1) x4.toNatClampNeg) - 1) + 1)))) else none))))) else none else none else none else none)) else none else none
set_option maxHeartbeats 4000000 in
set_option maxRecDepth 100000 in
theorem lb_X8_bestQuoteFor_14 {p : Program} {l : Launch} {e : Env} {s : State} {m : MethodId} {args : Array Value} {below : List Frame} {meth : Method} {c : Code} {D : va_G} {E : Nat → ClassId} {sz : Nat} {μ : MP} {ν : NC} {a : AS} {Ad : Nat → Nat → Nat} {w : Nat} {r0 : Nat} (C : cx p s m args meth c D E (Aof (zS μ ν a Ad) [] s.heap.size) cX8_bestQuoteFor 6 "TradeLine") (hr : meth.sig.returnType = (some (.object "TradeLine$Quote"))) (hz : s.heap.size = sz) {p1 : Nat} {p2 : Nat} {p3 : Nat} {x4 : Int32} {k14 : Nat → Nat → Nat → Int32 → Option (Nat)} (hk14 : ∀ (z1 : Nat) (z2 : Nat) (z3 : Nat) (z4 : Int32), k14 z1 z2 z3 z4 = some r0 → G p l e ({ frames := 2, cells := 0, slots := 0, locals := 41 } : Room) s m args below meth c D E (Aof (zS μ ν a Ad) [] s.heap.size) 6 (MQ below (cQ D E sz (zS μ ν a Ad) [] (pQ (fun r u => r = nv (Ad 25) r0 ∧ u = (zS μ ν a Ad, [])))) args s 0 0 (Aof (zS μ ν a Ad) [] s.heap.size)) (zS μ ν a Ad) [] 0 0 14 [(0, .ref (Ad 0 0)), (1, nv (Ad 20) z1), (2, nv (Ad 24) z2), (3, nv (Ad 25) z3), (4, .int z4)] []) (h : b_X8_bestQuoteFor_14 k14 w μ ν p1 p2 p3 x4 = some r0) : G p l e ({ frames := 2, cells := 0, slots := 0, locals := 41 } : Room) s m args below meth c D E (Aof (zS μ ν a Ad) [] s.heap.size) 6 (MQ below (cQ D E sz (zS μ ν a Ad) [] (pQ (fun r u => r = nv (Ad 25) r0 ∧ u = (zS μ ν a Ad, [])))) args s 0 0 (Aof (zS μ ν a Ad) [] s.heap.size)) (zS μ ν a Ad) [] 0 0 14 [(0, .ref (Ad 0 0)), (1, nv (Ad 20) p1), (2, nv (Ad 24) p2), (3, nv (Ad 25) p3), (4, .int x4)] [] := by
  unfold b_X8_bestQuoteFor_14 at h
  refine g_iload C dX8_bestQuoteFor_14 4 rfl ?_
  refine z_aload_n C dX8_bestQuoteFor_16 rfl 2 rfl (nv_or _ _) ?_
  obtain ⟨g5, h⟩ := of_guard h
  rw [nzB_e g5]
  obtain ⟨g6, h⟩ := of_guard h
  refine g_alen (k := 24) (i := (p2 - 1)) (v := nI (ν.1 24 (p2 - 1))) C rfl (lvZ g6 rfl) (by decide) rfl dX8_bestQuoteFor_17 ?_
  refine g_icmp_ge (tgt := 62) C dX8_bestQuoteFor_18 (by decide) (fun c18 => ?_) (fun c18 => ?_)
  · replace h := (if_pos c18).symm.trans h
    refine z_aload_n C dX8_bestQuoteFor_62 rfl 3 rfl (nv_or _ _) ?_
    obtain rfl := Option.some.inj h
    exact g_aret C hr (Or.inl ⟨_, rfl⟩) (nv_or _ _) hz ⟨rfl, rfl, fun _ => rfl, fun _ => rfl⟩ ⟨rfl, rfl⟩ (fun j x h => by simp at h) dX8_bestQuoteFor_63
  · replace h := (if_neg c18).symm.trans h
    refine g_aload_n C dX8_bestQuoteFor_21 rfl 2 rfl ?_
    refine g_iload C dX8_bestQuoteFor_22 4 rfl ?_
    obtain ⟨g7, h⟩ := of_guard h
    obtain ⟨g8, h⟩ := of_guard h
    refine z_aald (i := (p2 - 1)) C g6 g7 g8 dX8_bestQuoteFor_24 ?_
    refine z_astore (lv' := [(5, .ref (Ad 25 ((μ.2 24 (p2 - 1) x4.toNatClampNeg) - 1))), (0, .ref (Ad 0 0)), (1, nv (Ad 20) p1), (2, .ref (Ad 24 (p2 - 1))), (3, nv (Ad 25) p3), (4, .int x4)]) C dX8_bestQuoteFor_25 (Or.inr ⟨_, rfl⟩) (by decide) (by simp [nv_cat, cat_i, cat_r, cat_n]) ?_
    refine z_aload_n C dX8_bestQuoteFor_27 rfl 2 rfl (nv_or _ _) ?_
    refine g_aload C dX8_bestQuoteFor_28 0 rfl ?_
    obtain ⟨g9, h⟩ := of_guard h
    rw [nzB_e g9]
    obtain ⟨g10, h⟩ := of_guard h
    obtain ⟨v11, hv11, h⟩ := bind_of h
    refine g_cVi (n := 1) (exc := []) (exr := []) C [_] _ rfl rfl [] [] rfl rfl rfl rfl (fun _ h => absurd h (by simp)) (fun _ h => absurd h (by simp)) (fun _ h => absurd h (by simp)) (fun sz => c_X4_canTradeWith l μ ν a Ad w (p1 - 1) (((μ.2 24 (p2 - 1) x4.toNatClampNeg) - 1) + 1) _ hv11 D E sz) rfl gw_883 gw_30 gw_880 gw_881 gw_882 ⟨by decide +kernel, by decide +kernel, by decide +kernel⟩ ⟨rfl, rfl⟩ ⟨Nat.le_of_ble_eq_true rfl, Nat.le_of_ble_eq_true rfl⟩ (rcvT (lvZ g10 rfl) rfl rfl rfl) (Nat.le_of_ble_eq_true rfl) dX8_bestQuoteFor_30 ⟨by decide, by decide⟩ (fun r u hp hx => ?_)
    obtain ⟨er, rfl⟩ := hp
    rw [er]
    try dsimp only [List.append_nil]
    refine g_if_eq (tgt := 56) C dX8_bestQuoteFor_33 (by decide) (fun c33 => ?_) (fun c33 => ?_)
    · replace h := (if_pos c33).symm.trans h
      refine g_lv [1, 2, 3, 4, 5] rfl ?_
      exact lb_X8_bestQuoteFor_56 C hr hz hk14 h
    · replace h := (if_neg c33).symm.trans h
      refine z_aload_n C dX8_bestQuoteFor_36 rfl 4 rfl (nv_or _ _) ?_
      by_cases c37 : p3 = 0
      · replace h := (if_pos c37).symm.trans h
        rw [nv_z c37]
        refine z_ifnullN (tgt := 53) C dX8_bestQuoteFor_37 (by decide) ?_
        refine g_lv [1, 2, 3, 5, 0] rfl ?_
        exact lb_X8_bestQuoteFor_53 C hr hz hk14 h
      · replace h := (if_neg c37).symm.trans h
        rw [nv_n c37]
        refine z_ifnull C dX8_bestQuoteFor_37 ?_
        refine g_aload C dX8_bestQuoteFor_40 0 rfl ?_
        refine g_aload_n C dX8_bestQuoteFor_42 rfl 4 rfl ?_
        refine g_aload_n C dX8_bestQuoteFor_43 rfl 2 rfl ?_
        refine g_get (k := 20) (i := (p1 - 1)) (ref := "TradeLine$Order") (v := .int (μ.1 20 (p1 - 1) 1)) C rfl (lvZ g10 rfl) rfl rfl inGX4 1 (by decide) gw_1112 (fun _ h => h) rfl dX8_bestQuoteFor_44 ?_
        obtain ⟨g13, h⟩ := of_guard h
        obtain ⟨v14, hv14, h⟩ := bind_of h
        refine g_cVi (n := 2) (exc := []) (exr := []) C [_, _] _ rfl rfl [] [] rfl rfl rfl rfl (fun _ h => absurd h (by simp)) (fun _ h => absurd h (by simp)) (fun _ h => absurd h (by simp)) (fun sz => c_X6_isBetterThan l μ ν a Ad w ((μ.2 24 (p2 - 1) x4.toNatClampNeg) - 1) ((p3 - 1) + 1) (μ.1 20 (p1 - 1) 1) _ hv14 D E sz) rfl gw_891 gw_8 gw_888 gw_889 gw_890 ⟨by decide +kernel, by decide +kernel, by decide +kernel⟩ ⟨rfl, rfl⟩ ⟨Nat.le_of_ble_eq_true rfl, Nat.le_of_ble_eq_true rfl⟩ (rcvT (lvZ g13 rfl) rfl rfl rfl) (Nat.le_of_ble_eq_true rfl) dX8_bestQuoteFor_47 ⟨by decide, by decide⟩ (fun r u hp hx => ?_)
        obtain ⟨er, rfl⟩ := hp
        rw [er]
        try dsimp only [List.append_nil]
        refine g_if_eq (tgt := 56) C dX8_bestQuoteFor_50 (by decide) (fun c50 => ?_) (fun c50 => ?_)
        · replace h := (if_pos c50).symm.trans h
          refine g_lv [1, 2, 3, 4, 5] rfl ?_
          exact lb_X8_bestQuoteFor_56 C hr hz hk14 h
        · replace h := (if_neg c50).symm.trans h
          refine g_lv [1, 2, 3, 5, 0] rfl ?_
          exact lb_X8_bestQuoteFor_53 C hr hz hk14 h
noncomputable def l_X8_bestQuoteFor_14  (w : Nat) (μ : MP) (ν : NC) : Nat → Nat → Nat → Nat → Int32 → Option (Nat)
  | 0 => fun _ _ _ _ => none
  | n + 1 => fun p1 p2 p3 x4 => b_X8_bestQuoteFor_14  (l_X8_bestQuoteFor_14  w μ ν n) w μ ν p1 p2 p3 x4
theorem ll_X8_bestQuoteFor_14 {p : Program} {l : Launch} {e : Env} {s : State} {m : MethodId} {args : Array Value} {below : List Frame} {meth : Method} {c : Code} {D : va_G} {E : Nat → ClassId} {sz : Nat} {μ : MP} {ν : NC} {a : AS} {Ad : Nat → Nat → Nat} {w : Nat} {r0 : Nat} (C : cx p s m args meth c D E (Aof (zS μ ν a Ad) [] s.heap.size) cX8_bestQuoteFor 6 "TradeLine") (hr : meth.sig.returnType = (some (.object "TradeLine$Quote"))) (hz : s.heap.size = sz)   : ∀ (n : Nat) (p1 : Nat) (p2 : Nat) (p3 : Nat) (x4 : Int32), l_X8_bestQuoteFor_14  w μ ν n p1 p2 p3 x4 = some r0 → G p l e ({ frames := 2, cells := 0, slots := 0, locals := 41 } : Room) s m args below meth c D E (Aof (zS μ ν a Ad) [] s.heap.size) 6 (MQ below (cQ D E sz (zS μ ν a Ad) [] (pQ (fun r u => r = nv (Ad 25) r0 ∧ u = (zS μ ν a Ad, [])))) args s 0 0 (Aof (zS μ ν a Ad) [] s.heap.size)) (zS μ ν a Ad) [] 0 0 14 [(0, .ref (Ad 0 0)), (1, nv (Ad 20) p1), (2, nv (Ad 24) p2), (3, nv (Ad 25) p3), (4, .int x4)] [] := by
  intro n
  induction n with
  | zero => exact fun p1 p2 p3 x4 h => absurd (show (none : Option (Nat)) = some r0 from h) (by simp)
  | succ n ih => exact fun p1 p2 p3 x4 h => lb_X8_bestQuoteFor_14 (w := w) C hr hz  ih h
noncomputable def f_X8_bestQuoteFor  (w : Nat) (μ : MP) (ν : NC) (p1 : Nat) : Option (Nat) := bif nzB p1 then bif ltB (p1 - 1) (ν.2 20) then bif ltB 0 (ν.2 0) then (f_X8_quotesFor w μ ν (μ.1 20 (p1 - 1) 1)).bind (fun v4 => l_X8_bestQuoteFor_14  w μ ν w ((p1 - 1) + 1) v4 0 (0 : Int32)) else none else none else none
set_option maxHeartbeats 4000000 in
set_option maxRecDepth 100000 in
theorem lb_X8_bestQuoteFor_0 {p : Program} {l : Launch} {e : Env} {s : State} {m : MethodId} {args : Array Value} {below : List Frame} {meth : Method} {c : Code} {D : va_G} {E : Nat → ClassId} {sz : Nat} {μ : MP} {ν : NC} {a : AS} {Ad : Nat → Nat → Nat} {w : Nat} {r0 : Nat} (C : cx p s m args meth c D E (Aof (zS μ ν a Ad) [] s.heap.size) cX8_bestQuoteFor 6 "TradeLine") (hr : meth.sig.returnType = (some (.object "TradeLine$Quote"))) (hz : s.heap.size = sz) {p1 : Nat}   (h : f_X8_bestQuoteFor  w μ ν p1 = some r0) : G p l e ({ frames := 2, cells := 0, slots := 0, locals := 41 } : Room) s m args below meth c D E (Aof (zS μ ν a Ad) [] s.heap.size) 6 (MQ below (cQ D E sz (zS μ ν a Ad) [] (pQ (fun r u => r = nv (Ad 25) r0 ∧ u = (zS μ ν a Ad, [])))) args s 0 0 (Aof (zS μ ν a Ad) [] s.heap.size)) (zS μ ν a Ad) [] 0 0 0 [(0, .ref (Ad 0 0)), (1, nv (Ad 20) p1)] [] := by
  unfold f_X8_bestQuoteFor at h
  refine g_aload_n C dX8_bestQuoteFor_0 rfl 0 rfl ?_
  refine z_aload_n C dX8_bestQuoteFor_1 rfl 1 rfl (nv_or _ _) ?_
  obtain ⟨g1, h⟩ := of_guard h
  rw [nzB_e g1]
  obtain ⟨g2, h⟩ := of_guard h
  refine g_get (k := 20) (i := (p1 - 1)) (ref := "TradeLine$Order") (v := .int (μ.1 20 (p1 - 1) 1)) C rfl (lvZ g2 rfl) rfl rfl inGX4 1 (by decide) gw_1112 (fun _ h => h) rfl dX8_bestQuoteFor_2 ?_
  obtain ⟨g3, h⟩ := of_guard h
  obtain ⟨v4, hv4, h⟩ := bind_of h
  refine g_cVq (n := 1) (exc := []) (exr := []) C [_] _ rfl rfl [] [] rfl rfl rfl rfl (fun _ h => absurd h (by simp)) (fun _ h => absurd h (by simp)) (fun _ h => absurd h (by simp)) (fun sz => c_X8_quotesFor l μ ν a Ad w (μ.1 20 (p1 - 1) 1) _ hv4 D E sz) rfl gw_879 gw_1 gw_876 gw_878 gs_26 ⟨by decide +kernel, by decide +kernel, by decide +kernel⟩ ⟨rfl, rfl⟩ ⟨Nat.le_of_ble_eq_true rfl, Nat.le_of_ble_eq_true rfl⟩ (rcvT (lvZ g3 rfl) rfl rfl rfl) (Nat.le_of_ble_eq_true rfl) dX8_bestQuoteFor_5 ⟨by decide, by decide⟩ (fun r u hp hx => ?_)
  obtain ⟨er, rfl⟩ := hp
  rw [er]
  try dsimp only [List.append_nil]
  refine z_astore_n (i := 2) (lv' := [(2, nv (Ad 24) v4), (0, .ref (Ad 0 0)), (1, .ref (Ad 20 (p1 - 1)))]) C dX8_bestQuoteFor_8 (nv_or _ _) rfl (by decide) (by simp [nv_cat, cat_i, cat_r, cat_n]) ?_
  refine g_null C dX8_bestQuoteFor_9 ?_
  refine z_astore_n (i := 3) (lv' := [(3, .null), (2, nv (Ad 24) v4), (0, .ref (Ad 0 0)), (1, .ref (Ad 20 (p1 - 1)))]) C dX8_bestQuoteFor_10 (Or.inl rfl) rfl (by decide) (by simp [nv_cat, cat_i, cat_r, cat_n]) ?_
  refine g_iconst (v := (0 : Int32)) C dX8_bestQuoteFor_11 (by decide) ?_
  refine g_istore (lv' := [(4, .int (0 : Int32)), (3, .null), (2, nv (Ad 24) v4), (0, .ref (Ad 0 0)), (1, .ref (Ad 20 (p1 - 1)))]) C dX8_bestQuoteFor_12 (by decide) (by simp [nv_cat, cat_i, cat_r, cat_n]) ?_
  refine g_lv [3, 4, 2, 1, 0] rfl ?_
  exact ll_X8_bestQuoteFor_14 C hr hz  w _ _ _ _ h
theorem c_X8_bestQuoteFor (l : Launch) (μ : MP) (ν : NC) (a : AS) (Ad : Nat → Nat → Nat) (w : Nat) (p1 : Nat) (r0 : Nat) (h : f_X8_bestQuoteFor w μ ν p1 = some r0) : ∀ D E sz, Met l yX8_bestQuoteFor gwX8_bestQuoteFor ({ frames := 2, cells := 0, slots := 0, locals := 41 } : Room) (cP D E sz (zS μ ν a Ad) [] [.ref (Ad 0 0), nv (Ad 20) p1]) (cQ D E sz (zS μ ν a Ad) [] (pQ (fun r u => r = nv (Ad 25) r0 ∧ u = (zS μ ν a Ad, [])))) (0) (0) (Aof (zS μ ν a Ad) [] sz) := by
  intro D E sz
  refine g_of (cc := cX8_bestQuoteFor) (maxL := 6) (ret := (some (.object "TradeLine$Quote"))) (own := "TradeLine") (by decide) rfl rfl (by cases p1 <;> exact Nat.le_of_ble_eq_true rfl) ?_
  intro p e s m args below meth c C hr hin hz ha hwr
  refine g_lv (lv' := [(0, .ref (Ad 0 0)), (1, nv (Ad 20) p1)]) [0, 1] (by cases p1 <;> rfl) ?_
  exact lb_X8_bestQuoteFor_0 C hr hz h
noncomputable def f_X8_traderReadsBusted  (w : Nat) (μ : MP) (ν : NC) (p0 : Nat) (p1 : Nat) : Option (MP × Int32) := (if p1 = 0 then (some (μ, (0 : Int32))) else (bif ltB (p1 - 1) (ν.2 23) then (if (μ.1 23 (p1 - 1) 6) = (0 : Int32) then (some (μ, (0 : Int32))) else (yl (uM μ 23 (p1 - 1) 8 (1 : Int32)) (fun m2 => bif nzB p0 then bif ltB (p0 - 1) (ν.2 20) then bif ltB (2 * (p0 - 1)) (ν.2 21) then (f_X1_takeBack w m2 ν (2 * (p0 - 1)) (m2.1 23 (p1 - 1) 2)).bind (fun v6 => some (v6.1, (0 : Int32))) else none else none else none))) else none))
set_option maxHeartbeats 4000000 in
set_option maxRecDepth 100000 in
theorem lb_X8_traderReadsBusted_0 {p : Program} {l : Launch} {e : Env} {s : State} {m : MethodId} {args : Array Value} {below : List Frame} {meth : Method} {c : Code} {D : va_G} {E : Nat → ClassId} {sz : Nat} {μ0 : MP} {ν : NC} {a : AS} {Ad : Nat → Nat → Nat} {w : Nat} {r0 : MP × Int32} (C : cx p s m args meth c D E (Aof (zS μ0 ν a Ad) [] s.heap.size) cX8_traderReadsBusted 2 "TradeLine") (hr : meth.sig.returnType = none) (hz : s.heap.size = sz) {μ : MP} {p0 : Nat} {p1 : Nat}   (h : f_X8_traderReadsBusted  w μ ν p0 p1 = some r0) : G p l e ({ frames := 1, cells := 0, slots := 0, locals := 21 } : Room) s m args below meth c D E (Aof (zS μ0 ν a Ad) [] s.heap.size) 2 (MQ below (cQ D E sz (zS μ0 ν a Ad) [] (pV (fun u => u = (zS r0.1 ν a Ad, [])))) args s 0 0 (Aof (zS μ0 ν a Ad) [] s.heap.size)) (zS μ ν a Ad) [] 0 0 0 [(0, nv (Ad 20) p0), (1, nv (Ad 23) p1)] [] := by
  unfold f_X8_traderReadsBusted at h
  refine z_aload_n C dX8_traderReadsBusted_0 rfl 1 rfl (nv_or _ _) ?_
  by_cases c1 : p1 = 0
  · replace h := (if_pos c1).symm.trans h
    rw [nv_z c1]
    refine z_ifnullN (tgt := 27) C dX8_traderReadsBusted_1 (by decide) ?_
    obtain rfl := Option.some.inj h
    exact g_vret C hr hz ⟨rfl, rfl, fun _ => rfl, fun _ => rfl⟩ rfl (fun j x h => by simp at h) dX8_traderReadsBusted_27
  · replace h := (if_neg c1).symm.trans h
    rw [nv_n c1]
    refine z_ifnull C dX8_traderReadsBusted_1 ?_
    refine g_aload_n C dX8_traderReadsBusted_4 rfl 1 rfl ?_
    obtain ⟨g1, h⟩ := of_guard h
    refine g_get (k := 23) (i := (p1 - 1)) (ref := "TradeLine$Execution") (v := .int (μ.1 23 (p1 - 1) 6)) C rfl (lvZ g1 rfl) rfl rfl inGX2 6 (by decide) gw_912 (fun _ h => h) rfl dX8_traderReadsBusted_5 ?_
    refine g_if_eq (tgt := 27) C dX8_traderReadsBusted_8 (by decide) (fun c8 => ?_) (fun c8 => ?_)
    · replace h := (if_pos c8).symm.trans h
      obtain rfl := Option.some.inj h
      exact g_vret C hr hz ⟨rfl, rfl, fun _ => rfl, fun _ => rfl⟩ rfl (fun j x h => by simp at h) dX8_traderReadsBusted_27
    · replace h := (if_neg c8).symm.trans h
      refine g_aload_n C dX8_traderReadsBusted_11 rfl 1 rfl ?_
      refine g_iconst (v := (1 : Int32)) C dX8_traderReadsBusted_12 (by decide) ?_
      refine z_put (k := 23) (i := (p1 - 1)) (ref := "TradeLine$Execution") C rfl g1 rfl rfl rfl inGX2 tyX2 tyX2_ok nmX2 8 (by decide) gw_916 (fun _ h => h) rfl (tyX2_ok 8 (by decide)) rfl rfl (by simp [fvs]) (by simp [fvs, up1]) dX8_traderReadsBusted_13 (fun m2 em2 => ?_)
      replace h := yl_of h em2
      refine z_aload_n C dX8_traderReadsBusted_16 rfl 0 rfl (nv_or _ _) ?_
      obtain ⟨g3, h⟩ := of_guard h
      rw [nzB_e g3]
      obtain ⟨g4, h⟩ := of_guard h
      refine g_get (k := 20) (i := (p0 - 1)) (ref := "TradeLine$Order") (v := .ref (Ad 21 (2 * (p0 - 1)))) C rfl (lvZ g4 rfl) rfl rfl inGX4 2 (by decide) gw_1114 (fun _ h => h) rfl dX8_traderReadsBusted_17 ?_
      refine g_aload_n C dX8_traderReadsBusted_20 rfl 1 rfl ?_
      refine g_get (k := 23) (i := (p1 - 1)) (ref := "TradeLine$Execution") (v := .int (m2.1 23 (p1 - 1) 2)) C rfl (lvZ g1 rfl) rfl rfl inGX2 2 (by decide) gw_904 (fun _ h => h) rfl dX8_traderReadsBusted_21 ?_
      obtain ⟨g5, h⟩ := of_guard h
      obtain ⟨v6, hv6, h⟩ := bind_of h
      refine g_cVv (n := 1) (exc := []) (exr := []) C [_] _ rfl rfl [] [] rfl rfl rfl rfl (fun _ h => absurd h (by simp)) (fun _ h => absurd h (by simp)) (fun _ h => absurd h (by simp)) (fun sz => c_X1_takeBack l m2 ν a Ad w (2 * (p0 - 1)) (m2.1 23 (p1 - 1) 2) _ hv6 D E sz) rfl gw_979 gw_31 gw_976 gw_977 gw_978 ⟨by decide +kernel, by decide +kernel, by decide +kernel⟩ ⟨rfl, rfl⟩ ⟨Nat.le_of_ble_eq_true rfl, Nat.le_of_ble_eq_true rfl⟩ (rcvT (lvZ g5 rfl) rfl rfl rfl) (Nat.le_of_ble_eq_true rfl) dX8_traderReadsBusted_24 ⟨by decide, by decide⟩ (fun u hp hx => ?_)
      obtain rfl := hp
      try dsimp only [List.append_nil]
      obtain rfl := Option.some.inj h
      exact g_vret C hr hz ⟨rfl, rfl, fun _ => rfl, fun _ => rfl⟩ rfl (fun j x h => by simp at h) dX8_traderReadsBusted_27
theorem c_X8_traderReadsBusted (l : Launch) (μ : MP) (ν : NC) (a : AS) (Ad : Nat → Nat → Nat) (w : Nat) (p0 : Nat) (p1 : Nat) (r0 : MP × Int32) (h : f_X8_traderReadsBusted w μ ν p0 p1 = some r0) : ∀ D E sz, Met l yX8_traderReadsBusted gwX8_traderReadsBusted ({ frames := 1, cells := 0, slots := 0, locals := 21 } : Room) (cP D E sz (zS μ ν a Ad) [] [nv (Ad 20) p0, nv (Ad 23) p1]) (cQ D E sz (zS μ ν a Ad) [] (pV (fun u => u = (zS r0.1 ν a Ad, [])))) (0) (0) (Aof (zS μ ν a Ad) [] sz) := by
  intro D E sz
  refine g_of (cc := cX8_traderReadsBusted) (maxL := 2) (ret := none) (own := "TradeLine") (by decide) rfl rfl (by cases p0 <;> cases p1 <;> exact Nat.le_of_ble_eq_true rfl) ?_
  intro p e s m args below meth c C hr hin hz ha hwr
  refine g_lv (lv' := [(0, nv (Ad 20) p0), (1, nv (Ad 23) p1)]) [0, 1] (by cases p0 <;> cases p1 <;> rfl) ?_
  exact lb_X8_traderReadsBusted_0 C hr hz h
noncomputable def f_X8_traderReadsCorrected  (w : Nat) (μ : MP) (ν : NC) (p1 : Nat) : Option (MP × Int32) := bif nzB p1 then bif ltB (p1 - 1) (ν.2 6) then (f_X3_valueOf w μ ν (p1 - 1) (17 : Int32)).bind (fun v3 => bif ltB 0 (ν.2 0) then (f_X8_findExecution w μ ν v3).bind (fun v5 => (if v5 = 0 then (some (μ, (0 : Int32))) else (bif ltB (v5 - 1) (ν.2 23) then (if (μ.1 23 (v5 - 1) 6) = (0 : Int32) then (some (μ, (0 : Int32))) else ((f_X3_valueOf w μ ν (p1 - 1) (31 : Int32)).bind (fun v7 => yl (uM μ 23 (v5 - 1) 7 v7) (fun m8 => some (m8, (0 : Int32)))))) else none))) else none) else none else none
set_option maxHeartbeats 4000000 in
set_option maxRecDepth 100000 in
theorem lb_X8_traderReadsCorrected_0 {p : Program} {l : Launch} {e : Env} {s : State} {m : MethodId} {args : Array Value} {below : List Frame} {meth : Method} {c : Code} {D : va_G} {E : Nat → ClassId} {sz : Nat} {μ0 : MP} {ν : NC} {a : AS} {Ad : Nat → Nat → Nat} {w : Nat} {r0 : MP × Int32} (C : cx p s m args meth c D E (Aof (zS μ0 ν a Ad) [] s.heap.size) cX8_traderReadsCorrected 3 "TradeLine") (hr : meth.sig.returnType = none) (hz : s.heap.size = sz) {μ : MP} {p1 : Nat}   (h : f_X8_traderReadsCorrected  w μ ν p1 = some r0) : G p l e ({ frames := 4, cells := 0, slots := 0, locals := 102 } : Room) s m args below meth c D E (Aof (zS μ0 ν a Ad) [] s.heap.size) 3 (MQ below (cQ D E sz (zS μ0 ν a Ad) [] (pV (fun u => u = (zS r0.1 ν a Ad, [])))) args s 0 0 (Aof (zS μ0 ν a Ad) [] s.heap.size)) (zS μ ν a Ad) [] 0 0 0 [(0, .ref (Ad 0 0)), (1, nv (Ad 6) p1)] [] := by
  unfold f_X8_traderReadsCorrected at h
  refine g_aload_n C dX8_traderReadsCorrected_0 rfl 0 rfl ?_
  refine z_aload_n C dX8_traderReadsCorrected_1 rfl 1 rfl (nv_or _ _) ?_
  refine g_bipush (v := (17 : Int32)) C dX8_traderReadsCorrected_2 (by decide) ?_
  obtain ⟨g1, h⟩ := of_guard h
  rw [nzB_e g1]
  obtain ⟨g2, h⟩ := of_guard h
  obtain ⟨v3, hv3, h⟩ := bind_of h
  refine g_cVi (n := 1) (exc := []) (exr := []) C [_] _ rfl rfl [] [] rfl rfl rfl rfl (fun _ h => absurd h (by simp)) (fun _ h => absurd h (by simp)) (fun _ h => absurd h (by simp)) (fun sz => c_X3_valueOf l μ ν a Ad w (p1 - 1) (17 : Int32) _ hv3 D E sz) rfl gw_558 gw_18 gw_555 gw_556 gw_557 ⟨by decide +kernel, by decide +kernel, by decide +kernel⟩ ⟨rfl, rfl⟩ ⟨Nat.le_of_ble_eq_true rfl, Nat.le_of_ble_eq_true rfl⟩ (rcvT (lvZ g2 rfl) rfl rfl rfl) (Nat.le_of_ble_eq_true rfl) dX8_traderReadsCorrected_4 ⟨by decide, by decide⟩ (fun r u hp hx => ?_)
  obtain ⟨er, rfl⟩ := hp
  rw [er]
  try dsimp only [List.append_nil]
  obtain ⟨g4, h⟩ := of_guard h
  obtain ⟨v5, hv5, h⟩ := bind_of h
  refine g_cVq (n := 1) (exc := []) (exr := []) C [_] _ rfl rfl [] [] rfl rfl rfl rfl (fun _ h => absurd h (by simp)) (fun _ h => absurd h (by simp)) (fun _ h => absurd h (by simp)) (fun sz => c_X8_findExecution l μ ν a Ad w v3 _ hv5 D E sz) rfl gw_968 gw_1 gw_965 gw_967 gs_32 ⟨by decide +kernel, by decide +kernel, by decide +kernel⟩ ⟨rfl, rfl⟩ ⟨Nat.le_of_ble_eq_true rfl, Nat.le_of_ble_eq_true rfl⟩ (rcvT (lvZ g4 rfl) rfl rfl rfl) (Nat.le_of_ble_eq_true rfl) dX8_traderReadsCorrected_7 ⟨by decide, by decide⟩ (fun r u hp hx => ?_)
  obtain ⟨er, rfl⟩ := hp
  rw [er]
  try dsimp only [List.append_nil]
  refine z_astore_n (i := 2) (lv' := [(2, nv (Ad 23) v5), (0, .ref (Ad 0 0)), (1, .ref (Ad 6 (p1 - 1)))]) C dX8_traderReadsCorrected_10 (nv_or _ _) rfl (by decide) (by simp [nv_cat, cat_i, cat_r, cat_n]) ?_
  refine z_aload_n C dX8_traderReadsCorrected_11 rfl 0 rfl (nv_or _ _) ?_
  by_cases c12 : v5 = 0
  · replace h := (if_pos c12).symm.trans h
    rw [nv_z c12]
    refine z_ifnullN (tgt := 32) C dX8_traderReadsCorrected_12 (by decide) ?_
    obtain rfl := Option.some.inj h
    exact g_vret C hr hz ⟨rfl, rfl, fun _ => rfl, fun _ => rfl⟩ rfl (fun j x h => by simp at h) dX8_traderReadsCorrected_32
  · replace h := (if_neg c12).symm.trans h
    rw [nv_n c12]
    refine z_ifnull C dX8_traderReadsCorrected_12 ?_
    refine g_aload_n C dX8_traderReadsCorrected_15 rfl 0 rfl ?_
    obtain ⟨g6, h⟩ := of_guard h
    refine g_get (k := 23) (i := (v5 - 1)) (ref := "TradeLine$Execution") (v := .int (μ.1 23 (v5 - 1) 6)) C rfl (lvZ g6 rfl) rfl rfl inGX2 6 (by decide) gw_912 (fun _ h => h) rfl dX8_traderReadsCorrected_16 ?_
    refine g_if_eq (tgt := 32) C dX8_traderReadsCorrected_19 (by decide) (fun c19 => ?_) (fun c19 => ?_)
    · replace h := (if_pos c19).symm.trans h
      obtain rfl := Option.some.inj h
      exact g_vret C hr hz ⟨rfl, rfl, fun _ => rfl, fun _ => rfl⟩ rfl (fun j x h => by simp at h) dX8_traderReadsCorrected_32
    · replace h := (if_neg c19).symm.trans h
      refine g_aload_n C dX8_traderReadsCorrected_22 rfl 0 rfl ?_
      refine g_aload_n C dX8_traderReadsCorrected_23 rfl 2 rfl ?_
      refine g_bipush (v := (31 : Int32)) C dX8_traderReadsCorrected_24 (by decide) ?_
      obtain ⟨v7, hv7, h⟩ := bind_of h
      refine g_cVi (n := 1) (exc := []) (exr := []) C [_] _ rfl rfl [] [] rfl rfl rfl rfl (fun _ h => absurd h (by simp)) (fun _ h => absurd h (by simp)) (fun _ h => absurd h (by simp)) (fun sz => c_X3_valueOf l μ ν a Ad w (p1 - 1) (31 : Int32) _ hv7 D E sz) rfl gw_558 gw_18 gw_555 gw_556 gw_557 ⟨by decide +kernel, by decide +kernel, by decide +kernel⟩ ⟨rfl, rfl⟩ ⟨Nat.le_of_ble_eq_true rfl, Nat.le_of_ble_eq_true rfl⟩ (rcvT (lvZ g2 rfl) rfl rfl rfl) (Nat.le_of_ble_eq_true rfl) dX8_traderReadsCorrected_26 ⟨by decide, by decide⟩ (fun r u hp hx => ?_)
      obtain ⟨er, rfl⟩ := hp
      rw [er]
      try dsimp only [List.append_nil]
      refine z_put (k := 23) (i := (v5 - 1)) (ref := "TradeLine$Execution") C rfl g6 rfl rfl rfl inGX2 tyX2 tyX2_ok nmX2 7 (by decide) gw_914 (fun _ h => h) rfl (tyX2_ok 7 (by decide)) rfl rfl (by simp [fvs]) (by simp [fvs, up1]) dX8_traderReadsCorrected_29 (fun m8 em8 => ?_)
      replace h := yl_of h em8
      obtain rfl := Option.some.inj h
      exact g_vret C hr hz ⟨rfl, rfl, fun _ => rfl, fun _ => rfl⟩ rfl (fun j x h => by simp at h) dX8_traderReadsCorrected_32
theorem c_X8_traderReadsCorrected (l : Launch) (μ : MP) (ν : NC) (a : AS) (Ad : Nat → Nat → Nat) (w : Nat) (p1 : Nat) (r0 : MP × Int32) (h : f_X8_traderReadsCorrected w μ ν p1 = some r0) : ∀ D E sz, Met l yX8_traderReadsCorrected gwX8_traderReadsCorrected ({ frames := 4, cells := 0, slots := 0, locals := 102 } : Room) (cP D E sz (zS μ ν a Ad) [] [.ref (Ad 0 0), nv (Ad 6) p1]) (cQ D E sz (zS μ ν a Ad) [] (pV (fun u => u = (zS r0.1 ν a Ad, [])))) (0) (0) (Aof (zS μ ν a Ad) [] sz) := by
  intro D E sz
  refine g_of (cc := cX8_traderReadsCorrected) (maxL := 3) (ret := none) (own := "TradeLine") (by decide) rfl rfl (by cases p1 <;> exact Nat.le_of_ble_eq_true rfl) ?_
  intro p e s m args below meth c C hr hin hz ha hwr
  refine g_lv (lv' := [(0, .ref (Ad 0 0)), (1, nv (Ad 6) p1)]) [0, 1] (by cases p1 <;> rfl) ?_
  exact lb_X8_traderReadsCorrected_0 C hr hz h
noncomputable def b_X8_traderReadsFilled_81 (k11 : MP → Nat → Nat → Int32 → Int32 → Option (MP × Int32)) (w : Nat) (μ : MP) (ν : NC) (p1 : Nat) (p2 : Nat) (x3 : Int32) (x4 : Int32) : Option (MP × Int32) := yl (x4 + (1 : Int32)) (fun t15 => k11 μ p1 p2 x3 t15)
set_option maxHeartbeats 4000000 in
set_option maxRecDepth 100000 in
theorem lb_X8_traderReadsFilled_81 {p : Program} {l : Launch} {e : Env} {s : State} {m : MethodId} {args : Array Value} {below : List Frame} {meth : Method} {c : Code} {D : va_G} {E : Nat → ClassId} {sz : Nat} {μ0 : MP} {ν : NC} {a : AS} {Ad : Nat → Nat → Nat} {w : Nat} {r0 : MP × Int32} (C : cx p s m args meth c D E (Aof (zS μ0 ν a Ad) [] s.heap.size) cX8_traderReadsFilled 7 "TradeLine") (hr : meth.sig.returnType = none) (hz : s.heap.size = sz) {μ : MP} {p1 : Nat} {p2 : Nat} {x3 : Int32} {x4 : Int32} {k11 : MP → Nat → Nat → Int32 → Int32 → Option (MP × Int32)} (hk11 : ∀ (a1 : MP) (z1 : Nat) (z2 : Nat) (z3 : Int32) (z4 : Int32), k11 a1 z1 z2 z3 z4 = some r0 → G p l e ({ frames := 4, cells := 0, slots := 0, locals := 102 } : Room) s m args below meth c D E (Aof (zS μ0 ν a Ad) [] s.heap.size) 7 (MQ below (cQ D E sz (zS μ0 ν a Ad) [] (pV (fun u => u = (zS r0.1 ν a Ad, [])))) args s 0 0 (Aof (zS μ0 ν a Ad) [] s.heap.size)) (zS a1 ν a Ad) [] 0 0 11 [(0, .ref (Ad 0 0)), (1, nv (Ad 20) z1), (2, nv (Ad 6) z2), (3, .int z3), (4, .int z4)] []) (h : b_X8_traderReadsFilled_81 k11 w μ ν p1 p2 x3 x4 = some r0) : G p l e ({ frames := 4, cells := 0, slots := 0, locals := 102 } : Room) s m args below meth c D E (Aof (zS μ0 ν a Ad) [] s.heap.size) 7 (MQ below (cQ D E sz (zS μ0 ν a Ad) [] (pV (fun u => u = (zS r0.1 ν a Ad, [])))) args s 0 0 (Aof (zS μ0 ν a Ad) [] s.heap.size)) (zS μ ν a Ad) [] 0 0 81 [(0, .ref (Ad 0 0)), (1, nv (Ad 20) p1), (2, nv (Ad 6) p2), (3, .int x3), (4, .int x4)] [] := by
  unfold b_X8_traderReadsFilled_81 at h
  obtain ⟨t15, et15⟩ : ∃ y : Int32, x4 + (1 : Int32) = y := ⟨_, rfl⟩
  replace h := yl_of h et15
  refine g_iinc (v := t15) (lv' := [(4, .int t15), (0, .ref (Ad 0 0)), (1, nv (Ad 20) p1), (2, nv (Ad 6) p2), (3, .int x3)]) C dX8_traderReadsFilled_81 4 rfl (by rw [← et15]; rfl) (by decide) (by simp [nv_cat, cat_i, cat_r, cat_n]) ?_
  refine g_goto (tgt := 11) C dX8_traderReadsFilled_84 (by decide) ?_
  refine g_lv [1, 2, 3, 4, 0] rfl ?_
  exact hk11 _ _ _ _ _ h
noncomputable def b_X8_traderReadsFilled_11 (k11 : MP → Nat → Nat → Int32 → Int32 → Option (MP × Int32)) (w : Nat) (μ : MP) (ν : NC) (p1 : Nat) (p2 : Nat) (x3 : Int32) (x4 : Int32) : Option (MP × Int32) := (if x3 ≤ x4 then (some (μ, (0 : Int32))) else (yl (((5 : Int32) + ((4 : Int32) * x4))) (fun t4 => bif nzB p1 then bif ltB (p1 - 1) (ν.2 20) then bif ltB (2 * (p1 - 1)) (ν.2 21) then bif nzB p2 then bif ltB (p2 - 1) (ν.2 6) then (f_X3_valueOfPlace w μ ν (p2 - 1) (t4 + (3 : Int32))).bind (fun v10 => yl (uM μ 21 (2 * (p1 - 1)) 2 ((μ.1 21 (2 * (p1 - 1)) 2) + v10)) (fun m11 => (f_X3_valueOfPlace w m11 ν (p2 - 1) t4).bind (fun v12 => bif ltB 0 (ν.2 0) then (f_X8_findExecution w m11 ν v12).bind (fun v14 => (if v14 = 0 then (b_X8_traderReadsFilled_81 k11 w m11 ν ((p1 - 1) + 1) ((p2 - 1) + 1) x3 x4) else (bif ltB (v14 - 1) (ν.2 23) then yl (uM m11 23 (v14 - 1) 6 (1 : Int32)) (fun m17 => (f_X3_valueOfPlace w m17 ν (p2 - 1) (t4 + (2 : Int32))).bind (fun v18 => yl (uM m17 23 (v14 - 1) 7 v18) (fun m19 => b_X8_traderReadsFilled_81 k11 w m19 ν ((p1 - 1) + 1) ((p2 - 1) + 1) x3 x4))) else none))) else none))) else none else none else none else none else none)))
set_option maxHeartbeats 4000000 in
set_option maxRecDepth 100000 in
theorem lb_X8_traderReadsFilled_11 {p : Program} {l : Launch} {e : Env} {s : State} {m : MethodId} {args : Array Value} {below : List Frame} {meth : Method} {c : Code} {D : va_G} {E : Nat → ClassId} {sz : Nat} {μ0 : MP} {ν : NC} {a : AS} {Ad : Nat → Nat → Nat} {w : Nat} {r0 : MP × Int32} (C : cx p s m args meth c D E (Aof (zS μ0 ν a Ad) [] s.heap.size) cX8_traderReadsFilled 7 "TradeLine") (hr : meth.sig.returnType = none) (hz : s.heap.size = sz) {μ : MP} {p1 : Nat} {p2 : Nat} {x3 : Int32} {x4 : Int32} {k11 : MP → Nat → Nat → Int32 → Int32 → Option (MP × Int32)} (hk11 : ∀ (a1 : MP) (z1 : Nat) (z2 : Nat) (z3 : Int32) (z4 : Int32), k11 a1 z1 z2 z3 z4 = some r0 → G p l e ({ frames := 4, cells := 0, slots := 0, locals := 102 } : Room) s m args below meth c D E (Aof (zS μ0 ν a Ad) [] s.heap.size) 7 (MQ below (cQ D E sz (zS μ0 ν a Ad) [] (pV (fun u => u = (zS r0.1 ν a Ad, [])))) args s 0 0 (Aof (zS μ0 ν a Ad) [] s.heap.size)) (zS a1 ν a Ad) [] 0 0 11 [(0, .ref (Ad 0 0)), (1, nv (Ad 20) z1), (2, nv (Ad 6) z2), (3, .int z3), (4, .int z4)] []) (h : b_X8_traderReadsFilled_11 k11 w μ ν p1 p2 x3 x4 = some r0) : G p l e ({ frames := 4, cells := 0, slots := 0, locals := 102 } : Room) s m args below meth c D E (Aof (zS μ0 ν a Ad) [] s.heap.size) 7 (MQ below (cQ D E sz (zS μ0 ν a Ad) [] (pV (fun u => u = (zS r0.1 ν a Ad, [])))) args s 0 0 (Aof (zS μ0 ν a Ad) [] s.heap.size)) (zS μ ν a Ad) [] 0 0 11 [(0, .ref (Ad 0 0)), (1, nv (Ad 20) p1), (2, nv (Ad 6) p2), (3, .int x3), (4, .int x4)] [] := by
  unfold b_X8_traderReadsFilled_11 at h
  refine g_iload C dX8_traderReadsFilled_11 4 rfl ?_
  refine g_iload_n C dX8_traderReadsFilled_13 rfl 3 rfl ?_
  refine g_icmp_ge (tgt := 87) C dX8_traderReadsFilled_14 (by decide) (fun c14 => ?_) (fun c14 => ?_)
  · replace h := (if_pos c14).symm.trans h
    obtain rfl := Option.some.inj h
    exact g_vret C hr hz ⟨rfl, rfl, fun _ => rfl, fun _ => rfl⟩ rfl (fun j x h => by simp at h) dX8_traderReadsFilled_87
  · replace h := (if_neg c14).symm.trans h
    refine g_iconst (v := (5 : Int32)) C dX8_traderReadsFilled_17 (by decide) ?_
    refine g_iconst (v := (4 : Int32)) C dX8_traderReadsFilled_18 (by decide) ?_
    refine g_iload C dX8_traderReadsFilled_19 4 rfl ?_
    refine g_imul C dX8_traderReadsFilled_21 ?_
    refine g_iadd C dX8_traderReadsFilled_22 ?_
    refine q_topi (fun t4 et4 => ?_)
    replace h := yl_of h et4
    refine g_istore (lv' := [(5, .int t4), (0, .ref (Ad 0 0)), (1, nv (Ad 20) p1), (2, nv (Ad 6) p2), (3, .int x3), (4, .int x4)]) C dX8_traderReadsFilled_23 (by decide) (by simp [nv_cat, cat_i, cat_r, cat_n]) ?_
    refine z_aload_n C dX8_traderReadsFilled_25 rfl 2 rfl (nv_or _ _) ?_
    obtain ⟨g5, h⟩ := of_guard h
    rw [nzB_e g5]
    obtain ⟨g6, h⟩ := of_guard h
    refine g_get (k := 20) (i := (p1 - 1)) (ref := "TradeLine$Order") (v := .ref (Ad 21 (2 * (p1 - 1)))) C rfl (lvZ g6 rfl) rfl rfl inGX4 2 (by decide) gw_1114 (fun _ h => h) rfl dX8_traderReadsFilled_26 ?_
    refine g_dup C dX8_traderReadsFilled_29 rfl ?_
    obtain ⟨g7, h⟩ := of_guard h
    refine g_get (k := 21) (i := (2 * (p1 - 1))) (ref := "TradeLine$Book") (v := .int (μ.1 21 (2 * (p1 - 1)) 2)) C rfl (lvZ g7 rfl) rfl rfl inGX1 2 (by decide) gw_1096 (fun _ h => h) rfl dX8_traderReadsFilled_30 ?_
    refine z_aload_n C dX8_traderReadsFilled_33 rfl 3 rfl (nv_or _ _) ?_
    refine g_iload C dX8_traderReadsFilled_34 0 rfl ?_
    refine g_iconst (v := (3 : Int32)) C dX8_traderReadsFilled_36 (by decide) ?_
    refine g_iadd C dX8_traderReadsFilled_37 ?_
    obtain ⟨g8, h⟩ := of_guard h
    rw [nzB_e g8]
    obtain ⟨g9, h⟩ := of_guard h
    obtain ⟨v10, hv10, h⟩ := bind_of h
    refine g_cVi (n := 1) (exc := []) (exr := []) C [_] _ rfl rfl [] [] rfl rfl rfl rfl (fun _ h => absurd h (by simp)) (fun _ h => absurd h (by simp)) (fun _ h => absurd h (by simp)) (fun sz => c_X3_valueOfPlace l μ ν a Ad w (p2 - 1) (t4 + (3 : Int32)) _ hv10 D E sz) rfl gw_960 gw_18 gw_957 gw_958 gw_959 ⟨by decide +kernel, by decide +kernel, by decide +kernel⟩ ⟨rfl, rfl⟩ ⟨Nat.le_of_ble_eq_true rfl, Nat.le_of_ble_eq_true rfl⟩ (rcvT (lvZ g9 rfl) rfl rfl rfl) (Nat.le_of_ble_eq_true rfl) dX8_traderReadsFilled_38 ⟨by decide, by decide⟩ (fun r u hp hx => ?_)
    obtain ⟨er, rfl⟩ := hp
    rw [er]
    try dsimp only [List.append_nil]
    refine g_iadd C dX8_traderReadsFilled_41 ?_
    refine z_put (k := 21) (i := (2 * (p1 - 1))) (ref := "TradeLine$Book") C rfl g7 rfl rfl rfl inGX1 tyX1 tyX1_ok nmX1 2 (by decide) gw_1096 (fun _ h => h) rfl (tyX1_ok 2 (by decide)) rfl rfl (by simp [fvs]) (by simp [fvs, up1]) dX8_traderReadsFilled_42 (fun m11 em11 => ?_)
    replace h := yl_of h em11
    refine g_aload_n C dX8_traderReadsFilled_45 rfl 1 rfl ?_
    refine g_aload_n C dX8_traderReadsFilled_46 rfl 3 rfl ?_
    refine g_iload C dX8_traderReadsFilled_47 0 rfl ?_
    obtain ⟨v12, hv12, h⟩ := bind_of h
    refine g_cVi (n := 1) (exc := []) (exr := []) C [_] _ rfl rfl [] [] rfl rfl rfl rfl (fun _ h => absurd h (by simp)) (fun _ h => absurd h (by simp)) (fun _ h => absurd h (by simp)) (fun sz => c_X3_valueOfPlace l m11 ν a Ad w (p2 - 1) t4 _ hv12 D E sz) rfl gw_960 gw_18 gw_957 gw_958 gw_959 ⟨by decide +kernel, by decide +kernel, by decide +kernel⟩ ⟨rfl, rfl⟩ ⟨Nat.le_of_ble_eq_true rfl, Nat.le_of_ble_eq_true rfl⟩ (rcvT (lvZ g9 rfl) rfl rfl rfl) (Nat.le_of_ble_eq_true rfl) dX8_traderReadsFilled_49 ⟨by decide, by decide⟩ (fun r u hp hx => ?_)
    obtain ⟨er, rfl⟩ := hp
    rw [er]
    try dsimp only [List.append_nil]
    obtain ⟨g13, h⟩ := of_guard h
    obtain ⟨v14, hv14, h⟩ := bind_of h
    refine g_cVq (n := 1) (exc := []) (exr := []) C [_] _ rfl rfl [] [] rfl rfl rfl rfl (fun _ h => absurd h (by simp)) (fun _ h => absurd h (by simp)) (fun _ h => absurd h (by simp)) (fun sz => c_X8_findExecution l m11 ν a Ad w v12 _ hv14 D E sz) rfl gw_968 gw_1 gw_965 gw_967 gs_32 ⟨by decide +kernel, by decide +kernel, by decide +kernel⟩ ⟨rfl, rfl⟩ ⟨Nat.le_of_ble_eq_true rfl, Nat.le_of_ble_eq_true rfl⟩ (rcvT (lvZ g13 rfl) rfl rfl rfl) (Nat.le_of_ble_eq_true rfl) dX8_traderReadsFilled_52 ⟨by decide, by decide⟩ (fun r u hp hx => ?_)
    obtain ⟨er, rfl⟩ := hp
    rw [er]
    try dsimp only [List.append_nil]
    refine z_astore (lv' := [(6, nv (Ad 23) v14), (5, .int t4), (0, .ref (Ad 0 0)), (1, .ref (Ad 20 (p1 - 1))), (2, .ref (Ad 6 (p2 - 1))), (3, .int x3), (4, .int x4)]) C dX8_traderReadsFilled_55 (nv_or _ _) (by decide) (by simp [nv_cat, cat_i, cat_r, cat_n]) ?_
    refine z_aload C dX8_traderReadsFilled_57 0 rfl (nv_or _ _) ?_
    by_cases c59 : v14 = 0
    · replace h := (if_pos c59).symm.trans h
      rw [nv_z c59]
      refine z_ifnullN (tgt := 81) C dX8_traderReadsFilled_59 (by decide) ?_
      refine g_lv [2, 3, 4, 5, 6] rfl ?_
      exact lb_X8_traderReadsFilled_81 C hr hz hk11 h
    · replace h := (if_neg c59).symm.trans h
      rw [nv_n c59]
      refine z_ifnull C dX8_traderReadsFilled_59 ?_
      refine g_aload C dX8_traderReadsFilled_62 0 rfl ?_
      refine g_iconst (v := (1 : Int32)) C dX8_traderReadsFilled_64 (by decide) ?_
      obtain ⟨g16, h⟩ := of_guard h
      refine z_put (k := 23) (i := (v14 - 1)) (ref := "TradeLine$Execution") C rfl g16 rfl rfl rfl inGX2 tyX2 tyX2_ok nmX2 6 (by decide) gw_912 (fun _ h => h) rfl (tyX2_ok 6 (by decide)) rfl rfl (by simp [fvs]) (by simp [fvs, up1]) dX8_traderReadsFilled_65 (fun m17 em17 => ?_)
      replace h := yl_of h em17
      refine g_aload C dX8_traderReadsFilled_68 0 rfl ?_
      refine g_aload_n C dX8_traderReadsFilled_70 rfl 4 rfl ?_
      refine g_iload C dX8_traderReadsFilled_71 1 rfl ?_
      refine g_iconst (v := (2 : Int32)) C dX8_traderReadsFilled_73 (by decide) ?_
      refine g_iadd C dX8_traderReadsFilled_74 ?_
      obtain ⟨v18, hv18, h⟩ := bind_of h
      refine g_cVi (n := 1) (exc := []) (exr := []) C [_] _ rfl rfl [] [] rfl rfl rfl rfl (fun _ h => absurd h (by simp)) (fun _ h => absurd h (by simp)) (fun _ h => absurd h (by simp)) (fun sz => c_X3_valueOfPlace l m17 ν a Ad w (p2 - 1) (t4 + (2 : Int32)) _ hv18 D E sz) rfl gw_960 gw_18 gw_957 gw_958 gw_959 ⟨by decide +kernel, by decide +kernel, by decide +kernel⟩ ⟨rfl, rfl⟩ ⟨Nat.le_of_ble_eq_true rfl, Nat.le_of_ble_eq_true rfl⟩ (rcvT (lvZ g9 rfl) rfl rfl rfl) (Nat.le_of_ble_eq_true rfl) dX8_traderReadsFilled_75 ⟨by decide, by decide⟩ (fun r u hp hx => ?_)
      obtain ⟨er, rfl⟩ := hp
      rw [er]
      try dsimp only [List.append_nil]
      refine z_put (k := 23) (i := (v14 - 1)) (ref := "TradeLine$Execution") C rfl g16 rfl rfl rfl inGX2 tyX2 tyX2_ok nmX2 7 (by decide) gw_914 (fun _ h => h) rfl (tyX2_ok 7 (by decide)) rfl rfl (by simp [fvs]) (by simp [fvs, up1]) dX8_traderReadsFilled_78 (fun m19 em19 => ?_)
      replace h := yl_of h em19
      refine g_lv [2, 3, 4, 5, 6] rfl ?_
      exact lb_X8_traderReadsFilled_81 C hr hz hk11 h
noncomputable def l_X8_traderReadsFilled_11  (w : Nat) (ν : NC) : Nat → MP → Nat → Nat → Int32 → Int32 → Option (MP × Int32)
  | 0 => fun _ _ _ _ _ => none
  | n + 1 => fun μ p1 p2 x3 x4 => b_X8_traderReadsFilled_11  (l_X8_traderReadsFilled_11  w ν n) w μ ν p1 p2 x3 x4
theorem ll_X8_traderReadsFilled_11 {p : Program} {l : Launch} {e : Env} {s : State} {m : MethodId} {args : Array Value} {below : List Frame} {meth : Method} {c : Code} {D : va_G} {E : Nat → ClassId} {sz : Nat} {μ0 : MP} {ν : NC} {a : AS} {Ad : Nat → Nat → Nat} {w : Nat} {r0 : MP × Int32} (C : cx p s m args meth c D E (Aof (zS μ0 ν a Ad) [] s.heap.size) cX8_traderReadsFilled 7 "TradeLine") (hr : meth.sig.returnType = none) (hz : s.heap.size = sz)   : ∀ (n : Nat) (μ : MP) (p1 : Nat) (p2 : Nat) (x3 : Int32) (x4 : Int32), l_X8_traderReadsFilled_11  w ν n μ p1 p2 x3 x4 = some r0 → G p l e ({ frames := 4, cells := 0, slots := 0, locals := 102 } : Room) s m args below meth c D E (Aof (zS μ0 ν a Ad) [] s.heap.size) 7 (MQ below (cQ D E sz (zS μ0 ν a Ad) [] (pV (fun u => u = (zS r0.1 ν a Ad, [])))) args s 0 0 (Aof (zS μ0 ν a Ad) [] s.heap.size)) (zS μ ν a Ad) [] 0 0 11 [(0, .ref (Ad 0 0)), (1, nv (Ad 20) p1), (2, nv (Ad 6) p2), (3, .int x3), (4, .int x4)] [] := by
  intro n
  induction n with
  | zero => exact fun μ p1 p2 x3 x4 h => absurd (show (none : Option (MP × Int32)) = some r0 from h) (by simp)
  | succ n ih => exact fun μ p1 p2 x3 x4 h => lb_X8_traderReadsFilled_11 (w := w) C hr hz  ih h
noncomputable def f_X8_traderReadsFilled  (w : Nat) (μ : MP) (ν : NC) (p1 : Nat) (p2 : Nat) : Option (MP × Int32) := bif nzB p2 then bif ltB (p2 - 1) (ν.2 6) then (f_X3_valueOf w μ ν (p2 - 1) (382 : Int32)).bind (fun v3 => l_X8_traderReadsFilled_11  w ν w μ p1 ((p2 - 1) + 1) v3 (0 : Int32)) else none else none
set_option maxHeartbeats 4000000 in
set_option maxRecDepth 100000 in
theorem lb_X8_traderReadsFilled_0 {p : Program} {l : Launch} {e : Env} {s : State} {m : MethodId} {args : Array Value} {below : List Frame} {meth : Method} {c : Code} {D : va_G} {E : Nat → ClassId} {sz : Nat} {μ0 : MP} {ν : NC} {a : AS} {Ad : Nat → Nat → Nat} {w : Nat} {r0 : MP × Int32} (C : cx p s m args meth c D E (Aof (zS μ0 ν a Ad) [] s.heap.size) cX8_traderReadsFilled 7 "TradeLine") (hr : meth.sig.returnType = none) (hz : s.heap.size = sz) {μ : MP} {p1 : Nat} {p2 : Nat}   (h : f_X8_traderReadsFilled  w μ ν p1 p2 = some r0) : G p l e ({ frames := 4, cells := 0, slots := 0, locals := 102 } : Room) s m args below meth c D E (Aof (zS μ0 ν a Ad) [] s.heap.size) 7 (MQ below (cQ D E sz (zS μ0 ν a Ad) [] (pV (fun u => u = (zS r0.1 ν a Ad, [])))) args s 0 0 (Aof (zS μ0 ν a Ad) [] s.heap.size)) (zS μ ν a Ad) [] 0 0 0 [(0, .ref (Ad 0 0)), (1, nv (Ad 20) p1), (2, nv (Ad 6) p2)] [] := by
  unfold f_X8_traderReadsFilled at h
  refine z_aload_n C dX8_traderReadsFilled_0 rfl 2 rfl (nv_or _ _) ?_
  refine g_sipush (v := (382 : Int32)) C dX8_traderReadsFilled_1 (by decide) ?_
  obtain ⟨g1, h⟩ := of_guard h
  rw [nzB_e g1]
  obtain ⟨g2, h⟩ := of_guard h
  obtain ⟨v3, hv3, h⟩ := bind_of h
  refine g_cVi (n := 1) (exc := []) (exr := []) C [_] _ rfl rfl [] [] rfl rfl rfl rfl (fun _ h => absurd h (by simp)) (fun _ h => absurd h (by simp)) (fun _ h => absurd h (by simp)) (fun sz => c_X3_valueOf l μ ν a Ad w (p2 - 1) (382 : Int32) _ hv3 D E sz) rfl gw_558 gw_18 gw_555 gw_556 gw_557 ⟨by decide +kernel, by decide +kernel, by decide +kernel⟩ ⟨rfl, rfl⟩ ⟨Nat.le_of_ble_eq_true rfl, Nat.le_of_ble_eq_true rfl⟩ (rcvT (lvZ g2 rfl) rfl rfl rfl) (Nat.le_of_ble_eq_true rfl) dX8_traderReadsFilled_4 ⟨by decide, by decide⟩ (fun r u hp hx => ?_)
  obtain ⟨er, rfl⟩ := hp
  rw [er]
  try dsimp only [List.append_nil]
  refine g_istore_n (i := 3) (lv' := [(3, .int v3), (0, .ref (Ad 0 0)), (1, nv (Ad 20) p1), (2, .ref (Ad 6 (p2 - 1)))]) C dX8_traderReadsFilled_7 rfl (by decide) (by simp [nv_cat, cat_i, cat_r, cat_n]) ?_
  refine g_iconst (v := (0 : Int32)) C dX8_traderReadsFilled_8 (by decide) ?_
  refine g_istore (lv' := [(4, .int (0 : Int32)), (3, .int v3), (0, .ref (Ad 0 0)), (1, nv (Ad 20) p1), (2, .ref (Ad 6 (p2 - 1)))]) C dX8_traderReadsFilled_9 (by decide) (by simp [nv_cat, cat_i, cat_r, cat_n]) ?_
  refine g_lv [2, 3, 4, 1, 0] rfl ?_
  exact ll_X8_traderReadsFilled_11 C hr hz  w _ _ _ _ _ h
theorem c_X8_traderReadsFilled (l : Launch) (μ : MP) (ν : NC) (a : AS) (Ad : Nat → Nat → Nat) (w : Nat) (p1 : Nat) (p2 : Nat) (r0 : MP × Int32) (h : f_X8_traderReadsFilled w μ ν p1 p2 = some r0) : ∀ D E sz, Met l yX8_traderReadsFilled gwX8_traderReadsFilled ({ frames := 4, cells := 0, slots := 0, locals := 102 } : Room) (cP D E sz (zS μ ν a Ad) [] [.ref (Ad 0 0), nv (Ad 20) p1, nv (Ad 6) p2]) (cQ D E sz (zS μ ν a Ad) [] (pV (fun u => u = (zS r0.1 ν a Ad, [])))) (0) (0) (Aof (zS μ ν a Ad) [] sz) := by
  intro D E sz
  refine g_of (cc := cX8_traderReadsFilled) (maxL := 7) (ret := none) (own := "TradeLine") (by decide) rfl rfl (by cases p1 <;> cases p2 <;> exact Nat.le_of_ble_eq_true rfl) ?_
  intro p e s m args below meth c C hr hin hz ha hwr
  refine g_lv (lv' := [(0, .ref (Ad 0 0)), (1, nv (Ad 20) p1), (2, nv (Ad 6) p2)]) [0, 1, 2] (by cases p1 <;> cases p2 <;> rfl) ?_
  exact lb_X8_traderReadsFilled_0 C hr hz h
noncomputable def f_X8_traderReads  (w : Nat) (μ : MP) (ν : NC) (p1 : Nat) : Option (MP × Int32) := bif nzB p1 then bif ltB (p1 - 1) (ν.2 6) then (f_X3_valueOf w μ ν (p1 - 1) (37 : Int32)).bind (fun v3 => bif ltB 0 (ν.2 0) then (f_X8_findOrder w μ ν v3).bind (fun v5 => (if v5 = 0 then (some (μ, (0 : Int32))) else ((f_X3_valueOf w μ ν (p1 - 1) (150 : Int32)).bind (fun v6 => (if v6 = (0 : Int32) then (bif ltB (v5 - 1) (ν.2 20) then yl (uM μ 20 (v5 - 1) 4 (1 : Int32)) (fun m8 => some (m8, (0 : Int32))) else none) else (if v6 = (1 : Int32) then ((f_X8_traderReadsFilled w μ ν ((v5 - 1) + 1) ((p1 - 1) + 1)).bind (fun v9 => some (v9.1, (0 : Int32)))) else (if v6 = (2 : Int32) then (bif ltB (v5 - 1) (ν.2 20) then bif ltB (2 * (v5 - 1)) (ν.2 21) then (f_X3_valueOf w μ ν (p1 - 1) (32 : Int32)).bind (fun v12 => yl (uM μ 21 (2 * (v5 - 1)) 3 ((μ.1 21 (2 * (v5 - 1)) 3) + v12)) (fun m13 => (f_X4_endRequest w m13 ν (v5 - 1) ).bind (fun v14 => some (v14.1, (0 : Int32))))) else none else none) else (if v6 = (3 : Int32) then (bif ltB (v5 - 1) (ν.2 20) then (f_X3_valueOf w μ ν (p1 - 1) (44 : Int32)).bind (fun v16 => bif ltB (2 * (v5 - 1)) (ν.2 21) then yl (uM μ 21 (2 * (v5 - 1)) 0 v16) (fun m18 => (f_X3_valueOf w m18 ν (p1 - 1) (38 : Int32)).bind (fun v19 => yl (uM m18 21 (2 * (v5 - 1)) 1 v19) (fun m20 => (f_X4_endRequest w m20 ν (v5 - 1) ).bind (fun v21 => some (v21.1, (0 : Int32)))))) else none) else none) else (if v6 = (4 : Int32) then (bif ltB (v5 - 1) (ν.2 20) then (f_X4_endRequest w μ ν (v5 - 1) ).bind (fun v23 => some (v23.1, (0 : Int32))) else none) else (if v6 = (5 : Int32) then ((f_X3_valueOf w μ ν (p1 - 1) (17 : Int32)).bind (fun v24 => (f_X8_findExecution w μ ν v24).bind (fun v25 => (f_X8_traderReadsBusted w μ ν ((v5 - 1) + 1) v25).bind (fun v26 => some (v26.1, (0 : Int32)))))) else (if v6 = (6 : Int32) then ((f_X8_traderReadsCorrected w μ ν ((p1 - 1) + 1)).bind (fun v27 => some (v27.1, (0 : Int32)))) else some (μ, (0 : Int32))))))))))))) else none) else none else none
set_option maxHeartbeats 4000000 in
set_option maxRecDepth 100000 in
theorem lb_X8_traderReads_0 {p : Program} {l : Launch} {e : Env} {s : State} {m : MethodId} {args : Array Value} {below : List Frame} {meth : Method} {c : Code} {D : va_G} {E : Nat → ClassId} {sz : Nat} {μ0 : MP} {ν : NC} {a : AS} {Ad : Nat → Nat → Nat} {w : Nat} {r0 : MP × Int32} (C : cx p s m args meth c D E (Aof (zS μ0 ν a Ad) [] s.heap.size) cX8_traderReads 3 "TradeLine") (hr : meth.sig.returnType = none) (hz : s.heap.size = sz) {μ : MP} {p1 : Nat}   (h : f_X8_traderReads  w μ ν p1 = some r0) : G p l e ({ frames := 5, cells := 0, slots := 0, locals := 128 } : Room) s m args below meth c D E (Aof (zS μ0 ν a Ad) [] s.heap.size) 3 (MQ below (cQ D E sz (zS μ0 ν a Ad) [] (pV (fun u => u = (zS r0.1 ν a Ad, [])))) args s 0 0 (Aof (zS μ0 ν a Ad) [] s.heap.size)) (zS μ ν a Ad) [] 0 0 0 [(0, .ref (Ad 0 0)), (1, nv (Ad 6) p1)] [] := by
  unfold f_X8_traderReads at h
  refine g_aload_n C dX8_traderReads_0 rfl 0 rfl ?_
  refine z_aload_n C dX8_traderReads_1 rfl 1 rfl (nv_or _ _) ?_
  refine g_bipush (v := (37 : Int32)) C dX8_traderReads_2 (by decide) ?_
  obtain ⟨g1, h⟩ := of_guard h
  rw [nzB_e g1]
  obtain ⟨g2, h⟩ := of_guard h
  obtain ⟨v3, hv3, h⟩ := bind_of h
  refine g_cVi (n := 1) (exc := []) (exr := []) C [_] _ rfl rfl [] [] rfl rfl rfl rfl (fun _ h => absurd h (by simp)) (fun _ h => absurd h (by simp)) (fun _ h => absurd h (by simp)) (fun sz => c_X3_valueOf l μ ν a Ad w (p1 - 1) (37 : Int32) _ hv3 D E sz) rfl gw_558 gw_18 gw_555 gw_556 gw_557 ⟨by decide +kernel, by decide +kernel, by decide +kernel⟩ ⟨rfl, rfl⟩ ⟨Nat.le_of_ble_eq_true rfl, Nat.le_of_ble_eq_true rfl⟩ (rcvT (lvZ g2 rfl) rfl rfl rfl) (Nat.le_of_ble_eq_true rfl) dX8_traderReads_4 ⟨by decide, by decide⟩ (fun r u hp hx => ?_)
  obtain ⟨er, rfl⟩ := hp
  rw [er]
  try dsimp only [List.append_nil]
  obtain ⟨g4, h⟩ := of_guard h
  obtain ⟨v5, hv5, h⟩ := bind_of h
  refine g_cVq (n := 1) (exc := []) (exr := []) C [_] _ rfl rfl [] [] rfl rfl rfl rfl (fun _ h => absurd h (by simp)) (fun _ h => absurd h (by simp)) (fun _ h => absurd h (by simp)) (fun sz => c_X8_findOrder l μ ν a Ad w v3 _ hv5 D E sz) rfl gw_575 gw_1 gw_572 gw_574 gs_13 ⟨by decide +kernel, by decide +kernel, by decide +kernel⟩ ⟨rfl, rfl⟩ ⟨Nat.le_of_ble_eq_true rfl, Nat.le_of_ble_eq_true rfl⟩ (rcvT (lvZ g4 rfl) rfl rfl rfl) (Nat.le_of_ble_eq_true rfl) dX8_traderReads_7 ⟨by decide, by decide⟩ (fun r u hp hx => ?_)
  obtain ⟨er, rfl⟩ := hp
  rw [er]
  try dsimp only [List.append_nil]
  refine z_astore_n (i := 2) (lv' := [(2, nv (Ad 20) v5), (0, .ref (Ad 0 0)), (1, .ref (Ad 6 (p1 - 1)))]) C dX8_traderReads_10 (nv_or _ _) rfl (by decide) (by simp [nv_cat, cat_i, cat_r, cat_n]) ?_
  refine z_aload_n C dX8_traderReads_11 rfl 0 rfl (nv_or _ _) ?_
  by_cases c12 : v5 = 0
  · replace h := (if_pos c12).symm.trans h
    rw [nv_z c12]
    refine z_ifnonnullN C dX8_traderReads_12 ?_
    obtain rfl := Option.some.inj h
    exact g_vret C hr hz ⟨rfl, rfl, fun _ => rfl, fun _ => rfl⟩ rfl (fun j x h => by simp at h) dX8_traderReads_15
  · replace h := (if_neg c12).symm.trans h
    rw [nv_n c12]
    refine z_ifnonnull (tgt := 16) C dX8_traderReads_12 (by decide) ?_
    refine g_aload_n C dX8_traderReads_16 rfl 2 rfl ?_
    refine g_sipush (v := (150 : Int32)) C dX8_traderReads_17 (by decide) ?_
    obtain ⟨v6, hv6, h⟩ := bind_of h
    refine g_cVi (n := 1) (exc := []) (exr := []) C [_] _ rfl rfl [] [] rfl rfl rfl rfl (fun _ h => absurd h (by simp)) (fun _ h => absurd h (by simp)) (fun _ h => absurd h (by simp)) (fun sz => c_X3_valueOf l μ ν a Ad w (p1 - 1) (150 : Int32) _ hv6 D E sz) rfl gw_558 gw_18 gw_555 gw_556 gw_557 ⟨by decide +kernel, by decide +kernel, by decide +kernel⟩ ⟨rfl, rfl⟩ ⟨Nat.le_of_ble_eq_true rfl, Nat.le_of_ble_eq_true rfl⟩ (rcvT (lvZ g2 rfl) rfl rfl rfl) (Nat.le_of_ble_eq_true rfl) dX8_traderReads_20 ⟨by decide, by decide⟩ (fun r u hp hx => ?_)
    obtain ⟨er, rfl⟩ := hp
    rw [er]
    try dsimp only [List.append_nil]
    by_cases w23_0 : v6 = (0 : Int32)
    · replace h := (if_pos w23_0).symm.trans h
      refine g_tswI (v := (0 : Int32)) (off := 41) (tgt := 64) C dX8_traderReads_23 w23_0 (by decide) (by decide) (by decide) ?_
      refine g_aload_n C dX8_traderReads_64 rfl 0 rfl ?_
      refine g_iconst (v := (1 : Int32)) C dX8_traderReads_65 (by decide) ?_
      obtain ⟨g7, h⟩ := of_guard h
      refine z_put (k := 20) (i := (v5 - 1)) (ref := "TradeLine$Order") C rfl g7 rfl rfl rfl inGX4 tyX4 tyX4_ok nmX4 4 (by decide) gw_1118 (fun _ h => h) rfl (tyX4_ok 4 (by decide)) rfl rfl (by simp [fvs]) (by simp [fvs, up1]) dX8_traderReads_66 (fun m8 em8 => ?_)
      replace h := yl_of h em8
      refine g_goto (tgt := 171) C dX8_traderReads_69 (by decide) ?_
      obtain rfl := Option.some.inj h
      exact g_vret C hr hz ⟨rfl, rfl, fun _ => rfl, fun _ => rfl⟩ rfl (fun j x h => by simp at h) dX8_traderReads_171
    replace h := (if_neg w23_0).symm.trans h
    by_cases w23_1 : v6 = (1 : Int32)
    · replace h := (if_pos w23_1).symm.trans h
      refine g_tswI (v := (1 : Int32)) (off := 49) (tgt := 72) C dX8_traderReads_23 w23_1 (by decide) (by decide) (by decide) ?_
      refine g_aload_n C dX8_traderReads_72 rfl 1 rfl ?_
      refine g_aload_n C dX8_traderReads_73 rfl 0 rfl ?_
      refine g_aload_n C dX8_traderReads_74 rfl 2 rfl ?_
      obtain ⟨v9, hv9, h⟩ := bind_of h
      refine g_cVv (n := 2) (exc := []) (exr := []) C [_, _] _ rfl rfl [] [] rfl rfl rfl rfl (fun _ h => absurd h (by simp)) (fun _ h => absurd h (by simp)) (fun _ h => absurd h (by simp)) (fun sz => c_X8_traderReadsFilled l μ ν a Ad w ((v5 - 1) + 1) ((p1 - 1) + 1) _ hv9 D E sz) rfl gw_956 gw_1 gw_953 gw_955 gs_31 ⟨by decide +kernel, by decide +kernel, by decide +kernel⟩ ⟨rfl, rfl⟩ ⟨Nat.le_of_ble_eq_true rfl, Nat.le_of_ble_eq_true rfl⟩ (rcvT (lvZ g4 rfl) rfl rfl rfl) (Nat.le_of_ble_eq_true rfl) dX8_traderReads_75 ⟨by decide, by decide⟩ (fun u hp hx => ?_)
      obtain rfl := hp
      try dsimp only [List.append_nil]
      refine g_goto (tgt := 171) C dX8_traderReads_78 (by decide) ?_
      obtain rfl := Option.some.inj h
      exact g_vret C hr hz ⟨rfl, rfl, fun _ => rfl, fun _ => rfl⟩ rfl (fun j x h => by simp at h) dX8_traderReads_171
    replace h := (if_neg w23_1).symm.trans h
    by_cases w23_2 : v6 = (2 : Int32)
    · replace h := (if_pos w23_2).symm.trans h
      refine g_tswI (v := (2 : Int32)) (off := 58) (tgt := 81) C dX8_traderReads_23 w23_2 (by decide) (by decide) (by decide) ?_
      refine g_aload_n C dX8_traderReads_81 rfl 0 rfl ?_
      obtain ⟨g10, h⟩ := of_guard h
      refine g_get (k := 20) (i := (v5 - 1)) (ref := "TradeLine$Order") (v := .ref (Ad 21 (2 * (v5 - 1)))) C rfl (lvZ g10 rfl) rfl rfl inGX4 2 (by decide) gw_1114 (fun _ h => h) rfl dX8_traderReads_82 ?_
      refine g_dup C dX8_traderReads_85 rfl ?_
      obtain ⟨g11, h⟩ := of_guard h
      refine g_get (k := 21) (i := (2 * (v5 - 1))) (ref := "TradeLine$Book") (v := .int (μ.1 21 (2 * (v5 - 1)) 3)) C rfl (lvZ g11 rfl) rfl rfl inGX1 3 (by decide) gw_1099 (fun _ h => h) rfl dX8_traderReads_86 ?_
      refine g_aload_n C dX8_traderReads_89 rfl 2 rfl ?_
      refine g_bipush (v := (32 : Int32)) C dX8_traderReads_90 (by decide) ?_
      obtain ⟨v12, hv12, h⟩ := bind_of h
      refine g_cVi (n := 1) (exc := []) (exr := []) C [_] _ rfl rfl [] [] rfl rfl rfl rfl (fun _ h => absurd h (by simp)) (fun _ h => absurd h (by simp)) (fun _ h => absurd h (by simp)) (fun sz => c_X3_valueOf l μ ν a Ad w (p1 - 1) (32 : Int32) _ hv12 D E sz) rfl gw_558 gw_18 gw_555 gw_556 gw_557 ⟨by decide +kernel, by decide +kernel, by decide +kernel⟩ ⟨rfl, rfl⟩ ⟨Nat.le_of_ble_eq_true rfl, Nat.le_of_ble_eq_true rfl⟩ (rcvT (lvZ g2 rfl) rfl rfl rfl) (Nat.le_of_ble_eq_true rfl) dX8_traderReads_92 ⟨by decide, by decide⟩ (fun r u hp hx => ?_)
      obtain ⟨er, rfl⟩ := hp
      rw [er]
      try dsimp only [List.append_nil]
      refine g_iadd C dX8_traderReads_95 ?_
      refine z_put (k := 21) (i := (2 * (v5 - 1))) (ref := "TradeLine$Book") C rfl g11 rfl rfl rfl inGX1 tyX1 tyX1_ok nmX1 3 (by decide) gw_1099 (fun _ h => h) rfl (tyX1_ok 3 (by decide)) rfl rfl (by simp [fvs]) (by simp [fvs, up1]) dX8_traderReads_96 (fun m13 em13 => ?_)
      replace h := yl_of h em13
      refine g_aload_n C dX8_traderReads_99 rfl 0 rfl ?_
      obtain ⟨v14, hv14, h⟩ := bind_of h
      refine g_cVv (n := 0) (exc := []) (exr := []) C [] _ rfl rfl [] [] rfl rfl rfl rfl (fun _ h => absurd h (by simp)) (fun _ h => absurd h (by simp)) (fun _ h => absurd h (by simp)) (fun sz => c_X4_endRequest l m13 ν a Ad w (v5 - 1)  _ hv14 D E sz) rfl gw_972 gw_30 gw_969 gw_970 gw_971 ⟨by decide +kernel, by decide +kernel, by decide +kernel⟩ ⟨rfl, rfl⟩ ⟨Nat.le_of_ble_eq_true rfl, Nat.le_of_ble_eq_true rfl⟩ (rcvT (lvZ g10 rfl) rfl rfl rfl) (Nat.le_of_ble_eq_true rfl) dX8_traderReads_100 ⟨by decide, by decide⟩ (fun u hp hx => ?_)
      obtain rfl := hp
      try dsimp only [List.append_nil]
      refine g_goto (tgt := 171) C dX8_traderReads_103 (by decide) ?_
      obtain rfl := Option.some.inj h
      exact g_vret C hr hz ⟨rfl, rfl, fun _ => rfl, fun _ => rfl⟩ rfl (fun j x h => by simp at h) dX8_traderReads_171
    replace h := (if_neg w23_2).symm.trans h
    by_cases w23_3 : v6 = (3 : Int32)
    · replace h := (if_pos w23_3).symm.trans h
      refine g_tswI (v := (3 : Int32)) (off := 83) (tgt := 106) C dX8_traderReads_23 w23_3 (by decide) (by decide) (by decide) ?_
      refine g_aload_n C dX8_traderReads_106 rfl 0 rfl ?_
      obtain ⟨g15, h⟩ := of_guard h
      refine g_get (k := 20) (i := (v5 - 1)) (ref := "TradeLine$Order") (v := .ref (Ad 21 (2 * (v5 - 1)))) C rfl (lvZ g15 rfl) rfl rfl inGX4 2 (by decide) gw_1114 (fun _ h => h) rfl dX8_traderReads_107 ?_
      refine g_aload_n C dX8_traderReads_110 rfl 2 rfl ?_
      refine g_bipush (v := (44 : Int32)) C dX8_traderReads_111 (by decide) ?_
      obtain ⟨v16, hv16, h⟩ := bind_of h
      refine g_cVi (n := 1) (exc := []) (exr := []) C [_] _ rfl rfl [] [] rfl rfl rfl rfl (fun _ h => absurd h (by simp)) (fun _ h => absurd h (by simp)) (fun _ h => absurd h (by simp)) (fun sz => c_X3_valueOf l μ ν a Ad w (p1 - 1) (44 : Int32) _ hv16 D E sz) rfl gw_558 gw_18 gw_555 gw_556 gw_557 ⟨by decide +kernel, by decide +kernel, by decide +kernel⟩ ⟨rfl, rfl⟩ ⟨Nat.le_of_ble_eq_true rfl, Nat.le_of_ble_eq_true rfl⟩ (rcvT (lvZ g2 rfl) rfl rfl rfl) (Nat.le_of_ble_eq_true rfl) dX8_traderReads_113 ⟨by decide, by decide⟩ (fun r u hp hx => ?_)
      obtain ⟨er, rfl⟩ := hp
      rw [er]
      try dsimp only [List.append_nil]
      obtain ⟨g17, h⟩ := of_guard h
      refine z_put (k := 21) (i := (2 * (v5 - 1))) (ref := "TradeLine$Book") C rfl g17 rfl rfl rfl inGX1 tyX1 tyX1_ok nmX1 0 (by decide) gw_1091 (fun _ h => h) rfl (tyX1_ok 0 (by decide)) rfl rfl (by simp [fvs]) (by simp [fvs, up1]) dX8_traderReads_116 (fun m18 em18 => ?_)
      replace h := yl_of h em18
      refine g_aload_n C dX8_traderReads_119 rfl 0 rfl ?_
      refine g_get (k := 20) (i := (v5 - 1)) (ref := "TradeLine$Order") (v := .ref (Ad 21 (2 * (v5 - 1)))) C rfl (lvZ g15 rfl) rfl rfl inGX4 2 (by decide) gw_1114 (fun _ h => h) rfl dX8_traderReads_120 ?_
      refine g_aload_n C dX8_traderReads_123 rfl 2 rfl ?_
      refine g_bipush (v := (38 : Int32)) C dX8_traderReads_124 (by decide) ?_
      obtain ⟨v19, hv19, h⟩ := bind_of h
      refine g_cVi (n := 1) (exc := []) (exr := []) C [_] _ rfl rfl [] [] rfl rfl rfl rfl (fun _ h => absurd h (by simp)) (fun _ h => absurd h (by simp)) (fun _ h => absurd h (by simp)) (fun sz => c_X3_valueOf l m18 ν a Ad w (p1 - 1) (38 : Int32) _ hv19 D E sz) rfl gw_558 gw_18 gw_555 gw_556 gw_557 ⟨by decide +kernel, by decide +kernel, by decide +kernel⟩ ⟨rfl, rfl⟩ ⟨Nat.le_of_ble_eq_true rfl, Nat.le_of_ble_eq_true rfl⟩ (rcvT (lvZ g2 rfl) rfl rfl rfl) (Nat.le_of_ble_eq_true rfl) dX8_traderReads_126 ⟨by decide, by decide⟩ (fun r u hp hx => ?_)
      obtain ⟨er, rfl⟩ := hp
      rw [er]
      try dsimp only [List.append_nil]
      refine z_put (k := 21) (i := (2 * (v5 - 1))) (ref := "TradeLine$Book") C rfl g17 rfl rfl rfl inGX1 tyX1 tyX1_ok nmX1 1 (by decide) gw_1093 (fun _ h => h) rfl (tyX1_ok 1 (by decide)) rfl rfl (by simp [fvs]) (by simp [fvs, up1]) dX8_traderReads_129 (fun m20 em20 => ?_)
      replace h := yl_of h em20
      refine g_aload_n C dX8_traderReads_132 rfl 0 rfl ?_
      obtain ⟨v21, hv21, h⟩ := bind_of h
      refine g_cVv (n := 0) (exc := []) (exr := []) C [] _ rfl rfl [] [] rfl rfl rfl rfl (fun _ h => absurd h (by simp)) (fun _ h => absurd h (by simp)) (fun _ h => absurd h (by simp)) (fun sz => c_X4_endRequest l m20 ν a Ad w (v5 - 1)  _ hv21 D E sz) rfl gw_972 gw_30 gw_969 gw_970 gw_971 ⟨by decide +kernel, by decide +kernel, by decide +kernel⟩ ⟨rfl, rfl⟩ ⟨Nat.le_of_ble_eq_true rfl, Nat.le_of_ble_eq_true rfl⟩ (rcvT (lvZ g15 rfl) rfl rfl rfl) (Nat.le_of_ble_eq_true rfl) dX8_traderReads_133 ⟨by decide, by decide⟩ (fun u hp hx => ?_)
      obtain rfl := hp
      try dsimp only [List.append_nil]
      refine g_goto (tgt := 171) C dX8_traderReads_136 (by decide) ?_
      obtain rfl := Option.some.inj h
      exact g_vret C hr hz ⟨rfl, rfl, fun _ => rfl, fun _ => rfl⟩ rfl (fun j x h => by simp at h) dX8_traderReads_171
    replace h := (if_neg w23_3).symm.trans h
    by_cases w23_4 : v6 = (4 : Int32)
    · replace h := (if_pos w23_4).symm.trans h
      refine g_tswI (v := (4 : Int32)) (off := 116) (tgt := 139) C dX8_traderReads_23 w23_4 (by decide) (by decide) (by decide) ?_
      refine g_aload_n C dX8_traderReads_139 rfl 0 rfl ?_
      obtain ⟨g22, h⟩ := of_guard h
      obtain ⟨v23, hv23, h⟩ := bind_of h
      refine g_cVv (n := 0) (exc := []) (exr := []) C [] _ rfl rfl [] [] rfl rfl rfl rfl (fun _ h => absurd h (by simp)) (fun _ h => absurd h (by simp)) (fun _ h => absurd h (by simp)) (fun sz => c_X4_endRequest l μ ν a Ad w (v5 - 1)  _ hv23 D E sz) rfl gw_972 gw_30 gw_969 gw_970 gw_971 ⟨by decide +kernel, by decide +kernel, by decide +kernel⟩ ⟨rfl, rfl⟩ ⟨Nat.le_of_ble_eq_true rfl, Nat.le_of_ble_eq_true rfl⟩ (rcvT (lvZ g22 rfl) rfl rfl rfl) (Nat.le_of_ble_eq_true rfl) dX8_traderReads_140 ⟨by decide, by decide⟩ (fun u hp hx => ?_)
      obtain rfl := hp
      try dsimp only [List.append_nil]
      refine g_goto (tgt := 171) C dX8_traderReads_143 (by decide) ?_
      obtain rfl := Option.some.inj h
      exact g_vret C hr hz ⟨rfl, rfl, fun _ => rfl, fun _ => rfl⟩ rfl (fun j x h => by simp at h) dX8_traderReads_171
    replace h := (if_neg w23_4).symm.trans h
    by_cases w23_5 : v6 = (5 : Int32)
    · replace h := (if_pos w23_5).symm.trans h
      refine g_tswI (v := (5 : Int32)) (off := 123) (tgt := 146) C dX8_traderReads_23 w23_5 (by decide) (by decide) (by decide) ?_
      refine g_aload_n C dX8_traderReads_146 rfl 0 rfl ?_
      refine g_aload_n C dX8_traderReads_147 rfl 1 rfl ?_
      refine g_aload_n C dX8_traderReads_148 rfl 2 rfl ?_
      refine g_bipush (v := (17 : Int32)) C dX8_traderReads_149 (by decide) ?_
      obtain ⟨v24, hv24, h⟩ := bind_of h
      refine g_cVi (n := 1) (exc := []) (exr := []) C [_] _ rfl rfl [] [] rfl rfl rfl rfl (fun _ h => absurd h (by simp)) (fun _ h => absurd h (by simp)) (fun _ h => absurd h (by simp)) (fun sz => c_X3_valueOf l μ ν a Ad w (p1 - 1) (17 : Int32) _ hv24 D E sz) rfl gw_558 gw_18 gw_555 gw_556 gw_557 ⟨by decide +kernel, by decide +kernel, by decide +kernel⟩ ⟨rfl, rfl⟩ ⟨Nat.le_of_ble_eq_true rfl, Nat.le_of_ble_eq_true rfl⟩ (rcvT (lvZ g2 rfl) rfl rfl rfl) (Nat.le_of_ble_eq_true rfl) dX8_traderReads_151 ⟨by decide, by decide⟩ (fun r u hp hx => ?_)
      obtain ⟨er, rfl⟩ := hp
      rw [er]
      try dsimp only [List.append_nil]
      obtain ⟨v25, hv25, h⟩ := bind_of h
      refine g_cVq (n := 1) (exc := []) (exr := []) C [_] _ rfl rfl [] [] rfl rfl rfl rfl (fun _ h => absurd h (by simp)) (fun _ h => absurd h (by simp)) (fun _ h => absurd h (by simp)) (fun sz => c_X8_findExecution l μ ν a Ad w v24 _ hv25 D E sz) rfl gw_968 gw_1 gw_965 gw_967 gs_32 ⟨by decide +kernel, by decide +kernel, by decide +kernel⟩ ⟨rfl, rfl⟩ ⟨Nat.le_of_ble_eq_true rfl, Nat.le_of_ble_eq_true rfl⟩ (rcvT (lvZ g4 rfl) rfl rfl rfl) (Nat.le_of_ble_eq_true rfl) dX8_traderReads_154 ⟨by decide, by decide⟩ (fun r u hp hx => ?_)
      obtain ⟨er, rfl⟩ := hp
      rw [er]
      try dsimp only [List.append_nil]
      obtain ⟨v26, hv26, h⟩ := bind_of h
      refine g_cSv (n := 2) (exc := []) (exr := []) C [_, _] _ rfl rfl [] [] rfl rfl rfl rfl (fun _ h => absurd h (by simp)) (fun _ h => absurd h (by simp)) (fun _ h => absurd h (by simp)) (fun sz => c_X8_traderReadsBusted l μ ν a Ad w ((v5 - 1) + 1) v25 _ hv26 D E sz) rfl gw_975 gw_1 gw_973 gw_974 ⟨by decide +kernel, by decide +kernel, by decide +kernel⟩ ⟨rfl, rfl⟩ ⟨Nat.le_of_ble_eq_true rfl, Nat.le_of_ble_eq_true rfl⟩ (Nat.le_of_ble_eq_true rfl) dX8_traderReads_157 ⟨by decide, by decide⟩ (fun u hp hx => ?_)
      obtain rfl := hp
      try dsimp only [List.append_nil]
      refine g_goto (tgt := 171) C dX8_traderReads_160 (by decide) ?_
      obtain rfl := Option.some.inj h
      exact g_vret C hr hz ⟨rfl, rfl, fun _ => rfl, fun _ => rfl⟩ rfl (fun j x h => by simp at h) dX8_traderReads_171
    replace h := (if_neg w23_5).symm.trans h
    by_cases w23_6 : v6 = (6 : Int32)
    · replace h := (if_pos w23_6).symm.trans h
      refine g_tswI (v := (6 : Int32)) (off := 140) (tgt := 163) C dX8_traderReads_23 w23_6 (by decide) (by decide) (by decide) ?_
      refine g_aload_n C dX8_traderReads_163 rfl 1 rfl ?_
      refine g_aload_n C dX8_traderReads_164 rfl 2 rfl ?_
      obtain ⟨v27, hv27, h⟩ := bind_of h
      refine g_cVv (n := 1) (exc := []) (exr := []) C [_] _ rfl rfl [] [] rfl rfl rfl rfl (fun _ h => absurd h (by simp)) (fun _ h => absurd h (by simp)) (fun _ h => absurd h (by simp)) (fun sz => c_X8_traderReadsCorrected l μ ν a Ad w ((p1 - 1) + 1) _ hv27 D E sz) rfl gw_983 gw_1 gw_980 gw_982 gs_33 ⟨by decide +kernel, by decide +kernel, by decide +kernel⟩ ⟨rfl, rfl⟩ ⟨Nat.le_of_ble_eq_true rfl, Nat.le_of_ble_eq_true rfl⟩ (rcvT (lvZ g4 rfl) rfl rfl rfl) (Nat.le_of_ble_eq_true rfl) dX8_traderReads_165 ⟨by decide, by decide⟩ (fun u hp hx => ?_)
      obtain rfl := hp
      try dsimp only [List.append_nil]
      refine g_goto (tgt := 171) C dX8_traderReads_168 (by decide) ?_
      obtain rfl := Option.some.inj h
      exact g_vret C hr hz ⟨rfl, rfl, fun _ => rfl, fun _ => rfl⟩ rfl (fun j x h => by simp at h) dX8_traderReads_171
    replace h := (if_neg w23_6).symm.trans h
    replace w23_0 := ne_i (n := 0) w23_0 (by decide)
    replace w23_1 := ne_i (n := 1) w23_1 (by decide)
    replace w23_2 := ne_i (n := 2) w23_2 (by decide)
    replace w23_3 := ne_i (n := 3) w23_3 (by decide)
    replace w23_4 := ne_i (n := 4) w23_4 (by decide)
    replace w23_5 := ne_i (n := 5) w23_5 (by decide)
    replace w23_6 := ne_i (n := 6) w23_6 (by decide)
    refine g_tswO (tgt := 171) C dX8_traderReads_23 (by omega) (by decide) ?_
    obtain rfl := Option.some.inj h
    exact g_vret C hr hz ⟨rfl, rfl, fun _ => rfl, fun _ => rfl⟩ rfl (fun j x h => by simp at h) dX8_traderReads_171
theorem c_X8_traderReads (l : Launch) (μ : MP) (ν : NC) (a : AS) (Ad : Nat → Nat → Nat) (w : Nat) (p1 : Nat) (r0 : MP × Int32) (h : f_X8_traderReads w μ ν p1 = some r0) : ∀ D E sz, Met l yX8_traderReads gwX8_traderReads ({ frames := 5, cells := 0, slots := 0, locals := 128 } : Room) (cP D E sz (zS μ ν a Ad) [] [.ref (Ad 0 0), nv (Ad 6) p1]) (cQ D E sz (zS μ ν a Ad) [] (pV (fun u => u = (zS r0.1 ν a Ad, [])))) (0) (0) (Aof (zS μ ν a Ad) [] sz) := by
  intro D E sz
  refine g_of (cc := cX8_traderReads) (maxL := 3) (ret := none) (own := "TradeLine") (by decide) rfl rfl (by cases p1 <;> exact Nat.le_of_ble_eq_true rfl) ?_
  intro p e s m args below meth c C hr hin hz ha hwr
  refine g_lv (lv' := [(0, .ref (Ad 0 0)), (1, nv (Ad 6) p1)]) [0, 1] (by cases p1 <;> rfl) ?_
  exact lb_X8_traderReads_0 C hr hz h
noncomputable def f_X8_isUp  (w : Nat) (μ : MP) (ν : NC) : Option (Int32) := bif ltB 0 (ν.2 0) then bif boB (μ.1 0 0 8) then some (μ.1 0 0 8) else none else none
set_option maxHeartbeats 4000000 in
set_option maxRecDepth 100000 in
theorem lb_X8_isUp_0 {p : Program} {l : Launch} {e : Env} {s : State} {m : MethodId} {args : Array Value} {below : List Frame} {meth : Method} {c : Code} {D : va_G} {E : Nat → ClassId} {sz : Nat} {μ : MP} {ν : NC} {a : AS} {Ad : Nat → Nat → Nat} {w : Nat} {r0 : Int32} (C : cx p s m args meth c D E (Aof (zS μ ν a Ad) [] s.heap.size) cX8_isUp 1 "TradeLine") (hr : meth.sig.returnType = (some .boolean)) (hz : s.heap.size = sz)   (h : f_X8_isUp  w μ ν  = some r0) : G p l e ({ frames := 0, cells := 0, slots := 0, locals := 0 } : Room) s m args below meth c D E (Aof (zS μ ν a Ad) [] s.heap.size) 1 (MQ below (cQ D E sz (zS μ ν a Ad) [] (pI (fun r u => r = r0 ∧ u = (zS μ ν a Ad, [])))) args s 0 0 (Aof (zS μ ν a Ad) [] s.heap.size)) (zS μ ν a Ad) [] 0 0 0 [(0, .ref (Ad 0 0))] [] := by
  unfold f_X8_isUp at h
  refine g_aload_n C dX8_isUp_0 rfl 0 rfl ?_
  obtain ⟨g1, h⟩ := of_guard h
  refine g_get (k := 0) (i := 0) (ref := "TradeLine") (v := .int (μ.1 0 0 8)) C rfl (lvZ g1 rfl) rfl rfl inGX8 8 (by decide) gw_178 (fun _ h => h) rfl dX8_isUp_1 ?_
  obtain ⟨g2, h⟩ := of_guard h
  exact g_iret C hr (boB_n g2) hz ⟨rfl, rfl, fun _ => rfl, fun _ => rfl⟩ ⟨Option.some.inj h, rfl⟩ (fun j x h => by simp at h) dX8_isUp_4
theorem c_X8_isUp (l : Launch) (μ : MP) (ν : NC) (a : AS) (Ad : Nat → Nat → Nat) (w : Nat) (r0 : Int32) (h : f_X8_isUp w μ ν  = some r0) : ∀ D E sz, Met l yX8_isUp gwX8_isUp ({ frames := 0, cells := 0, slots := 0, locals := 0 } : Room) (cP D E sz (zS μ ν a Ad) [] [.ref (Ad 0 0)]) (cQ D E sz (zS μ ν a Ad) [] (pI (fun r u => r = r0 ∧ u = (zS μ ν a Ad, [])))) (0) (0) (Aof (zS μ ν a Ad) [] sz) := by
  intro D E sz
  refine g_of (cc := cX8_isUp) (maxL := 1) (ret := (some .boolean)) (own := "TradeLine") (by decide) rfl rfl (Nat.le_of_ble_eq_true rfl) ?_
  intro p e s m args below meth c C hr hin hz ha hwr
  refine g_lv (lv' := [(0, .ref (Ad 0 0))]) [0] rfl ?_
  exact lb_X8_isUp_0 C hr hz h
noncomputable def f_X8_executions  (w : Nat) (μ : MP) (ν : NC) : Option (Int32) := bif ltB 0 (ν.2 0) then bif ltB 5 (ν.2 4) then some (μ.1 4 5 2) else none else none
set_option maxHeartbeats 4000000 in
set_option maxRecDepth 100000 in
theorem lb_X8_executions_0 {p : Program} {l : Launch} {e : Env} {s : State} {m : MethodId} {args : Array Value} {below : List Frame} {meth : Method} {c : Code} {D : va_G} {E : Nat → ClassId} {sz : Nat} {μ : MP} {ν : NC} {a : AS} {Ad : Nat → Nat → Nat} {w : Nat} {r0 : Int32} (C : cx p s m args meth c D E (Aof (zS μ ν a Ad) [] s.heap.size) cX8_executions 1 "TradeLine") (hr : meth.sig.returnType = (some .int)) (hz : s.heap.size = sz)   (h : f_X8_executions  w μ ν  = some r0) : G p l e ({ frames := 1, cells := 0, slots := 0, locals := 20 } : Room) s m args below meth c D E (Aof (zS μ ν a Ad) [] s.heap.size) 1 (MQ below (cQ D E sz (zS μ ν a Ad) [] (pI (fun r u => r = r0 ∧ u = (zS μ ν a Ad, [])))) args s 0 0 (Aof (zS μ ν a Ad) [] s.heap.size)) (zS μ ν a Ad) [] 0 0 0 [(0, .ref (Ad 0 0))] [] := by
  unfold f_X8_executions at h
  refine g_aload_n C dX8_executions_0 rfl 0 rfl ?_
  obtain ⟨g1, h⟩ := of_guard h
  refine g_get (k := 0) (i := 0) (ref := "TradeLine") (v := .ref (Ad 4 5)) C rfl (lvZ g1 rfl) rfl rfl inGX8 5 (by decide) gw_175 (fun _ h => h) rfl dX8_executions_1 ?_
  obtain ⟨g2, h⟩ := of_guard h
  refine g_cVi (n := 0) (exc := []) (exr := []) C [] _ rfl rfl [] [] rfl rfl rfl rfl (fun _ h => absurd h (by simp)) (fun _ h => absurd h (by simp)) (fun _ h => absurd h (by simp)) (fun sz => c_Jx4a65c_size_8abf5 l μ ν a Ad _ g2 D E sz) rfl gw_308 gw_5 gw_305 gw_306 gw_307 ⟨by decide +kernel, by decide +kernel, by decide +kernel⟩ ⟨rfl, rfl⟩ ⟨Nat.le_of_ble_eq_true rfl, Nat.le_of_ble_eq_true rfl⟩ (rcvT (lvZ g2 rfl) rfl rfl rfl) (Nat.le_of_ble_eq_true rfl) dX8_executions_4 ⟨by decide, by decide⟩ (fun r u hp hx => ?_)
  obtain ⟨er, rfl⟩ := hp
  rw [er]
  try dsimp only [List.append_nil]
  exact g_iret C hr rfl hz ⟨rfl, rfl, fun _ => rfl, fun _ => rfl⟩ ⟨Option.some.inj h, rfl⟩ (fun j x h => by simp at h) dX8_executions_7
theorem c_X8_executions (l : Launch) (μ : MP) (ν : NC) (a : AS) (Ad : Nat → Nat → Nat) (w : Nat) (r0 : Int32) (h : f_X8_executions w μ ν  = some r0) : ∀ D E sz, Met l yX8_executions gwX8_executions ({ frames := 1, cells := 0, slots := 0, locals := 20 } : Room) (cP D E sz (zS μ ν a Ad) [] [.ref (Ad 0 0)]) (cQ D E sz (zS μ ν a Ad) [] (pI (fun r u => r = r0 ∧ u = (zS μ ν a Ad, [])))) (0) (0) (Aof (zS μ ν a Ad) [] sz) := by
  intro D E sz
  refine g_of (cc := cX8_executions) (maxL := 1) (ret := (some .int)) (own := "TradeLine") (by decide) rfl rfl (Nat.le_of_ble_eq_true rfl) ?_
  intro p e s m args below meth c C hr hin hz ha hwr
  refine g_lv (lv' := [(0, .ref (Ad 0 0))]) [0] rfl ?_
  exact lb_X8_executions_0 C hr hz h
noncomputable def f_X8_endDay  (w : Nat) (μ : MP) (ν : NC) : Option (MP × Int32) := bif ltB 0 (ν.2 0) then yl (uM μ 0 0 10 ((μ.1 0 0 10) + (1 : Int32))) (fun m2 => some (m2, (m2.1 0 0 10))) else none
set_option maxHeartbeats 4000000 in
set_option maxRecDepth 100000 in
theorem lb_X8_endDay_0 {p : Program} {l : Launch} {e : Env} {s : State} {m : MethodId} {args : Array Value} {below : List Frame} {meth : Method} {c : Code} {D : va_G} {E : Nat → ClassId} {sz : Nat} {μ0 : MP} {ν : NC} {a : AS} {Ad : Nat → Nat → Nat} {w : Nat} {r0 : MP × Int32} (C : cx p s m args meth c D E (Aof (zS μ0 ν a Ad) [] s.heap.size) cX8_endDay 1 "TradeLine") (hr : meth.sig.returnType = (some .int)) (hz : s.heap.size = sz) {μ : MP}   (h : f_X8_endDay  w μ ν  = some r0) : G p l e ({ frames := 0, cells := 0, slots := 0, locals := 0 } : Room) s m args below meth c D E (Aof (zS μ0 ν a Ad) [] s.heap.size) 1 (MQ below (cQ D E sz (zS μ0 ν a Ad) [] (pI (fun r u => r = r0.2 ∧ u = (zS r0.1 ν a Ad, [])))) args s 0 0 (Aof (zS μ0 ν a Ad) [] s.heap.size)) (zS μ ν a Ad) [] 0 0 0 [(0, .ref (Ad 0 0))] [] := by
  unfold f_X8_endDay at h
  refine g_aload_n C dX8_endDay_0 rfl 0 rfl ?_
  refine g_dup C dX8_endDay_1 rfl ?_
  obtain ⟨g1, h⟩ := of_guard h
  refine g_get (k := 0) (i := 0) (ref := "TradeLine") (v := .int (μ.1 0 0 10)) C rfl (lvZ g1 rfl) rfl rfl inGX8 10 (by decide) gw_180 (fun _ h => h) rfl dX8_endDay_2 ?_
  refine g_iconst (v := (1 : Int32)) C dX8_endDay_5 (by decide) ?_
  refine g_iadd C dX8_endDay_6 ?_
  refine z_put (k := 0) (i := 0) (ref := "TradeLine") C rfl g1 rfl rfl rfl inGX8 tyX8 tyX8_ok nmX8 10 (by decide) gw_180 (fun _ h => h) rfl (tyX8_ok 10 (by decide)) rfl rfl (by simp [fvs]) (by simp [fvs, up1]) dX8_endDay_7 (fun m2 em2 => ?_)
  replace h := yl_of h em2
  refine g_aload_n C dX8_endDay_10 rfl 0 rfl ?_
  refine g_get (k := 0) (i := 0) (ref := "TradeLine") (v := .int (m2.1 0 0 10)) C rfl (lvZ g1 rfl) rfl rfl inGX8 10 (by decide) gw_180 (fun _ h => h) rfl dX8_endDay_11 ?_
  obtain rfl := Option.some.inj h
  exact g_iret C hr rfl hz ⟨rfl, rfl, fun _ => rfl, fun _ => rfl⟩ ⟨rfl, rfl⟩ (fun j x h => by simp at h) dX8_endDay_14
theorem c_X8_endDay (l : Launch) (μ : MP) (ν : NC) (a : AS) (Ad : Nat → Nat → Nat) (w : Nat) (r0 : MP × Int32) (h : f_X8_endDay w μ ν  = some r0) : ∀ D E sz, Met l yX8_endDay gwX8_endDay ({ frames := 0, cells := 0, slots := 0, locals := 0 } : Room) (cP D E sz (zS μ ν a Ad) [] [.ref (Ad 0 0)]) (cQ D E sz (zS μ ν a Ad) [] (pI (fun r u => r = r0.2 ∧ u = (zS r0.1 ν a Ad, [])))) (0) (0) (Aof (zS μ ν a Ad) [] sz) := by
  intro D E sz
  refine g_of (cc := cX8_endDay) (maxL := 1) (ret := (some .int)) (own := "TradeLine") (by decide) rfl rfl (Nat.le_of_ble_eq_true rfl) ?_
  intro p e s m args below meth c C hr hin hz ha hwr
  refine g_lv (lv' := [(0, .ref (Ad 0 0))]) [0] rfl ?_
  exact lb_X8_endDay_0 C hr hz h
noncomputable def f_X8_orders  (w : Nat) (μ : MP) (ν : NC) : Option (Int32) := bif ltB 0 (ν.2 0) then bif ltB 2 (ν.2 4) then some (μ.1 4 2 2) else none else none
set_option maxHeartbeats 4000000 in
set_option maxRecDepth 100000 in
theorem lb_X8_orders_0 {p : Program} {l : Launch} {e : Env} {s : State} {m : MethodId} {args : Array Value} {below : List Frame} {meth : Method} {c : Code} {D : va_G} {E : Nat → ClassId} {sz : Nat} {μ : MP} {ν : NC} {a : AS} {Ad : Nat → Nat → Nat} {w : Nat} {r0 : Int32} (C : cx p s m args meth c D E (Aof (zS μ ν a Ad) [] s.heap.size) cX8_orders 1 "TradeLine") (hr : meth.sig.returnType = (some .int)) (hz : s.heap.size = sz)   (h : f_X8_orders  w μ ν  = some r0) : G p l e ({ frames := 1, cells := 0, slots := 0, locals := 20 } : Room) s m args below meth c D E (Aof (zS μ ν a Ad) [] s.heap.size) 1 (MQ below (cQ D E sz (zS μ ν a Ad) [] (pI (fun r u => r = r0 ∧ u = (zS μ ν a Ad, [])))) args s 0 0 (Aof (zS μ ν a Ad) [] s.heap.size)) (zS μ ν a Ad) [] 0 0 0 [(0, .ref (Ad 0 0))] [] := by
  unfold f_X8_orders at h
  refine g_aload_n C dX8_orders_0 rfl 0 rfl ?_
  obtain ⟨g1, h⟩ := of_guard h
  refine g_get (k := 0) (i := 0) (ref := "TradeLine") (v := .ref (Ad 4 2)) C rfl (lvZ g1 rfl) rfl rfl inGX8 2 (by decide) gw_172 (fun _ h => h) rfl dX8_orders_1 ?_
  obtain ⟨g2, h⟩ := of_guard h
  refine g_cVi (n := 0) (exc := []) (exr := []) C [] _ rfl rfl [] [] rfl rfl rfl rfl (fun _ h => absurd h (by simp)) (fun _ h => absurd h (by simp)) (fun _ h => absurd h (by simp)) (fun sz => c_Jx4a65c_size_8abf5 l μ ν a Ad _ g2 D E sz) rfl gw_308 gw_5 gw_305 gw_306 gw_307 ⟨by decide +kernel, by decide +kernel, by decide +kernel⟩ ⟨rfl, rfl⟩ ⟨Nat.le_of_ble_eq_true rfl, Nat.le_of_ble_eq_true rfl⟩ (rcvT (lvZ g2 rfl) rfl rfl rfl) (Nat.le_of_ble_eq_true rfl) dX8_orders_4 ⟨by decide, by decide⟩ (fun r u hp hx => ?_)
  obtain ⟨er, rfl⟩ := hp
  rw [er]
  try dsimp only [List.append_nil]
  exact g_iret C hr rfl hz ⟨rfl, rfl, fun _ => rfl, fun _ => rfl⟩ ⟨Option.some.inj h, rfl⟩ (fun j x h => by simp at h) dX8_orders_7
theorem c_X8_orders (l : Launch) (μ : MP) (ν : NC) (a : AS) (Ad : Nat → Nat → Nat) (w : Nat) (r0 : Int32) (h : f_X8_orders w μ ν  = some r0) : ∀ D E sz, Met l yX8_orders gwX8_orders ({ frames := 1, cells := 0, slots := 0, locals := 20 } : Room) (cP D E sz (zS μ ν a Ad) [] [.ref (Ad 0 0)]) (cQ D E sz (zS μ ν a Ad) [] (pI (fun r u => r = r0 ∧ u = (zS μ ν a Ad, [])))) (0) (0) (Aof (zS μ ν a Ad) [] sz) := by
  intro D E sz
  refine g_of (cc := cX8_orders) (maxL := 1) (ret := (some .int)) (own := "TradeLine") (by decide) rfl rfl (Nat.le_of_ble_eq_true rfl) ?_
  intro p e s m args below meth c C hr hin hz ha hwr
  refine g_lv (lv' := [(0, .ref (Ad 0 0))]) [0] rfl ?_
  exact lb_X8_orders_0 C hr hz h
noncomputable def b_X8_agree_41 (k2 : Int32 → Option (Int32)) (w : Nat) (μ : MP) (ν : NC) (x1 : Int32) : Option (Int32) := yl (x1 + (1 : Int32)) (fun t6 => k2 t6)
set_option maxHeartbeats 4000000 in
set_option maxRecDepth 100000 in
theorem lb_X8_agree_41 {p : Program} {l : Launch} {e : Env} {s : State} {m : MethodId} {args : Array Value} {below : List Frame} {meth : Method} {c : Code} {D : va_G} {E : Nat → ClassId} {sz : Nat} {μ : MP} {ν : NC} {a : AS} {Ad : Nat → Nat → Nat} {w : Nat} {r0 : Int32} (C : cx p s m args meth c D E (Aof (zS μ ν a Ad) [] s.heap.size) cX8_agree 3 "TradeLine") (hr : meth.sig.returnType = (some .boolean)) (hz : s.heap.size = sz) {x1 : Int32} {k2 : Int32 → Option (Int32)} (hk2 : ∀ (z1 : Int32), k2 z1 = some r0 → G p l e ({ frames := 3, cells := 0, slots := 0, locals := 81 } : Room) s m args below meth c D E (Aof (zS μ ν a Ad) [] s.heap.size) 3 (MQ below (cQ D E sz (zS μ ν a Ad) [] (pI (fun r u => r = r0 ∧ u = (zS μ ν a Ad, [])))) args s 0 0 (Aof (zS μ ν a Ad) [] s.heap.size)) (zS μ ν a Ad) [] 0 0 2 [(0, .ref (Ad 0 0)), (1, .int z1)] []) (h : b_X8_agree_41 k2 w μ ν x1 = some r0) : G p l e ({ frames := 3, cells := 0, slots := 0, locals := 81 } : Room) s m args below meth c D E (Aof (zS μ ν a Ad) [] s.heap.size) 3 (MQ below (cQ D E sz (zS μ ν a Ad) [] (pI (fun r u => r = r0 ∧ u = (zS μ ν a Ad, [])))) args s 0 0 (Aof (zS μ ν a Ad) [] s.heap.size)) (zS μ ν a Ad) [] 0 0 41 [(0, .ref (Ad 0 0)), (1, .int x1)] [] := by
  unfold b_X8_agree_41 at h
  obtain ⟨t6, et6⟩ : ∃ y : Int32, x1 + (1 : Int32) = y := ⟨_, rfl⟩
  replace h := yl_of h et6
  refine g_iinc (v := t6) (lv' := [(1, .int t6), (0, .ref (Ad 0 0))]) C dX8_agree_41 1 rfl (by rw [← et6]; rfl) (by decide) rfl ?_
  refine g_goto (tgt := 2) C dX8_agree_44 (by decide) ?_
  refine g_lv [1, 0] rfl ?_
  exact hk2 _ h
noncomputable def b_X8_agree_2 (k2 : Int32 → Option (Int32)) (w : Nat) (μ : MP) (ν : NC) (x1 : Int32) : Option (Int32) := bif ltB 0 (ν.2 0) then bif ltB 2 (ν.2 4) then (if (μ.1 4 2 2) ≤ x1 then (some (1 : Int32)) else ((ls_get μ ν 2 x1).bind (fun v3 => bif eqB (eK 5 2) 20 then bif ltB v3 (ν.2 20) then (if (μ.1 20 v3 6) = (0 : Int32) then (b_X8_agree_41 k2 w μ ν x1) else ((f_X4_booksAgree w μ ν v3 ).bind (fun v7 => (if v7 = (0 : Int32) then (some (0 : Int32)) else (b_X8_agree_41 k2 w μ ν x1))))) else none else none))) else none else none
set_option maxHeartbeats 4000000 in
set_option maxRecDepth 100000 in
theorem lb_X8_agree_2 {p : Program} {l : Launch} {e : Env} {s : State} {m : MethodId} {args : Array Value} {below : List Frame} {meth : Method} {c : Code} {D : va_G} {E : Nat → ClassId} {sz : Nat} {μ : MP} {ν : NC} {a : AS} {Ad : Nat → Nat → Nat} {w : Nat} {r0 : Int32} (C : cx p s m args meth c D E (Aof (zS μ ν a Ad) [] s.heap.size) cX8_agree 3 "TradeLine") (hr : meth.sig.returnType = (some .boolean)) (hz : s.heap.size = sz) {x1 : Int32} {k2 : Int32 → Option (Int32)} (hk2 : ∀ (z1 : Int32), k2 z1 = some r0 → G p l e ({ frames := 3, cells := 0, slots := 0, locals := 81 } : Room) s m args below meth c D E (Aof (zS μ ν a Ad) [] s.heap.size) 3 (MQ below (cQ D E sz (zS μ ν a Ad) [] (pI (fun r u => r = r0 ∧ u = (zS μ ν a Ad, [])))) args s 0 0 (Aof (zS μ ν a Ad) [] s.heap.size)) (zS μ ν a Ad) [] 0 0 2 [(0, .ref (Ad 0 0)), (1, .int z1)] []) (h : b_X8_agree_2 k2 w μ ν x1 = some r0) : G p l e ({ frames := 3, cells := 0, slots := 0, locals := 81 } : Room) s m args below meth c D E (Aof (zS μ ν a Ad) [] s.heap.size) 3 (MQ below (cQ D E sz (zS μ ν a Ad) [] (pI (fun r u => r = r0 ∧ u = (zS μ ν a Ad, [])))) args s 0 0 (Aof (zS μ ν a Ad) [] s.heap.size)) (zS μ ν a Ad) [] 0 0 2 [(0, .ref (Ad 0 0)), (1, .int x1)] [] := by
  unfold b_X8_agree_2 at h
  refine g_iload_n C dX8_agree_2 rfl 1 rfl ?_
  refine g_aload_n C dX8_agree_3 rfl 0 rfl ?_
  obtain ⟨g1, h⟩ := of_guard h
  refine g_get (k := 0) (i := 0) (ref := "TradeLine") (v := .ref (Ad 4 2)) C rfl (lvZ g1 rfl) rfl rfl inGX8 2 (by decide) gw_172 (fun _ h => h) rfl dX8_agree_4 ?_
  obtain ⟨g2, h⟩ := of_guard h
  refine g_cVi (n := 0) (exc := []) (exr := []) C [] _ rfl rfl [] [] rfl rfl rfl rfl (fun _ h => absurd h (by simp)) (fun _ h => absurd h (by simp)) (fun _ h => absurd h (by simp)) (fun sz => c_Jx4a65c_size_8abf5 l μ ν a Ad _ g2 D E sz) rfl gw_308 gw_5 gw_305 gw_306 gw_307 ⟨by decide +kernel, by decide +kernel, by decide +kernel⟩ ⟨rfl, rfl⟩ ⟨Nat.le_of_ble_eq_true rfl, Nat.le_of_ble_eq_true rfl⟩ (rcvT (lvZ g2 rfl) rfl rfl rfl) (Nat.le_of_ble_eq_true rfl) dX8_agree_7 ⟨by decide, by decide⟩ (fun r u hp hx => ?_)
  obtain ⟨er, rfl⟩ := hp
  rw [er]
  try dsimp only [List.append_nil]
  refine g_icmp_ge (tgt := 47) C dX8_agree_10 (by decide) (fun c10 => ?_) (fun c10 => ?_)
  · replace h := (if_pos c10).symm.trans h
    refine g_iconst (v := (1 : Int32)) C dX8_agree_47 (by decide) ?_
    exact g_iret C hr rfl hz ⟨rfl, rfl, fun _ => rfl, fun _ => rfl⟩ ⟨Option.some.inj h, rfl⟩ (fun j x h => by simp at h) dX8_agree_48
  · replace h := (if_neg c10).symm.trans h
    refine g_aload_n C dX8_agree_13 rfl 0 rfl ?_
    refine g_get (k := 0) (i := 0) (ref := "TradeLine") (v := .ref (Ad 4 2)) C rfl (lvZ g1 rfl) rfl rfl inGX8 2 (by decide) gw_172 (fun _ h => h) rfl dX8_agree_14 ?_
    refine g_iload_n C dX8_agree_17 rfl 1 rfl ?_
    obtain ⟨v3, hv3, h⟩ := bind_of h
    refine g_cVq (n := 1) (exc := []) (exr := []) C [_] _ rfl rfl [] [] rfl rfl rfl rfl (fun _ h => absurd h (by simp)) (fun _ h => absurd h (by simp)) (fun _ h => absurd h (by simp)) (fun sz => c_Jx4a65c_get_915e3 l μ ν a Ad _ _ _ hv3 D E sz) rfl gw_543 gw_5 gw_576 gw_541 gw_542 ⟨by decide +kernel, by decide +kernel, by decide +kernel⟩ ⟨rfl, rfl⟩ ⟨Nat.le_of_ble_eq_true rfl, Nat.le_of_ble_eq_true rfl⟩ (rcvT (lvZ g2 rfl) rfl rfl rfl) (Nat.le_of_ble_eq_true rfl) dX8_agree_18 ⟨by decide, by decide⟩ (fun r u hp hx => ?_)
    obtain ⟨er, rfl⟩ := hp
    rw [er]
    try dsimp only [List.append_nil]
    obtain ⟨g4, h⟩ := of_guard h
    rw [eqB_e g4]
    obtain ⟨g5, h⟩ := of_guard h
    refine z_cast (k := 20) (i := v3) C (lvZ g5 rfl) rfl rfl gw_577 dX8_agree_21 ?_
    refine z_astore_n (i := 2) (lv' := [(2, .ref (Ad 20 v3)), (0, .ref (Ad 0 0)), (1, .int x1)]) C dX8_agree_24 (Or.inr ⟨_, rfl⟩) rfl (by decide) rfl ?_
    refine g_aload_n C dX8_agree_25 rfl 0 rfl ?_
    refine g_get (k := 20) (i := v3) (ref := "TradeLine$Order") (v := .int (μ.1 20 v3 6)) C rfl (lvZ g5 rfl) rfl rfl inGX4 6 (by decide) gw_1121 (fun _ h => h) rfl dX8_agree_26 ?_
    refine g_if_eq (tgt := 41) C dX8_agree_29 (by decide) (fun c29 => ?_) (fun c29 => ?_)
    · replace h := (if_pos c29).symm.trans h
      refine g_lv [1, 2] rfl ?_
      exact lb_X8_agree_41 C hr hz hk2 h
    · replace h := (if_neg c29).symm.trans h
      refine g_aload_n C dX8_agree_32 rfl 0 rfl ?_
      obtain ⟨v7, hv7, h⟩ := bind_of h
      refine g_cVi (n := 0) (exc := []) (exr := []) C [] _ rfl rfl [] [] rfl rfl rfl rfl (fun _ h => absurd h (by simp)) (fun _ h => absurd h (by simp)) (fun _ h => absurd h (by simp)) (fun sz => c_X4_booksAgree l μ ν a Ad w v3  _ hv7 D E sz) rfl gw_1395 gw_30 gw_1392 gw_1393 gw_1394 ⟨by decide +kernel, by decide +kernel, by decide +kernel⟩ ⟨rfl, rfl⟩ ⟨Nat.le_of_ble_eq_true rfl, Nat.le_of_ble_eq_true rfl⟩ (rcvT (lvZ g5 rfl) rfl rfl rfl) (Nat.le_of_ble_eq_true rfl) dX8_agree_33 ⟨by decide, by decide⟩ (fun r u hp hx => ?_)
      obtain ⟨er, rfl⟩ := hp
      rw [er]
      try dsimp only [List.append_nil]
      refine g_if_ne (tgt := 41) C dX8_agree_36 (by decide) (fun c36 => ?_) (fun c36 => ?_)
      · replace h := (if_neg c36).symm.trans h
        refine g_lv [1, 2] rfl ?_
        exact lb_X8_agree_41 C hr hz hk2 h
      · replace h := (if_pos c36).symm.trans h
        refine g_iconst (v := (0 : Int32)) C dX8_agree_39 (by decide) ?_
        exact g_iret C hr rfl hz ⟨rfl, rfl, fun _ => rfl, fun _ => rfl⟩ ⟨Option.some.inj h, rfl⟩ (fun j x h => by simp at h) dX8_agree_40
noncomputable def l_X8_agree_2  (w : Nat) (μ : MP) (ν : NC) : Nat → Int32 → Option (Int32)
  | 0 => fun _ => none
  | n + 1 => fun x1 => b_X8_agree_2  (l_X8_agree_2  w μ ν n) w μ ν x1
theorem ll_X8_agree_2 {p : Program} {l : Launch} {e : Env} {s : State} {m : MethodId} {args : Array Value} {below : List Frame} {meth : Method} {c : Code} {D : va_G} {E : Nat → ClassId} {sz : Nat} {μ : MP} {ν : NC} {a : AS} {Ad : Nat → Nat → Nat} {w : Nat} {r0 : Int32} (C : cx p s m args meth c D E (Aof (zS μ ν a Ad) [] s.heap.size) cX8_agree 3 "TradeLine") (hr : meth.sig.returnType = (some .boolean)) (hz : s.heap.size = sz)   : ∀ (n : Nat) (x1 : Int32), l_X8_agree_2  w μ ν n x1 = some r0 → G p l e ({ frames := 3, cells := 0, slots := 0, locals := 81 } : Room) s m args below meth c D E (Aof (zS μ ν a Ad) [] s.heap.size) 3 (MQ below (cQ D E sz (zS μ ν a Ad) [] (pI (fun r u => r = r0 ∧ u = (zS μ ν a Ad, [])))) args s 0 0 (Aof (zS μ ν a Ad) [] s.heap.size)) (zS μ ν a Ad) [] 0 0 2 [(0, .ref (Ad 0 0)), (1, .int x1)] [] := by
  intro n
  induction n with
  | zero => exact fun x1 h => absurd (show (none : Option (Int32)) = some r0 from h) (by simp)
  | succ n ih => exact fun x1 h => lb_X8_agree_2 (w := w) C hr hz  ih h
noncomputable def f_X8_agree  (w : Nat) (μ : MP) (ν : NC) : Option (Int32) := l_X8_agree_2  w μ ν w (0 : Int32)
set_option maxHeartbeats 4000000 in
set_option maxRecDepth 100000 in
theorem lb_X8_agree_0 {p : Program} {l : Launch} {e : Env} {s : State} {m : MethodId} {args : Array Value} {below : List Frame} {meth : Method} {c : Code} {D : va_G} {E : Nat → ClassId} {sz : Nat} {μ : MP} {ν : NC} {a : AS} {Ad : Nat → Nat → Nat} {w : Nat} {r0 : Int32} (C : cx p s m args meth c D E (Aof (zS μ ν a Ad) [] s.heap.size) cX8_agree 3 "TradeLine") (hr : meth.sig.returnType = (some .boolean)) (hz : s.heap.size = sz)   (h : f_X8_agree  w μ ν  = some r0) : G p l e ({ frames := 3, cells := 0, slots := 0, locals := 81 } : Room) s m args below meth c D E (Aof (zS μ ν a Ad) [] s.heap.size) 3 (MQ below (cQ D E sz (zS μ ν a Ad) [] (pI (fun r u => r = r0 ∧ u = (zS μ ν a Ad, [])))) args s 0 0 (Aof (zS μ ν a Ad) [] s.heap.size)) (zS μ ν a Ad) [] 0 0 0 [(0, .ref (Ad 0 0))] [] := by
  unfold f_X8_agree at h
  refine g_iconst (v := (0 : Int32)) C dX8_agree_0 (by decide) ?_
  refine g_istore_n (i := 1) (lv' := [(1, .int (0 : Int32)), (0, .ref (Ad 0 0))]) C dX8_agree_1 rfl (by decide) rfl ?_
  refine g_lv [1, 0] rfl ?_
  exact ll_X8_agree_2 C hr hz  w _ h
theorem c_X8_agree (l : Launch) (μ : MP) (ν : NC) (a : AS) (Ad : Nat → Nat → Nat) (w : Nat) (r0 : Int32) (h : f_X8_agree w μ ν  = some r0) : ∀ D E sz, Met l yX8_agree gwX8_agree ({ frames := 3, cells := 0, slots := 0, locals := 81 } : Room) (cP D E sz (zS μ ν a Ad) [] [.ref (Ad 0 0)]) (cQ D E sz (zS μ ν a Ad) [] (pI (fun r u => r = r0 ∧ u = (zS μ ν a Ad, [])))) (0) (0) (Aof (zS μ ν a Ad) [] sz) := by
  intro D E sz
  refine g_of (cc := cX8_agree) (maxL := 3) (ret := (some .boolean)) (own := "TradeLine") (by decide) rfl rfl (Nat.le_of_ble_eq_true rfl) ?_
  intro p e s m args below meth c C hr hin hz ha hwr
  refine g_lv (lv' := [(0, .ref (Ad 0 0))]) [0] rfl ?_
  exact lb_X8_agree_0 C hr hz h
