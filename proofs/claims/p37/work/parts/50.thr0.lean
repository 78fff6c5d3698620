noncomputable def f_X8_requireSide  (w : Nat) (μ : MP) (ν : NC) (x0 : Int32) : Option (Nat × (Int32)) := (if x0 = (0 : Int32) then (some ((0 : Nat), (0 : Int32))) else ((if x0 = (1 : Int32) then (some ((0 : Nat), (0 : Int32))) else (some ((1 : Nat), (0 : Int32))))))
set_option maxHeartbeats 4000000 in
set_option maxRecDepth 100000 in
theorem lb_X8_requireSide_0 {p : Program} {l : Launch} {e : Env} {s : State} {m : MethodId} {args : Array Value} {below : List Frame} {meth : Method} {c : Code} {D : va_G} {E : Nat → ClassId} {sz : Nat} {μ : MP} {ν : NC} {a : AS} {Ad : Nat → Nat → Nat} {w : Nat} {r0 : Int32} (C : cx p s m args meth c D E (Aof (zS μ ν a Ad) [] s.heap.size) cX8_requireSide 1 "TradeLine") (hr : meth.sig.returnType = none) (hz : s.heap.size = sz) {x0 : Int32}   (h : f_X8_requireSide  w μ ν x0 = some (0, r0)) : G p l e ({ frames := 0, cells := 0, slots := 0, locals := 0 } : Room) s m args below meth c D E (Aof (zS μ ν a Ad) [] s.heap.size) 1 (MQ below (cQ D E sz (zS μ ν a Ad) [] (pV (fun u => u = (zS μ ν a Ad, [])))) args s 0 0 (Aof (zS μ ν a Ad) [] s.heap.size)) (zS μ ν a Ad) [] 0 0 0 [(0, .int x0)] [] := by
  unfold f_X8_requireSide at h
  refine g_iload_n C dX8_requireSide_0 rfl 0 rfl ?_
  refine g_if_eq (tgt := 20) C dX8_requireSide_1 (by decide) (fun c1 => ?_) (fun c1 => ?_)
  · replace h := (if_pos c1).symm.trans h
    obtain rfl := congrArg Prod.snd (Option.some.inj h)
    exact g_vret C hr hz ⟨rfl, rfl, fun _ => rfl, fun _ => rfl⟩ rfl (fun j x h => by simp at h) dX8_requireSide_20
  · replace h := (if_neg c1).symm.trans h
    refine g_iload_n C dX8_requireSide_4 rfl 0 rfl ?_
    refine g_iconst (v := (1 : Int32)) C dX8_requireSide_5 (by decide) ?_
    refine g_icmp_eq (tgt := 20) C dX8_requireSide_6 (by decide) (fun c6 => ?_) (fun c6 => ?_)
    · replace h := (if_pos c6).symm.trans h
      obtain rfl := congrArg Prod.snd (Option.some.inj h)
      exact g_vret C hr hz ⟨rfl, rfl, fun _ => rfl, fun _ => rfl⟩ rfl (fun j x h => by simp at h) dX8_requireSide_20
    · replace h := (if_neg c6).symm.trans h
      exact absurd (congrArg Prod.fst (Option.some.inj h)) (by simp)
theorem c_X8_requireSide (l : Launch) (μ : MP) (ν : NC) (a : AS) (Ad : Nat → Nat → Nat) (w : Nat) (x0 : Int32) (r0 : Int32) (h : f_X8_requireSide w μ ν x0 = some (0, r0)) : ∀ D E sz, Met l yX8_requireSide gwX8_requireSide ({ frames := 0, cells := 0, slots := 0, locals := 0 } : Room) (cP D E sz (zS μ ν a Ad) [] [.int x0]) (cQ D E sz (zS μ ν a Ad) [] (pV (fun u => u = (zS μ ν a Ad, [])))) (0) (0) (Aof (zS μ ν a Ad) [] sz) := by
  intro D E sz
  refine g_of (cc := cX8_requireSide) (maxL := 1) (ret := none) (own := "TradeLine") (by decide) rfl rfl (Nat.le_of_ble_eq_true rfl) ?_
  intro p e s m args below meth c C hr hin hz ha hwr
  refine g_lv (lv' := [(0, .int x0)]) [0] rfl ?_
  exact lb_X8_requireSide_0 C hr hz h
set_option maxHeartbeats 4000000 in
set_option maxRecDepth 100000 in
theorem lx_X8_requireSide_0 {p : Program} {l : Launch} {e : Env} {s : State} {m : MethodId} {args : Array Value} {below : List Frame} {meth : Method} {c : Code} {D : va_G} {E : Nat → ClassId} {sz : Nat} {μ : MP} {ν : NC} {a : AS} {Ad : Nat → Nat → Nat} {w nx : Nat} {B : Nat × (Nat → Nat)} {r0 : Int32} (C : cx p s m args meth c D E (Aof (zS μ ν a Ad) [] s.heap.size) cX8_requireSide 1 "TradeLine") (hEv : eV (Ad 30 0) (Ad 31 0) B (Aof (zS μ ν a Ad) [] s.heap.size) s s.heap) (hl : l.stackTraces = false) (hT : ∀ x ∈ c.exceptionTable.toList, False) (hz : s.heap.size = sz) {x0 : Int32}   (h : f_X8_requireSide  w μ ν x0 = some (nx + 1, r0)) : G p l e ({ frames := 6, cells := 1, slots := 6, locals := 100 } : Room) s m args below meth c D E (Aof (zS μ ν a Ad) [] s.heap.size) 1 (vx_MQ below (fun _ _ _ _ => False) (cX D E sz (zS μ ν a Ad) (nx + 1)) args s 1 6 (Aof (zS μ ν a Ad) [] s.heap.size)) (zS μ ν a Ad) [] 0 0 0 [(0, .int x0)] [] := by
  unfold f_X8_requireSide at h
  refine g_iload_n C dX8_requireSide_0 rfl 0 rfl ?_
  refine g_if_eq (tgt := 20) C dX8_requireSide_1 (by decide) (fun c1 => ?_) (fun c1 => ?_)
  · replace h := (if_pos c1).symm.trans h
    exact absurd (congrArg Prod.fst (Option.some.inj h)) (by simp)
  · replace h := (if_neg c1).symm.trans h
    refine g_iload_n C dX8_requireSide_4 rfl 0 rfl ?_
    refine g_iconst (v := (1 : Int32)) C dX8_requireSide_5 (by decide) ?_
    refine g_icmp_eq (tgt := 20) C dX8_requireSide_6 (by decide) (fun c6 => ?_) (fun c6 => ?_)
    · replace h := (if_pos c6).symm.trans h
      exact absurd (congrArg Prod.fst (Option.some.inj h)) (by simp)
    · replace h := (if_neg c6).symm.trans h
      obtain rfl : nx = 0 := by have := congrArg Prod.fst (Option.some.inj h); simp at this; omega
      exact g_thW (n := 1) (ic := 134) (text := "no such side") C hEv hl hT hz (by decide) gw_482 gw_12 (by decide +kernel) exA_1 (by decide) exG_1 dX8_requireSide_9 dX8_requireSide_12 dX8_requireSide_13 dX8_requireSide_16 dX8_requireSide_19 (by decide) (Nat.le_of_ble_eq_true rfl) (by decide) (by decide)
theorem x_X8_requireSide (l : Launch) (hl : l.stackTraces = false) (B : Nat × (Nat → Nat)) (μ : MP) (ν : NC) (a : AS) (Ad : Nat → Nat → Nat) (w : Nat) (x0 : Int32) (nx : Nat) (r0 : Int32) (h : f_X8_requireSide w μ ν x0 = some (nx + 1, r0)) : ∀ D E sz, vx_Met l yX8_requireSide gwX8_requireSide ({ frames := 6, cells := 1, slots := 6, locals := 100 } : Room) (cPe D E sz B (zS μ ν a Ad) [] [] [.int x0]) (fun _ _ _ _ => False) (cX D E sz (zS μ ν a Ad) (nx + 1)) 1 6 (Aof (zS μ ν a Ad) [] sz) := by
  intro D E sz
  refine g_ofx (cc := cX8_requireSide) (maxL := 1) (ret := none) (own := "TradeLine") (by decide) rfl rfl (Nat.le_of_ble_eq_true rfl) ?_
  intro p e s m args below meth c C hT hz ha hEv
  refine g_lv (lv' := [(0, .int x0)]) [0] rfl ?_
  exact lx_X8_requireSide_0 C hEv hl hT hz h
noncomputable def b_X8_requireRange_10  (w : Nat) (μ : MP) (ν : NC) : Option (Nat × (Int32)) := some ((2 : Nat), (0 : Int32))
set_option maxHeartbeats 4000000 in
set_option maxRecDepth 100000 in
theorem lb_X8_requireRange_10 {p : Program} {l : Launch} {e : Env} {s : State} {m : MethodId} {args : Array Value} {below : List Frame} {meth : Method} {c : Code} {D : va_G} {E : Nat → ClassId} {sz : Nat} {μ : MP} {ν : NC} {a : AS} {Ad : Nat → Nat → Nat} {w : Nat} {r0 : Int32} (C : cx p s m args meth c D E (Aof (zS μ ν a Ad) [] s.heap.size) cX8_requireRange 3 "TradeLine") (hr : meth.sig.returnType = none) (hz : s.heap.size = sz)   (h : b_X8_requireRange_10  w μ ν  = some (0, r0)) : G p l e ({ frames := 0, cells := 0, slots := 0, locals := 0 } : Room) s m args below meth c D E (Aof (zS μ ν a Ad) [] s.heap.size) 3 (MQ below (cQ D E sz (zS μ ν a Ad) [] (pV (fun u => u = (zS μ ν a Ad, [])))) args s 0 0 (Aof (zS μ ν a Ad) [] s.heap.size)) (zS μ ν a Ad) [] 0 0 10 [] [] := by
  unfold b_X8_requireRange_10 at h
  exact absurd (congrArg Prod.fst (Option.some.inj h)) (by simp)
noncomputable def f_X8_requireRange  (w : Nat) (μ : MP) (ν : NC) (x0 : Int32) (x1 : Int32) (x2 : Int32) : Option (Nat × (Int32)) := (if x0 < x1 then (b_X8_requireRange_10  w μ ν ) else ((if x0 ≤ x2 then (some ((0 : Nat), (0 : Int32))) else (b_X8_requireRange_10  w μ ν ))))
set_option maxHeartbeats 4000000 in
set_option maxRecDepth 100000 in
theorem lb_X8_requireRange_0 {p : Program} {l : Launch} {e : Env} {s : State} {m : MethodId} {args : Array Value} {below : List Frame} {meth : Method} {c : Code} {D : va_G} {E : Nat → ClassId} {sz : Nat} {μ : MP} {ν : NC} {a : AS} {Ad : Nat → Nat → Nat} {w : Nat} {r0 : Int32} (C : cx p s m args meth c D E (Aof (zS μ ν a Ad) [] s.heap.size) cX8_requireRange 3 "TradeLine") (hr : meth.sig.returnType = none) (hz : s.heap.size = sz) {x0 : Int32} {x1 : Int32} {x2 : Int32}   (h : f_X8_requireRange  w μ ν x0 x1 x2 = some (0, r0)) : G p l e ({ frames := 0, cells := 0, slots := 0, locals := 0 } : Room) s m args below meth c D E (Aof (zS μ ν a Ad) [] s.heap.size) 3 (MQ below (cQ D E sz (zS μ ν a Ad) [] (pV (fun u => u = (zS μ ν a Ad, [])))) args s 0 0 (Aof (zS μ ν a Ad) [] s.heap.size)) (zS μ ν a Ad) [] 0 0 0 [(0, .int x0), (1, .int x1), (2, .int x2)] [] := by
  unfold f_X8_requireRange at h
  refine g_iload_n C dX8_requireRange_0 rfl 0 rfl ?_
  refine g_iload_n C dX8_requireRange_1 rfl 1 rfl ?_
  refine g_icmp_lt (tgt := 10) C dX8_requireRange_2 (by decide) (fun c2 => ?_) (fun c2 => ?_)
  · replace h := (if_pos c2).symm.trans h
    refine g_lv [] rfl ?_
    exact lb_X8_requireRange_10 C hr hz  h
  · replace h := (if_neg c2).symm.trans h
    refine g_iload_n C dX8_requireRange_5 rfl 0 rfl ?_
    refine g_iload_n C dX8_requireRange_6 rfl 2 rfl ?_
    refine g_icmp_le (tgt := 21) C dX8_requireRange_7 (by decide) (fun c7 => ?_) (fun c7 => ?_)
    · replace h := (if_pos c7).symm.trans h
      obtain rfl := congrArg Prod.snd (Option.some.inj h)
      exact g_vret C hr hz ⟨rfl, rfl, fun _ => rfl, fun _ => rfl⟩ rfl (fun j x h => by simp at h) dX8_requireRange_21
    · replace h := (if_neg c7).symm.trans h
      refine g_lv [] rfl ?_
      exact lb_X8_requireRange_10 C hr hz  h
theorem c_X8_requireRange (l : Launch) (μ : MP) (ν : NC) (a : AS) (Ad : Nat → Nat → Nat) (w : Nat) (x0 : Int32) (x1 : Int32) (x2 : Int32) (r0 : Int32) (h : f_X8_requireRange w μ ν x0 x1 x2 = some (0, r0)) : ∀ D E sz, Met l yX8_requireRange gwX8_requireRange ({ frames := 0, cells := 0, slots := 0, locals := 0 } : Room) (cP D E sz (zS μ ν a Ad) [] [.int x0, .int x1, .int x2]) (cQ D E sz (zS μ ν a Ad) [] (pV (fun u => u = (zS μ ν a Ad, [])))) (0) (0) (Aof (zS μ ν a Ad) [] sz) := by
  intro D E sz
  refine g_of (cc := cX8_requireRange) (maxL := 3) (ret := none) (own := "TradeLine") (by decide) rfl rfl (Nat.le_of_ble_eq_true rfl) ?_
  intro p e s m args below meth c C hr hin hz ha hwr
  refine g_lv (lv' := [(0, .int x0), (1, .int x1), (2, .int x2)]) [0, 1, 2] rfl ?_
  exact lb_X8_requireRange_0 C hr hz h
set_option maxHeartbeats 4000000 in
set_option maxRecDepth 100000 in
theorem lx_X8_requireRange_10 {p : Program} {l : Launch} {e : Env} {s : State} {m : MethodId} {args : Array Value} {below : List Frame} {meth : Method} {c : Code} {D : va_G} {E : Nat → ClassId} {sz : Nat} {μ : MP} {ν : NC} {a : AS} {Ad : Nat → Nat → Nat} {w nx : Nat} {B : Nat × (Nat → Nat)} {r0 : Int32} (C : cx p s m args meth c D E (Aof (zS μ ν a Ad) [] s.heap.size) cX8_requireRange 3 "TradeLine") (hEv : eV (Ad 30 0) (Ad 31 0) B (Aof (zS μ ν a Ad) [] s.heap.size) s s.heap) (hl : l.stackTraces = false) (hT : ∀ x ∈ c.exceptionTable.toList, False) (hz : s.heap.size = sz)   (h : b_X8_requireRange_10  w μ ν  = some (nx + 1, r0)) : G p l e ({ frames := 6, cells := 1, slots := 6, locals := 100 } : Room) s m args below meth c D E (Aof (zS μ ν a Ad) [] s.heap.size) 3 (vx_MQ below (fun _ _ _ _ => False) (cX D E sz (zS μ ν a Ad) (nx + 1)) args s 1 6 (Aof (zS μ ν a Ad) [] s.heap.size)) (zS μ ν a Ad) [] 0 0 10 [] [] := by
  unfold b_X8_requireRange_10 at h
  obtain rfl : nx = 1 := by have := congrArg Prod.fst (Option.some.inj h); simp at this; omega
  exact g_thW (n := 2) (ic := 97) (text := "an argument is out of its range") C hEv hl hT hz (by decide) gw_498 gw_15 (by decide +kernel) exA_2 (by decide) exG_2 dX8_requireRange_10 dX8_requireRange_13 dX8_requireRange_14 dX8_requireRange_17 dX8_requireRange_20 (by decide) (Nat.le_of_ble_eq_true rfl) (by decide) (by decide)
set_option maxHeartbeats 4000000 in
set_option maxRecDepth 100000 in
theorem lx_X8_requireRange_0 {p : Program} {l : Launch} {e : Env} {s : State} {m : MethodId} {args : Array Value} {below : List Frame} {meth : Method} {c : Code} {D : va_G} {E : Nat → ClassId} {sz : Nat} {μ : MP} {ν : NC} {a : AS} {Ad : Nat → Nat → Nat} {w nx : Nat} {B : Nat × (Nat → Nat)} {r0 : Int32} (C : cx p s m args meth c D E (Aof (zS μ ν a Ad) [] s.heap.size) cX8_requireRange 3 "TradeLine") (hEv : eV (Ad 30 0) (Ad 31 0) B (Aof (zS μ ν a Ad) [] s.heap.size) s s.heap) (hl : l.stackTraces = false) (hT : ∀ x ∈ c.exceptionTable.toList, False) (hz : s.heap.size = sz) {x0 : Int32} {x1 : Int32} {x2 : Int32}   (h : f_X8_requireRange  w μ ν x0 x1 x2 = some (nx + 1, r0)) : G p l e ({ frames := 6, cells := 1, slots := 6, locals := 100 } : Room) s m args below meth c D E (Aof (zS μ ν a Ad) [] s.heap.size) 3 (vx_MQ below (fun _ _ _ _ => False) (cX D E sz (zS μ ν a Ad) (nx + 1)) args s 1 6 (Aof (zS μ ν a Ad) [] s.heap.size)) (zS μ ν a Ad) [] 0 0 0 [(0, .int x0), (1, .int x1), (2, .int x2)] [] := by
  unfold f_X8_requireRange at h
  refine g_iload_n C dX8_requireRange_0 rfl 0 rfl ?_
  refine g_iload_n C dX8_requireRange_1 rfl 1 rfl ?_
  refine g_icmp_lt (tgt := 10) C dX8_requireRange_2 (by decide) (fun c2 => ?_) (fun c2 => ?_)
  · replace h := (if_pos c2).symm.trans h
    refine g_lv [] rfl ?_
    exact lx_X8_requireRange_10 C hEv hl hT hz  h
  · replace h := (if_neg c2).symm.trans h
    refine g_iload_n C dX8_requireRange_5 rfl 0 rfl ?_
    refine g_iload_n C dX8_requireRange_6 rfl 2 rfl ?_
    refine g_icmp_le (tgt := 21) C dX8_requireRange_7 (by decide) (fun c7 => ?_) (fun c7 => ?_)
    · replace h := (if_pos c7).symm.trans h
      exact absurd (congrArg Prod.fst (Option.some.inj h)) (by simp)
    · replace h := (if_neg c7).symm.trans h
      refine g_lv [] rfl ?_
      exact lx_X8_requireRange_10 C hEv hl hT hz  h
theorem x_X8_requireRange (l : Launch) (hl : l.stackTraces = false) (B : Nat × (Nat → Nat)) (μ : MP) (ν : NC) (a : AS) (Ad : Nat → Nat → Nat) (w : Nat) (x0 : Int32) (x1 : Int32) (x2 : Int32) (nx : Nat) (r0 : Int32) (h : f_X8_requireRange w μ ν x0 x1 x2 = some (nx + 1, r0)) : ∀ D E sz, vx_Met l yX8_requireRange gwX8_requireRange ({ frames := 6, cells := 1, slots := 6, locals := 100 } : Room) (cPe D E sz B (zS μ ν a Ad) [] [] [.int x0, .int x1, .int x2]) (fun _ _ _ _ => False) (cX D E sz (zS μ ν a Ad) (nx + 1)) 1 6 (Aof (zS μ ν a Ad) [] sz) := by
  intro D E sz
  refine g_ofx (cc := cX8_requireRange) (maxL := 3) (ret := none) (own := "TradeLine") (by decide) rfl rfl (Nat.le_of_ble_eq_true rfl) ?_
  intro p e s m args below meth c C hT hz ha hEv
  refine g_lv (lv' := [(0, .int x0), (1, .int x1), (2, .int x2)]) [0, 1, 2] rfl ?_
  exact lx_X8_requireRange_0 C hEv hl hT hz h
noncomputable def f_X8_requireMessage  (w : Nat) (μ : MP) (ν : NC) (x1 : Int32) (x2 : Int32) : Option (Nat × (Nat)) := (f_X8_requireSide w μ ν x1).bind (fun v1 => bif eqB v1.1 0 then bif ltB 0 (ν.2 0) then (f_X8_party w μ ν x1).bind (fun v3 => bif nzB v3 then bif ltB (v3 - 1) (ν.2 1) then (f_X5_message w μ ν (v3 - 1) x2).bind (fun v6 => (if v6 = 0 then (some ((1 : Nat), (0 : Nat))) else (some ((0 : Nat), ((v6 - 1) + 1))))) else none else none) else none else some (v1.1, (0 : Nat)))
set_option maxHeartbeats 4000000 in
set_option maxRecDepth 100000 in
theorem lb_X8_requireMessage_0 {p : Program} {l : Launch} {e : Env} {s : State} {m : MethodId} {args : Array Value} {below : List Frame} {meth : Method} {c : Code} {D : va_G} {E : Nat → ClassId} {sz : Nat} {μ : MP} {ν : NC} {a : AS} {Ad : Nat → Nat → Nat} {w : Nat} {r0 : Nat} (C : cx p s m args meth c D E (Aof (zS μ ν a Ad) [] s.heap.size) cX8_requireMessage 4 "TradeLine") (hr : meth.sig.returnType = (some (.object "TradeLine$Message"))) (hz : s.heap.size = sz) {x1 : Int32} {x2 : Int32}   (h : f_X8_requireMessage  w μ ν x1 x2 = some (0, r0)) : G p l e ({ frames := 4, cells := 0, slots := 0, locals := 102 } : Room) s m args below meth c D E (Aof (zS μ ν a Ad) [] s.heap.size) 4 (MQ below (cQ D E sz (zS μ ν a Ad) [] (pQ (fun r u => r = nv (Ad 6) r0 ∧ u = (zS μ ν a Ad, [])))) args s 0 0 (Aof (zS μ ν a Ad) [] s.heap.size)) (zS μ ν a Ad) [] 0 0 0 [(0, .ref (Ad 0 0)), (1, .int x1), (2, .int x2)] [] := by
  unfold f_X8_requireMessage at h
  refine g_iload_n C dX8_requireMessage_0 rfl 1 rfl ?_
  obtain ⟨v1, hv1, h⟩ := bind_of h
  obtain ⟨nv1, h⟩ := of_thr h
  refine g_cSv (n := 1) (exc := []) (exr := []) C [_] _ rfl rfl [] [] rfl rfl rfl rfl (fun _ h => absurd h (by simp)) (fun _ h => absurd h (by simp)) (fun _ h => absurd h (by simp)) (fun sz => c_X8_requireSide l μ ν a Ad w x1 _ (thr0 hv1 nv1) D E sz) rfl gw_481 gw_1 gw_479 gw_480 ⟨by decide +kernel, by decide +kernel, by decide +kernel⟩ ⟨rfl, rfl⟩ ⟨Nat.le_of_ble_eq_true rfl, Nat.le_of_ble_eq_true rfl⟩ (Nat.le_of_ble_eq_true rfl) dX8_requireMessage_1 ⟨by decide, by decide⟩ (fun u hp hx => ?_)
  obtain rfl := hp
  try dsimp only [List.append_nil]
  refine g_aload_n C dX8_requireMessage_4 rfl 0 rfl ?_
  refine g_iload_n C dX8_requireMessage_5 rfl 1 rfl ?_
  obtain ⟨g2, h⟩ := of_guard h
  obtain ⟨v3, hv3, h⟩ := bind_of h
  refine g_cVq (n := 1) (exc := []) (exr := []) C [_] _ rfl rfl [] [] rfl rfl rfl rfl (fun _ h => absurd h (by simp)) (fun _ h => absurd h (by simp)) (fun _ h => absurd h (by simp)) (fun sz => c_X8_party l μ ν a Ad w x1 _ hv3 D E sz) rfl gw_304 gw_1 gw_301 gw_303 gs_2 ⟨by decide +kernel, by decide +kernel, by decide +kernel⟩ ⟨rfl, rfl⟩ ⟨Nat.le_of_ble_eq_true rfl, Nat.le_of_ble_eq_true rfl⟩ (rcvT (lvZ g2 rfl) rfl rfl rfl) (Nat.le_of_ble_eq_true rfl) dX8_requireMessage_6 ⟨by decide, by decide⟩ (fun r u hp hx => ?_)
  obtain ⟨er, rfl⟩ := hp
  rw [er]
  try dsimp only [List.append_nil]
  refine g_iload_n C dX8_requireMessage_9 rfl 2 rfl ?_
  obtain ⟨g4, h⟩ := of_guard h
  rw [nzB_e g4]
  obtain ⟨g5, h⟩ := of_guard h
  obtain ⟨v6, hv6, h⟩ := bind_of h
  refine g_cVq (n := 1) (exc := []) (exr := []) C [_] _ rfl rfl [] [] rfl rfl rfl rfl (fun _ h => absurd h (by simp)) (fun _ h => absurd h (by simp)) (fun _ h => absurd h (by simp)) (fun sz => c_X5_message l μ ν a Ad w (v3 - 1) x2 _ hv6 D E sz) rfl gw_538 gw_2 gw_535 gw_536 gw_537 ⟨by decide +kernel, by decide +kernel, by decide +kernel⟩ ⟨rfl, rfl⟩ ⟨Nat.le_of_ble_eq_true rfl, Nat.le_of_ble_eq_true rfl⟩ (rcvT (lvZ g5 rfl) rfl rfl rfl) (Nat.le_of_ble_eq_true rfl) dX8_requireMessage_10 ⟨by decide, by decide⟩ (fun r u hp hx => ?_)
  obtain ⟨er, rfl⟩ := hp
  rw [er]
  try dsimp only [List.append_nil]
  refine z_astore_n (i := 3) (lv' := [(3, nv (Ad 6) v6), (0, .ref (Ad 0 0)), (1, .int x1), (2, .int x2)]) C dX8_requireMessage_13 (nv_or _ _) rfl (by decide) (by simp [nv_cat, cat_i, cat_r, cat_n]) ?_
  refine z_aload_n C dX8_requireMessage_14 rfl 0 rfl (nv_or _ _) ?_
  by_cases c15 : v6 = 0
  · replace h := (if_pos c15).symm.trans h
    rw [nv_z c15]
    refine z_ifnonnullN C dX8_requireMessage_15 ?_
    exact absurd (congrArg Prod.fst (Option.some.inj h)) (by simp)
  · replace h := (if_neg c15).symm.trans h
    rw [nv_n c15]
    refine z_ifnonnull (tgt := 29) C dX8_requireMessage_15 (by decide) ?_
    refine g_aload_n C dX8_requireMessage_29 rfl 0 rfl ?_
    obtain rfl := congrArg Prod.snd (Option.some.inj h)
    exact g_aret C hr (Or.inl ⟨_, rfl⟩) (Or.inr ⟨_, rfl⟩) hz ⟨rfl, rfl, fun _ => rfl, fun _ => rfl⟩ ⟨rfl, rfl⟩ (fun j x h => by simp at h) dX8_requireMessage_30
theorem c_X8_requireMessage (l : Launch) (μ : MP) (ν : NC) (a : AS) (Ad : Nat → Nat → Nat) (w : Nat) (x1 : Int32) (x2 : Int32) (r0 : Nat) (h : f_X8_requireMessage w μ ν x1 x2 = some (0, r0)) : ∀ D E sz, Met l yX8_requireMessage gwX8_requireMessage ({ frames := 4, cells := 0, slots := 0, locals := 102 } : Room) (cP D E sz (zS μ ν a Ad) [] [.ref (Ad 0 0), .int x1, .int x2]) (cQ D E sz (zS μ ν a Ad) [] (pQ (fun r u => r = nv (Ad 6) r0 ∧ u = (zS μ ν a Ad, [])))) (0) (0) (Aof (zS μ ν a Ad) [] sz) := by
  intro D E sz
  refine g_of (cc := cX8_requireMessage) (maxL := 4) (ret := (some (.object "TradeLine$Message"))) (own := "TradeLine") (by decide) rfl rfl (Nat.le_of_ble_eq_true rfl) ?_
  intro p e s m args below meth c C hr hin hz ha hwr
  refine g_lv (lv' := [(0, .ref (Ad 0 0)), (1, .int x1), (2, .int x2)]) [0, 1, 2] rfl ?_
  exact lb_X8_requireMessage_0 C hr hz h
set_option maxHeartbeats 4000000 in
set_option maxRecDepth 100000 in
theorem lx_X8_requireMessage_0 {p : Program} {l : Launch} {e : Env} {s : State} {m : MethodId} {args : Array Value} {below : List Frame} {meth : Method} {c : Code} {D : va_G} {E : Nat → ClassId} {sz : Nat} {μ : MP} {ν : NC} {a : AS} {Ad : Nat → Nat → Nat} {w nx : Nat} {B : Nat × (Nat → Nat)} {r0 : Nat} (C : cx p s m args meth c D E (Aof (zS μ ν a Ad) [] s.heap.size) cX8_requireMessage 4 "TradeLine") (hEv : eV (Ad 30 0) (Ad 31 0) B (Aof (zS μ ν a Ad) [] s.heap.size) s s.heap) (hl : l.stackTraces = false) (hT : ∀ x ∈ c.exceptionTable.toList, False) (hz : s.heap.size = sz) {x1 : Int32} {x2 : Int32}   (h : f_X8_requireMessage  w μ ν x1 x2 = some (nx + 1, r0)) : G p l e ({ frames := 7, cells := 1, slots := 6, locals := 120 } : Room) s m args below meth c D E (Aof (zS μ ν a Ad) [] s.heap.size) 4 (vx_MQ below (fun _ _ _ _ => False) (cX D E sz (zS μ ν a Ad) (nx + 1)) args s 1 6 (Aof (zS μ ν a Ad) [] s.heap.size)) (zS μ ν a Ad) [] 0 0 0 [(0, .ref (Ad 0 0)), (1, .int x1), (2, .int x2)] [] := by
  unfold f_X8_requireMessage at h
  refine g_iload_n C dX8_requireMessage_0 rfl 1 rfl ?_
  obtain ⟨v1, hv1, h⟩ := bind_of h
  rcases of_thx h with ⟨nv1, h⟩ | nv1
  · refine g_cSv (n := 1) (exc := []) (exr := []) C [_] _ rfl rfl [] [] rfl rfl rfl rfl (fun _ h => absurd h (by simp)) (fun _ h => absurd h (by simp)) (fun _ h => absurd h (by simp)) (fun sz => c_X8_requireSide l μ ν a Ad w x1 _ (thr0 hv1 nv1) D E sz) rfl gw_481 gw_1 gw_479 gw_480 ⟨by decide +kernel, by decide +kernel, by decide +kernel⟩ ⟨rfl, rfl⟩ ⟨Nat.le_of_ble_eq_true rfl, Nat.le_of_ble_eq_true rfl⟩ (Nat.le_of_ble_eq_true rfl) dX8_requireMessage_1 ⟨by decide, by decide⟩ (fun u hp hx => ?_)
    obtain rfl := hp
    try dsimp only [List.append_nil]
    refine g_aload_n C dX8_requireMessage_4 rfl 0 rfl ?_
    refine g_iload_n C dX8_requireMessage_5 rfl 1 rfl ?_
    obtain ⟨g2, h⟩ := of_guard h
    obtain ⟨v3, hv3, h⟩ := bind_of h
    refine g_cVq (n := 1) (exc := []) (exr := []) C [_] _ rfl rfl [] [] rfl rfl rfl rfl (fun _ h => absurd h (by simp)) (fun _ h => absurd h (by simp)) (fun _ h => absurd h (by simp)) (fun sz => c_X8_party l μ ν a Ad w x1 _ hv3 D E sz) rfl gw_304 gw_1 gw_301 gw_303 gs_2 ⟨by decide +kernel, by decide +kernel, by decide +kernel⟩ ⟨rfl, rfl⟩ ⟨Nat.le_of_ble_eq_true rfl, Nat.le_of_ble_eq_true rfl⟩ (rcvT (lvZ g2 rfl) rfl rfl rfl) (Nat.le_of_ble_eq_true rfl) dX8_requireMessage_6 ⟨by decide, by decide⟩ (fun r u hp hx => ?_)
    obtain ⟨er, rfl⟩ := hp
    rw [er]
    try dsimp only [List.append_nil]
    refine g_iload_n C dX8_requireMessage_9 rfl 2 rfl ?_
    obtain ⟨g4, h⟩ := of_guard h
    rw [nzB_e g4]
    obtain ⟨g5, h⟩ := of_guard h
    obtain ⟨v6, hv6, h⟩ := bind_of h
    refine g_cVq (n := 1) (exc := []) (exr := []) C [_] _ rfl rfl [] [] rfl rfl rfl rfl (fun _ h => absurd h (by simp)) (fun _ h => absurd h (by simp)) (fun _ h => absurd h (by simp)) (fun sz => c_X5_message l μ ν a Ad w (v3 - 1) x2 _ hv6 D E sz) rfl gw_538 gw_2 gw_535 gw_536 gw_537 ⟨by decide +kernel, by decide +kernel, by decide +kernel⟩ ⟨rfl, rfl⟩ ⟨Nat.le_of_ble_eq_true rfl, Nat.le_of_ble_eq_true rfl⟩ (rcvT (lvZ g5 rfl) rfl rfl rfl) (Nat.le_of_ble_eq_true rfl) dX8_requireMessage_10 ⟨by decide, by decide⟩ (fun r u hp hx => ?_)
    obtain ⟨er, rfl⟩ := hp
    rw [er]
    try dsimp only [List.append_nil]
    refine z_astore_n (i := 3) (lv' := [(3, nv (Ad 6) v6), (0, .ref (Ad 0 0)), (1, .int x1), (2, .int x2)]) C dX8_requireMessage_13 (nv_or _ _) rfl (by decide) (by simp [nv_cat, cat_i, cat_r, cat_n]) ?_
    refine z_aload_n C dX8_requireMessage_14 rfl 0 rfl (nv_or _ _) ?_
    by_cases c15 : v6 = 0
    · replace h := (if_pos c15).symm.trans h
      rw [nv_z c15]
      refine z_ifnonnullN C dX8_requireMessage_15 ?_
      obtain rfl : nx = 0 := by have := congrArg Prod.fst (Option.some.inj h); simp at this; omega
      exact g_thW (n := 1) (ic := 134) (text := "no such message") C hEv hl hT hz (by decide) gw_482 gw_12 (by decide +kernel) exA_1 (by decide) exG_1 dX8_requireMessage_18 dX8_requireMessage_21 dX8_requireMessage_22 dX8_requireMessage_25 dX8_requireMessage_28 (by decide) (Nat.le_of_ble_eq_true rfl) (by decide) (by decide)
    · replace h := (if_neg c15).symm.trans h
      rw [nv_n c15]
      refine z_ifnonnull (tgt := 29) C dX8_requireMessage_15 (by decide) ?_
      refine g_aload_n C dX8_requireMessage_29 rfl 0 rfl ?_
      exact absurd (congrArg Prod.fst (Option.some.inj h)) (by simp)
  · exact g_xS (index := 1) C hEv ⟨rfl, rfl⟩ hT hz [_] _ rfl rfl (fun sz => x_X8_requireSide l hl B μ ν a Ad w x1 _ _ (thrS hv1 nv1) D E sz) rfl gw_481 gw_1 gw_479 gw_480 ⟨by decide +kernel, by decide +kernel, by decide +kernel⟩ ⟨rfl, rfl⟩ ⟨Nat.le_of_ble_eq_true rfl, Nat.le_of_ble_eq_true rfl⟩ (Nat.le_of_ble_eq_true rfl) dX8_requireMessage_1 ⟨by decide, by decide⟩
theorem x_X8_requireMessage (l : Launch) (hl : l.stackTraces = false) (B : Nat × (Nat → Nat)) (μ : MP) (ν : NC) (a : AS) (Ad : Nat → Nat → Nat) (w : Nat) (x1 : Int32) (x2 : Int32) (nx : Nat) (r0 : Nat) (h : f_X8_requireMessage w μ ν x1 x2 = some (nx + 1, r0)) : ∀ D E sz, vx_Met l yX8_requireMessage gwX8_requireMessage ({ frames := 7, cells := 1, slots := 6, locals := 120 } : Room) (cPe D E sz B (zS μ ν a Ad) [] [] [.ref (Ad 0 0), .int x1, .int x2]) (fun _ _ _ _ => False) (cX D E sz (zS μ ν a Ad) (nx + 1)) 1 6 (Aof (zS μ ν a Ad) [] sz) := by
  intro D E sz
  refine g_ofx (cc := cX8_requireMessage) (maxL := 4) (ret := (some (.object "TradeLine$Message"))) (own := "TradeLine") (by decide) rfl rfl (Nat.le_of_ble_eq_true rfl) ?_
  intro p e s m args below meth c C hT hz ha hEv
  refine g_lv (lv' := [(0, .ref (Ad 0 0)), (1, .int x1), (2, .int x2)]) [0, 1, 2] rfl ?_
  exact lx_X8_requireMessage_0 C hEv hl hT hz h
noncomputable def f_X8_requireOrder  (w : Nat) (μ : MP) (ν : NC) (x1 : Int32) : Option (Nat × (Nat)) := bif ltB 0 (ν.2 0) then (f_X8_findOrder w μ ν x1).bind (fun v2 => (if v2 = 0 then (some ((1 : Nat), (0 : Nat))) else (some ((0 : Nat), ((v2 - 1) + 1))))) else none
set_option maxHeartbeats 4000000 in
set_option maxRecDepth 100000 in
theorem lb_X8_requireOrder_0 {p : Program} {l : Launch} {e : Env} {s : State} {m : MethodId} {args : Array Value} {below : List Frame} {meth : Method} {c : Code} {D : va_G} {E : Nat → ClassId} {sz : Nat} {μ : MP} {ν : NC} {a : AS} {Ad : Nat → Nat → Nat} {w : Nat} {r0 : Nat} (C : cx p s m args meth c D E (Aof (zS μ ν a Ad) [] s.heap.size) cX8_requireOrder 3 "TradeLine") (hr : meth.sig.returnType = (some (.object "TradeLine$Order"))) (hz : s.heap.size = sz) {x1 : Int32}   (h : f_X8_requireOrder  w μ ν x1 = some (0, r0)) : G p l e ({ frames := 4, cells := 0, slots := 0, locals := 102 } : Room) s m args below meth c D E (Aof (zS μ ν a Ad) [] s.heap.size) 3 (MQ below (cQ D E sz (zS μ ν a Ad) [] (pQ (fun r u => r = nv (Ad 20) r0 ∧ u = (zS μ ν a Ad, [])))) args s 0 0 (Aof (zS μ ν a Ad) [] s.heap.size)) (zS μ ν a Ad) [] 0 0 0 [(0, .ref (Ad 0 0)), (1, .int x1)] [] := by
  unfold f_X8_requireOrder at h
  refine g_aload_n C dX8_requireOrder_0 rfl 0 rfl ?_
  refine g_iload_n C dX8_requireOrder_1 rfl 1 rfl ?_
  obtain ⟨g1, h⟩ := of_guard h
  obtain ⟨v2, hv2, h⟩ := bind_of h
  refine g_cVq (n := 1) (exc := []) (exr := []) C [_] _ rfl rfl [] [] rfl rfl rfl rfl (fun _ h => absurd h (by simp)) (fun _ h => absurd h (by simp)) (fun _ h => absurd h (by simp)) (fun sz => c_X8_findOrder l μ ν a Ad w x1 _ hv2 D E sz) rfl gw_575 gw_1 gw_572 gw_574 gs_13 ⟨by decide +kernel, by decide +kernel, by decide +kernel⟩ ⟨rfl, rfl⟩ ⟨Nat.le_of_ble_eq_true rfl, Nat.le_of_ble_eq_true rfl⟩ (rcvT (lvZ g1 rfl) rfl rfl rfl) (Nat.le_of_ble_eq_true rfl) dX8_requireOrder_2 ⟨by decide, by decide⟩ (fun r u hp hx => ?_)
  obtain ⟨er, rfl⟩ := hp
  rw [er]
  try dsimp only [List.append_nil]
  refine z_astore_n (i := 2) (lv' := [(2, nv (Ad 20) v2), (0, .ref (Ad 0 0)), (1, .int x1)]) C dX8_requireOrder_5 (nv_or _ _) rfl (by decide) (by simp [nv_cat, cat_i, cat_r, cat_n]) ?_
  refine z_aload_n C dX8_requireOrder_6 rfl 0 rfl (nv_or _ _) ?_
  by_cases c7 : v2 = 0
  · replace h := (if_pos c7).symm.trans h
    rw [nv_z c7]
    refine z_ifnonnullN C dX8_requireOrder_7 ?_
    exact absurd (congrArg Prod.fst (Option.some.inj h)) (by simp)
  · replace h := (if_neg c7).symm.trans h
    rw [nv_n c7]
    refine z_ifnonnull (tgt := 21) C dX8_requireOrder_7 (by decide) ?_
    refine g_aload_n C dX8_requireOrder_21 rfl 0 rfl ?_
    obtain rfl := congrArg Prod.snd (Option.some.inj h)
    exact g_aret C hr (Or.inl ⟨_, rfl⟩) (Or.inr ⟨_, rfl⟩) hz ⟨rfl, rfl, fun _ => rfl, fun _ => rfl⟩ ⟨rfl, rfl⟩ (fun j x h => by simp at h) dX8_requireOrder_22
theorem c_X8_requireOrder (l : Launch) (μ : MP) (ν : NC) (a : AS) (Ad : Nat → Nat → Nat) (w : Nat) (x1 : Int32) (r0 : Nat) (h : f_X8_requireOrder w μ ν x1 = some (0, r0)) : ∀ D E sz, Met l yX8_requireOrder gwX8_requireOrder ({ frames := 4, cells := 0, slots := 0, locals := 102 } : Room) (cP D E sz (zS μ ν a Ad) [] [.ref (Ad 0 0), .int x1]) (cQ D E sz (zS μ ν a Ad) [] (pQ (fun r u => r = nv (Ad 20) r0 ∧ u = (zS μ ν a Ad, [])))) (0) (0) (Aof (zS μ ν a Ad) [] sz) := by
  intro D E sz
  refine g_of (cc := cX8_requireOrder) (maxL := 3) (ret := (some (.object "TradeLine$Order"))) (own := "TradeLine") (by decide) rfl rfl (Nat.le_of_ble_eq_true rfl) ?_
  intro p e s m args below meth c C hr hin hz ha hwr
  refine g_lv (lv' := [(0, .ref (Ad 0 0)), (1, .int x1)]) [0, 1] rfl ?_
  exact lb_X8_requireOrder_0 C hr hz h
set_option maxHeartbeats 4000000 in
set_option maxRecDepth 100000 in
theorem lx_X8_requireOrder_0 {p : Program} {l : Launch} {e : Env} {s : State} {m : MethodId} {args : Array Value} {below : List Frame} {meth : Method} {c : Code} {D : va_G} {E : Nat → ClassId} {sz : Nat} {μ : MP} {ν : NC} {a : AS} {Ad : Nat → Nat → Nat} {w nx : Nat} {B : Nat × (Nat → Nat)} {r0 : Nat} (C : cx p s m args meth c D E (Aof (zS μ ν a Ad) [] s.heap.size) cX8_requireOrder 3 "TradeLine") (hEv : eV (Ad 30 0) (Ad 31 0) B (Aof (zS μ ν a Ad) [] s.heap.size) s s.heap) (hl : l.stackTraces = false) (hT : ∀ x ∈ c.exceptionTable.toList, False) (hz : s.heap.size = sz) {x1 : Int32}   (h : f_X8_requireOrder  w μ ν x1 = some (nx + 1, r0)) : G p l e ({ frames := 6, cells := 1, slots := 6, locals := 102 } : Room) s m args below meth c D E (Aof (zS μ ν a Ad) [] s.heap.size) 3 (vx_MQ below (fun _ _ _ _ => False) (cX D E sz (zS μ ν a Ad) (nx + 1)) args s 1 6 (Aof (zS μ ν a Ad) [] s.heap.size)) (zS μ ν a Ad) [] 0 0 0 [(0, .ref (Ad 0 0)), (1, .int x1)] [] := by
  unfold f_X8_requireOrder at h
  refine g_aload_n C dX8_requireOrder_0 rfl 0 rfl ?_
  refine g_iload_n C dX8_requireOrder_1 rfl 1 rfl ?_
  obtain ⟨g1, h⟩ := of_guard h
  obtain ⟨v2, hv2, h⟩ := bind_of h
  refine g_cVq (n := 1) (exc := []) (exr := []) C [_] _ rfl rfl [] [] rfl rfl rfl rfl (fun _ h => absurd h (by simp)) (fun _ h => absurd h (by simp)) (fun _ h => absurd h (by simp)) (fun sz => c_X8_findOrder l μ ν a Ad w x1 _ hv2 D E sz) rfl gw_575 gw_1 gw_572 gw_574 gs_13 ⟨by decide +kernel, by decide +kernel, by decide +kernel⟩ ⟨rfl, rfl⟩ ⟨Nat.le_of_ble_eq_true rfl, Nat.le_of_ble_eq_true rfl⟩ (rcvT (lvZ g1 rfl) rfl rfl rfl) (Nat.le_of_ble_eq_true rfl) dX8_requireOrder_2 ⟨by decide, by decide⟩ (fun r u hp hx => ?_)
  obtain ⟨er, rfl⟩ := hp
  rw [er]
  try dsimp only [List.append_nil]
  refine z_astore_n (i := 2) (lv' := [(2, nv (Ad 20) v2), (0, .ref (Ad 0 0)), (1, .int x1)]) C dX8_requireOrder_5 (nv_or _ _) rfl (by decide) (by simp [nv_cat, cat_i, cat_r, cat_n]) ?_
  refine z_aload_n C dX8_requireOrder_6 rfl 0 rfl (nv_or _ _) ?_
  by_cases c7 : v2 = 0
  · replace h := (if_pos c7).symm.trans h
    rw [nv_z c7]
    refine z_ifnonnullN C dX8_requireOrder_7 ?_
    obtain rfl : nx = 0 := by have := congrArg Prod.fst (Option.some.inj h); simp at this; omega
    exact g_thW (n := 1) (ic := 134) (text := "no such order") C hEv hl hT hz (by decide) gw_482 gw_12 (by decide +kernel) exA_1 (by decide) exG_1 dX8_requireOrder_10 dX8_requireOrder_13 dX8_requireOrder_14 dX8_requireOrder_17 dX8_requireOrder_20 (by decide) (Nat.le_of_ble_eq_true rfl) (by decide) (by decide)
  · replace h := (if_neg c7).symm.trans h
    rw [nv_n c7]
    refine z_ifnonnull (tgt := 21) C dX8_requireOrder_7 (by decide) ?_
    refine g_aload_n C dX8_requireOrder_21 rfl 0 rfl ?_
    exact absurd (congrArg Prod.fst (Option.some.inj h)) (by simp)
theorem x_X8_requireOrder (l : Launch) (hl : l.stackTraces = false) (B : Nat × (Nat → Nat)) (μ : MP) (ν : NC) (a : AS) (Ad : Nat → Nat → Nat) (w : Nat) (x1 : Int32) (nx : Nat) (r0 : Nat) (h : f_X8_requireOrder w μ ν x1 = some (nx + 1, r0)) : ∀ D E sz, vx_Met l yX8_requireOrder gwX8_requireOrder ({ frames := 6, cells := 1, slots := 6, locals := 102 } : Room) (cPe D E sz B (zS μ ν a Ad) [] [] [.ref (Ad 0 0), .int x1]) (fun _ _ _ _ => False) (cX D E sz (zS μ ν a Ad) (nx + 1)) 1 6 (Aof (zS μ ν a Ad) [] sz) := by
  intro D E sz
  refine g_ofx (cc := cX8_requireOrder) (maxL := 3) (ret := (some (.object "TradeLine$Order"))) (own := "TradeLine") (by decide) rfl rfl (Nat.le_of_ble_eq_true rfl) ?_
  intro p e s m args below meth c C hT hz ha hEv
  refine g_lv (lv' := [(0, .ref (Ad 0 0)), (1, .int x1)]) [0, 1] rfl ?_
  exact lx_X8_requireOrder_0 C hEv hl hT hz h
noncomputable def b_X8_requireAskable_26  (w : Nat) (μ : MP) (ν : NC) : Option (Nat × (Int32)) := some ((3 : Nat), (0 : Int32))
set_option maxHeartbeats 4000000 in
set_option maxRecDepth 100000 in
theorem lb_X8_requireAskable_26 {p : Program} {l : Launch} {e : Env} {s : State} {m : MethodId} {args : Array Value} {below : List Frame} {meth : Method} {c : Code} {D : va_G} {E : Nat → ClassId} {sz : Nat} {μ : MP} {ν : NC} {a : AS} {Ad : Nat → Nat → Nat} {w : Nat} {r0 : Int32} (C : cx p s m args meth c D E (Aof (zS μ ν a Ad) [] s.heap.size) cX8_requireAskable 2 "TradeLine") (hr : meth.sig.returnType = none) (hz : s.heap.size = sz)   (h : b_X8_requireAskable_26  w μ ν  = some (0, r0)) : G p l e ({ frames := 2, cells := 0, slots := 0, locals := 40 } : Room) s m args below meth c D E (Aof (zS μ ν a Ad) [] s.heap.size) 2 (MQ below (cQ D E sz (zS μ ν a Ad) [] (pV (fun u => u = (zS μ ν a Ad, [])))) args s 0 0 (Aof (zS μ ν a Ad) [] s.heap.size)) (zS μ ν a Ad) [] 0 0 26 [(0, .ref (Ad 0 0))] [] := by
  unfold b_X8_requireAskable_26 at h
  exact absurd (congrArg Prod.fst (Option.some.inj h)) (by simp)
noncomputable def f_X8_requireAskable  (w : Nat) (μ : MP) (ν : NC) (p1 : Nat) : Option (Nat × (Int32)) := bif ltB 0 (ν.2 0) then bif ltB 0 (ν.2 1) then (if (μ.1 1 0 3) = (0 : Int32) then (b_X8_requireAskable_26  w μ ν ) else (bif nzB p1 then bif ltB (p1 - 1) (ν.2 20) then (f_X4_state w μ ν (p1 - 1) ).bind (fun v5 => (if v5 = (2 : Int32) then (b_X8_requireAskable_26  w μ ν ) else ((if (μ.1 20 (p1 - 1) 7) < (5 : Int32) then (some ((0 : Nat), (0 : Int32))) else (b_X8_requireAskable_26  w μ ν ))))) else none else none)) else none else none
set_option maxHeartbeats 4000000 in
set_option maxRecDepth 100000 in
theorem lb_X8_requireAskable_0 {p : Program} {l : Launch} {e : Env} {s : State} {m : MethodId} {args : Array Value} {below : List Frame} {meth : Method} {c : Code} {D : va_G} {E : Nat → ClassId} {sz : Nat} {μ : MP} {ν : NC} {a : AS} {Ad : Nat → Nat → Nat} {w : Nat} {r0 : Int32} (C : cx p s m args meth c D E (Aof (zS μ ν a Ad) [] s.heap.size) cX8_requireAskable 2 "TradeLine") (hr : meth.sig.returnType = none) (hz : s.heap.size = sz) {p1 : Nat}   (h : f_X8_requireAskable  w μ ν p1 = some (0, r0)) : G p l e ({ frames := 2, cells := 0, slots := 0, locals := 40 } : Room) s m args below meth c D E (Aof (zS μ ν a Ad) [] s.heap.size) 2 (MQ below (cQ D E sz (zS μ ν a Ad) [] (pV (fun u => u = (zS μ ν a Ad, [])))) args s 0 0 (Aof (zS μ ν a Ad) [] s.heap.size)) (zS μ ν a Ad) [] 0 0 0 [(0, .ref (Ad 0 0)), (1, nv (Ad 20) p1)] [] := by
  unfold f_X8_requireAskable at h
  refine g_aload_n C dX8_requireAskable_0 rfl 0 rfl ?_
  obtain ⟨g1, h⟩ := of_guard h
  refine g_get (k := 0) (i := 0) (ref := "TradeLine") (v := .ref (Ad 1 0)) C rfl (lvZ g1 rfl) rfl rfl inGX8 0 (by decide) gw_170 (fun _ h => h) rfl dX8_requireAskable_1 ?_
  obtain ⟨g2, h⟩ := of_guard h
  refine g_get (k := 1) (i := 0) (ref := "TradeLine$Party") (v := .int (μ.1 1 0 3)) C rfl (lvZ g2 rfl) rfl rfl inGX5 3 (by decide) gw_118 (fun _ h => h) rfl dX8_requireAskable_4 ?_
  refine g_if_eq (tgt := 26) C dX8_requireAskable_7 (by decide) (fun c7 => ?_) (fun c7 => ?_)
  · replace h := (if_pos c7).symm.trans h
    refine g_lv [0] rfl ?_
    exact lb_X8_requireAskable_26 C hr hz  h
  · replace h := (if_neg c7).symm.trans h
    refine z_aload_n C dX8_requireAskable_10 rfl 1 rfl (nv_or _ _) ?_
    obtain ⟨g3, h⟩ := of_guard h
    rw [nzB_e g3]
    obtain ⟨g4, h⟩ := of_guard h
    obtain ⟨v5, hv5, h⟩ := bind_of h
    refine g_cVi (n := 0) (exc := []) (exr := []) C [] _ rfl rfl [] [] rfl rfl rfl rfl (fun _ h => absurd h (by simp)) (fun _ h => absurd h (by simp)) (fun _ h => absurd h (by simp)) (fun sz => c_X4_state l μ ν a Ad w (p1 - 1)  _ hv5 D E sz) rfl gw_1164 gw_30 gw_1161 gw_1162 gw_1163 ⟨by decide +kernel, by decide +kernel, by decide +kernel⟩ ⟨rfl, rfl⟩ ⟨Nat.le_of_ble_eq_true rfl, Nat.le_of_ble_eq_true rfl⟩ (rcvT (lvZ g4 rfl) rfl rfl rfl) (Nat.le_of_ble_eq_true rfl) dX8_requireAskable_11 ⟨by decide, by decide⟩ (fun r u hp hx => ?_)
    obtain ⟨er, rfl⟩ := hp
    rw [er]
    try dsimp only [List.append_nil]
    refine g_iconst (v := (2 : Int32)) C dX8_requireAskable_14 (by decide) ?_
    refine g_icmp_eq (tgt := 26) C dX8_requireAskable_15 (by decide) (fun c15 => ?_) (fun c15 => ?_)
    · replace h := (if_pos c15).symm.trans h
      refine g_lv [0] rfl ?_
      exact lb_X8_requireAskable_26 C hr hz  h
    · replace h := (if_neg c15).symm.trans h
      refine g_aload_n C dX8_requireAskable_18 rfl 1 rfl ?_
      refine g_get (k := 20) (i := (p1 - 1)) (ref := "TradeLine$Order") (v := .int (μ.1 20 (p1 - 1) 7)) C rfl (lvZ g4 rfl) rfl rfl inGX4 7 (by decide) gw_1123 (fun _ h => h) rfl dX8_requireAskable_19 ?_
      refine g_iconst (v := (5 : Int32)) C dX8_requireAskable_22 (by decide) ?_
      refine g_icmp_lt (tgt := 37) C dX8_requireAskable_23 (by decide) (fun c23 => ?_) (fun c23 => ?_)
      · replace h := (if_pos c23).symm.trans h
        obtain rfl := congrArg Prod.snd (Option.some.inj h)
        exact g_vret C hr hz ⟨rfl, rfl, fun _ => rfl, fun _ => rfl⟩ rfl (fun j x h => by simp at h) dX8_requireAskable_37
      · replace h := (if_neg c23).symm.trans h
        refine g_lv [0] rfl ?_
        exact lb_X8_requireAskable_26 C hr hz  h
theorem c_X8_requireAskable (l : Launch) (μ : MP) (ν : NC) (a : AS) (Ad : Nat → Nat → Nat) (w : Nat) (p1 : Nat) (r0 : Int32) (h : f_X8_requireAskable w μ ν p1 = some (0, r0)) : ∀ D E sz, Met l yX8_requireAskable gwX8_requireAskable ({ frames := 2, cells := 0, slots := 0, locals := 40 } : Room) (cP D E sz (zS μ ν a Ad) [] [.ref (Ad 0 0), nv (Ad 20) p1]) (cQ D E sz (zS μ ν a Ad) [] (pV (fun u => u = (zS μ ν a Ad, [])))) (0) (0) (Aof (zS μ ν a Ad) [] sz) := by
  intro D E sz
  refine g_of (cc := cX8_requireAskable) (maxL := 2) (ret := none) (own := "TradeLine") (by decide) rfl rfl (by cases p1 <;> exact Nat.le_of_ble_eq_true rfl) ?_
  intro p e s m args below meth c C hr hin hz ha hwr
  refine g_lv (lv' := [(0, .ref (Ad 0 0)), (1, nv (Ad 20) p1)]) [0, 1] (by cases p1 <;> rfl) ?_
  exact lb_X8_requireAskable_0 C hr hz h
set_option maxHeartbeats 4000000 in
set_option maxRecDepth 100000 in
theorem lx_X8_requireAskable_26 {p : Program} {l : Launch} {e : Env} {s : State} {m : MethodId} {args : Array Value} {below : List Frame} {meth : Method} {c : Code} {D : va_G} {E : Nat → ClassId} {sz : Nat} {μ : MP} {ν : NC} {a : AS} {Ad : Nat → Nat → Nat} {w nx : Nat} {B : Nat × (Nat → Nat)} {r0 : Int32} (C : cx p s m args meth c D E (Aof (zS μ ν a Ad) [] s.heap.size) cX8_requireAskable 2 "TradeLine") (hEv : eV (Ad 30 0) (Ad 31 0) B (Aof (zS μ ν a Ad) [] s.heap.size) s s.heap) (hl : l.stackTraces = false) (hT : ∀ x ∈ c.exceptionTable.toList, False) (hz : s.heap.size = sz)   (h : b_X8_requireAskable_26  w μ ν  = some (nx + 1, r0)) : G p l e ({ frames := 6, cells := 1, slots := 6, locals := 100 } : Room) s m args below meth c D E (Aof (zS μ ν a Ad) [] s.heap.size) 2 (vx_MQ below (fun _ _ _ _ => False) (cX D E sz (zS μ ν a Ad) (nx + 1)) args s 1 6 (Aof (zS μ ν a Ad) [] s.heap.size)) (zS μ ν a Ad) [] 0 0 26 [(0, .ref (Ad 0 0))] [] := by
  unfold b_X8_requireAskable_26 at h
  obtain rfl : nx = 2 := by have := congrArg Prod.fst (Option.some.inj h); simp at this; omega
  exact g_thW (n := 3) (ic := 55) (text := "nothing can be asked of the order") C hEv hl hT hz (by decide) gw_219 gw_16 (by decide +kernel) exA_3 (by decide) exG_3 dX8_requireAskable_26 dX8_requireAskable_29 dX8_requireAskable_30 dX8_requireAskable_33 dX8_requireAskable_36 (by decide) (Nat.le_of_ble_eq_true rfl) (by decide) (by decide)
set_option maxHeartbeats 4000000 in
set_option maxRecDepth 100000 in
theorem lx_X8_requireAskable_0 {p : Program} {l : Launch} {e : Env} {s : State} {m : MethodId} {args : Array Value} {below : List Frame} {meth : Method} {c : Code} {D : va_G} {E : Nat → ClassId} {sz : Nat} {μ : MP} {ν : NC} {a : AS} {Ad : Nat → Nat → Nat} {w nx : Nat} {B : Nat × (Nat → Nat)} {r0 : Int32} (C : cx p s m args meth c D E (Aof (zS μ ν a Ad) [] s.heap.size) cX8_requireAskable 2 "TradeLine") (hEv : eV (Ad 30 0) (Ad 31 0) B (Aof (zS μ ν a Ad) [] s.heap.size) s s.heap) (hl : l.stackTraces = false) (hT : ∀ x ∈ c.exceptionTable.toList, False) (hz : s.heap.size = sz) {p1 : Nat}   (h : f_X8_requireAskable  w μ ν p1 = some (nx + 1, r0)) : G p l e ({ frames := 6, cells := 1, slots := 6, locals := 100 } : Room) s m args below meth c D E (Aof (zS μ ν a Ad) [] s.heap.size) 2 (vx_MQ below (fun _ _ _ _ => False) (cX D E sz (zS μ ν a Ad) (nx + 1)) args s 1 6 (Aof (zS μ ν a Ad) [] s.heap.size)) (zS μ ν a Ad) [] 0 0 0 [(0, .ref (Ad 0 0)), (1, nv (Ad 20) p1)] [] := by
  unfold f_X8_requireAskable at h
  refine g_aload_n C dX8_requireAskable_0 rfl 0 rfl ?_
  obtain ⟨g1, h⟩ := of_guard h
  refine g_get (k := 0) (i := 0) (ref := "TradeLine") (v := .ref (Ad 1 0)) C rfl (lvZ g1 rfl) rfl rfl inGX8 0 (by decide) gw_170 (fun _ h => h) rfl dX8_requireAskable_1 ?_
  obtain ⟨g2, h⟩ := of_guard h
  refine g_get (k := 1) (i := 0) (ref := "TradeLine$Party") (v := .int (μ.1 1 0 3)) C rfl (lvZ g2 rfl) rfl rfl inGX5 3 (by decide) gw_118 (fun _ h => h) rfl dX8_requireAskable_4 ?_
  refine g_if_eq (tgt := 26) C dX8_requireAskable_7 (by decide) (fun c7 => ?_) (fun c7 => ?_)
  · replace h := (if_pos c7).symm.trans h
    refine g_lv [0] rfl ?_
    exact lx_X8_requireAskable_26 C hEv hl hT hz  h
  · replace h := (if_neg c7).symm.trans h
    refine z_aload_n C dX8_requireAskable_10 rfl 1 rfl (nv_or _ _) ?_
    obtain ⟨g3, h⟩ := of_guard h
    rw [nzB_e g3]
    obtain ⟨g4, h⟩ := of_guard h
    obtain ⟨v5, hv5, h⟩ := bind_of h
    refine g_cVi (n := 0) (exc := []) (exr := []) C [] _ rfl rfl [] [] rfl rfl rfl rfl (fun _ h => absurd h (by simp)) (fun _ h => absurd h (by simp)) (fun _ h => absurd h (by simp)) (fun sz => c_X4_state l μ ν a Ad w (p1 - 1)  _ hv5 D E sz) rfl gw_1164 gw_30 gw_1161 gw_1162 gw_1163 ⟨by decide +kernel, by decide +kernel, by decide +kernel⟩ ⟨rfl, rfl⟩ ⟨Nat.le_of_ble_eq_true rfl, Nat.le_of_ble_eq_true rfl⟩ (rcvT (lvZ g4 rfl) rfl rfl rfl) (Nat.le_of_ble_eq_true rfl) dX8_requireAskable_11 ⟨by decide, by decide⟩ (fun r u hp hx => ?_)
    obtain ⟨er, rfl⟩ := hp
    rw [er]
    try dsimp only [List.append_nil]
    refine g_iconst (v := (2 : Int32)) C dX8_requireAskable_14 (by decide) ?_
    refine g_icmp_eq (tgt := 26) C dX8_requireAskable_15 (by decide) (fun c15 => ?_) (fun c15 => ?_)
    · replace h := (if_pos c15).symm.trans h
      refine g_lv [0] rfl ?_
      exact lx_X8_requireAskable_26 C hEv hl hT hz  h
    · replace h := (if_neg c15).symm.trans h
      refine g_aload_n C dX8_requireAskable_18 rfl 1 rfl ?_
      refine g_get (k := 20) (i := (p1 - 1)) (ref := "TradeLine$Order") (v := .int (μ.1 20 (p1 - 1) 7)) C rfl (lvZ g4 rfl) rfl rfl inGX4 7 (by decide) gw_1123 (fun _ h => h) rfl dX8_requireAskable_19 ?_
      refine g_iconst (v := (5 : Int32)) C dX8_requireAskable_22 (by decide) ?_
      refine g_icmp_lt (tgt := 37) C dX8_requireAskable_23 (by decide) (fun c23 => ?_) (fun c23 => ?_)
      · replace h := (if_pos c23).symm.trans h
        exact absurd (congrArg Prod.fst (Option.some.inj h)) (by simp)
      · replace h := (if_neg c23).symm.trans h
        refine g_lv [0] rfl ?_
        exact lx_X8_requireAskable_26 C hEv hl hT hz  h
theorem x_X8_requireAskable (l : Launch) (hl : l.stackTraces = false) (B : Nat × (Nat → Nat)) (μ : MP) (ν : NC) (a : AS) (Ad : Nat → Nat → Nat) (w : Nat) (p1 : Nat) (nx : Nat) (r0 : Int32) (h : f_X8_requireAskable w μ ν p1 = some (nx + 1, r0)) : ∀ D E sz, vx_Met l yX8_requireAskable gwX8_requireAskable ({ frames := 6, cells := 1, slots := 6, locals := 100 } : Room) (cPe D E sz B (zS μ ν a Ad) [] [] [.ref (Ad 0 0), nv (Ad 20) p1]) (fun _ _ _ _ => False) (cX D E sz (zS μ ν a Ad) (nx + 1)) 1 6 (Aof (zS μ ν a Ad) [] sz) := by
  intro D E sz
  refine g_ofx (cc := cX8_requireAskable) (maxL := 2) (ret := none) (own := "TradeLine") (by decide) rfl rfl (by cases p1 <;> exact Nat.le_of_ble_eq_true rfl) ?_
  intro p e s m args below meth c C hT hz ha hEv
  refine g_lv (lv' := [(0, .ref (Ad 0 0)), (1, nv (Ad 20) p1)]) [0, 1] (by cases p1 <;> rfl) ?_
  exact lx_X8_requireAskable_0 C hEv hl hT hz h
noncomputable def b_X8_requireQuote_16  (w : Nat) (μ : MP) (ν : NC) : Option (Nat × (Nat)) := some ((1 : Nat), (0 : Nat))
set_option maxHeartbeats 4000000 in
set_option maxRecDepth 100000 in
theorem lb_X8_requireQuote_16 {p : Program} {l : Launch} {e : Env} {s : State} {m : MethodId} {args : Array Value} {below : List Frame} {meth : Method} {c : Code} {D : va_G} {E : Nat → ClassId} {sz : Nat} {μ : MP} {ν : NC} {a : AS} {Ad : Nat → Nat → Nat} {w : Nat} {r0 : Nat} (C : cx p s m args meth c D E (Aof (zS μ ν a Ad) [] s.heap.size) cX8_requireQuote 4 "TradeLine") (hr : meth.sig.returnType = (some (.object "TradeLine$Quote"))) (hz : s.heap.size = sz)   (h : b_X8_requireQuote_16  w μ ν  = some (0, r0)) : G p l e ({ frames := 1, cells := 0, slots := 0, locals := 21 } : Room) s m args below meth c D E (Aof (zS μ ν a Ad) [] s.heap.size) 4 (MQ below (cQ D E sz (zS μ ν a Ad) [] (pQ (fun r u => r = nv (Ad 25) r0 ∧ u = (zS μ ν a Ad, [])))) args s 0 0 (Aof (zS μ ν a Ad) [] s.heap.size)) (zS μ ν a Ad) [] 0 0 16 [(0, .ref (Ad 0 0))] [] := by
  unfold b_X8_requireQuote_16 at h
  exact absurd (congrArg Prod.fst (Option.some.inj h)) (by simp)
noncomputable def f_X8_requireQuote  (w : Nat) (μ : MP) (ν : NC) (x1 : Int32) (x2 : Int32) : Option (Nat × (Nat)) := bif ltB 0 (ν.2 0) then (f_X8_quotesFor w μ ν x2).bind (fun v2 => (if x1 < (0 : Int32) then (b_X8_requireQuote_16  w μ ν ) else (bif nzB v2 then bif ltB (v2 - 1) (ν.2 24) then (if x1 < (nI (ν.1 24 (v2 - 1))) then (bif ixB x1 (ν.1 24 (v2 - 1)) then bif nzB (μ.2 24 (v2 - 1) x1.toNatClampNeg) then some ((0 : Nat), (((μ.2 24 (v2 - 1) x1.toNatClampNeg) - 1) + 1)) else none else none) else (b_X8_requireQuote_16  w μ ν )) else none else none))) else none
set_option maxHeartbeats 4000000 in
set_option maxRecDepth 100000 in
theorem lb_X8_requireQuote_0 {p : Program} {l : Launch} {e : Env} {s : State} {m : MethodId} {args : Array Value} {below : List Frame} {meth : Method} {c : Code} {D : va_G} {E : Nat → ClassId} {sz : Nat} {μ : MP} {ν : NC} {a : AS} {Ad : Nat → Nat → Nat} {w : Nat} {r0 : Nat} (C : cx p s m args meth c D E (Aof (zS μ ν a Ad) [] s.heap.size) cX8_requireQuote 4 "TradeLine") (hr : meth.sig.returnType = (some (.object "TradeLine$Quote"))) (hz : s.heap.size = sz) {x1 : Int32} {x2 : Int32}   (h : f_X8_requireQuote  w μ ν x1 x2 = some (0, r0)) : G p l e ({ frames := 1, cells := 0, slots := 0, locals := 21 } : Room) s m args below meth c D E (Aof (zS μ ν a Ad) [] s.heap.size) 4 (MQ below (cQ D E sz (zS μ ν a Ad) [] (pQ (fun r u => r = nv (Ad 25) r0 ∧ u = (zS μ ν a Ad, [])))) args s 0 0 (Aof (zS μ ν a Ad) [] s.heap.size)) (zS μ ν a Ad) [] 0 0 0 [(0, .ref (Ad 0 0)), (1, .int x1), (2, .int x2)] [] := by
  unfold f_X8_requireQuote at h
  refine g_aload_n C dX8_requireQuote_0 rfl 0 rfl ?_
  refine g_iload_n C dX8_requireQuote_1 rfl 2 rfl ?_
  obtain ⟨g1, h⟩ := of_guard h
  obtain ⟨v2, hv2, h⟩ := bind_of h
  refine g_cVq (n := 1) (exc := []) (exr := []) C [_] _ rfl rfl [] [] rfl rfl rfl rfl (fun _ h => absurd h (by simp)) (fun _ h => absurd h (by simp)) (fun _ h => absurd h (by simp)) (fun sz => c_X8_quotesFor l μ ν a Ad w x2 _ hv2 D E sz) rfl gw_879 gw_1 gw_876 gw_878 gs_26 ⟨by decide +kernel, by decide +kernel, by decide +kernel⟩ ⟨rfl, rfl⟩ ⟨Nat.le_of_ble_eq_true rfl, Nat.le_of_ble_eq_true rfl⟩ (rcvT (lvZ g1 rfl) rfl rfl rfl) (Nat.le_of_ble_eq_true rfl) dX8_requireQuote_2 ⟨by decide, by decide⟩ (fun r u hp hx => ?_)
  obtain ⟨er, rfl⟩ := hp
  rw [er]
  try dsimp only [List.append_nil]
  refine z_astore_n (i := 3) (lv' := [(3, nv (Ad 24) v2), (0, .ref (Ad 0 0)), (1, .int x1), (2, .int x2)]) C dX8_requireQuote_5 (nv_or _ _) rfl (by decide) (by simp [nv_cat, cat_i, cat_r, cat_n]) ?_
  refine g_iload_n C dX8_requireQuote_6 rfl 2 rfl ?_
  refine g_if_lt (tgt := 16) C dX8_requireQuote_7 (by decide) (fun c7 => ?_) (fun c7 => ?_)
  · replace h := (if_pos c7).symm.trans h
    refine g_lv [1] rfl ?_
    exact lb_X8_requireQuote_16 C hr hz  h
  · replace h := (if_neg c7).symm.trans h
    refine g_iload_n C dX8_requireQuote_10 rfl 2 rfl ?_
    refine z_aload_n C dX8_requireQuote_11 rfl 0 rfl (nv_or _ _) ?_
    obtain ⟨g3, h⟩ := of_guard h
    rw [nzB_e g3]
    obtain ⟨g4, h⟩ := of_guard h
    refine g_alen (k := 24) (i := (v2 - 1)) (v := nI (ν.1 24 (v2 - 1))) C rfl (lvZ g4 rfl) (by decide) rfl dX8_requireQuote_12 ?_
    refine g_icmp_lt (tgt := 27) C dX8_requireQuote_13 (by decide) (fun c13 => ?_) (fun c13 => ?_)
    · replace h := (if_pos c13).symm.trans h
      refine g_aload_n C dX8_requireQuote_27 rfl 0 rfl ?_
      refine g_iload_n C dX8_requireQuote_28 rfl 2 rfl ?_
      obtain ⟨g5, h⟩ := of_guard h
      obtain ⟨g6, h⟩ := of_guard h
      refine z_aald (i := (v2 - 1)) C g4 g5 g6 dX8_requireQuote_29 ?_
      obtain rfl := congrArg Prod.snd (Option.some.inj h)
      exact g_aret C hr (Or.inl ⟨_, rfl⟩) (Or.inr ⟨_, rfl⟩) hz ⟨rfl, rfl, fun _ => rfl, fun _ => rfl⟩ ⟨rfl, rfl⟩ (fun j x h => by simp at h) dX8_requireQuote_30
    · replace h := (if_neg c13).symm.trans h
      refine g_lv [1] rfl ?_
      exact lb_X8_requireQuote_16 C hr hz  h
theorem c_X8_requireQuote (l : Launch) (μ : MP) (ν : NC) (a : AS) (Ad : Nat → Nat → Nat) (w : Nat) (x1 : Int32) (x2 : Int32) (r0 : Nat) (h : f_X8_requireQuote w μ ν x1 x2 = some (0, r0)) : ∀ D E sz, Met l yX8_requireQuote gwX8_requireQuote ({ frames := 1, cells := 0, slots := 0, locals := 21 } : Room) (cP D E sz (zS μ ν a Ad) [] [.ref (Ad 0 0), .int x1, .int x2]) (cQ D E sz (zS μ ν a Ad) [] (pQ (fun r u => r = nv (Ad 25) r0 ∧ u = (zS μ ν a Ad, [])))) (0) (0) (Aof (zS μ ν a Ad) [] sz) := by
  intro D E sz
  refine g_of (cc := cX8_requireQuote) (maxL := 4) (ret := (some (.object "TradeLine$Quote"))) (own := "TradeLine") (by decide) rfl rfl (Nat.le_of_ble_eq_true rfl) ?_
  intro p e s m args below meth c C hr hin hz ha hwr
  refine g_lv (lv' := [(0, .ref (Ad 0 0)), (1, .int x1), (2, .int x2)]) [0, 1, 2] rfl ?_
  exact lb_X8_requireQuote_0 C hr hz h
set_option maxHeartbeats 4000000 in
set_option maxRecDepth 100000 in
theorem lx_X8_requireQuote_16 {p : Program} {l : Launch} {e : Env} {s : State} {m : MethodId} {args : Array Value} {below : List Frame} {meth : Method} {c : Code} {D : va_G} {E : Nat → ClassId} {sz : Nat} {μ : MP} {ν : NC} {a : AS} {Ad : Nat → Nat → Nat} {w nx : Nat} {B : Nat × (Nat → Nat)} {r0 : Nat} (C : cx p s m args meth c D E (Aof (zS μ ν a Ad) [] s.heap.size) cX8_requireQuote 4 "TradeLine") (hEv : eV (Ad 30 0) (Ad 31 0) B (Aof (zS μ ν a Ad) [] s.heap.size) s s.heap) (hl : l.stackTraces = false) (hT : ∀ x ∈ c.exceptionTable.toList, False) (hz : s.heap.size = sz)   (h : b_X8_requireQuote_16  w μ ν  = some (nx + 1, r0)) : G p l e ({ frames := 6, cells := 1, slots := 6, locals := 100 } : Room) s m args below meth c D E (Aof (zS μ ν a Ad) [] s.heap.size) 4 (vx_MQ below (fun _ _ _ _ => False) (cX D E sz (zS μ ν a Ad) (nx + 1)) args s 1 6 (Aof (zS μ ν a Ad) [] s.heap.size)) (zS μ ν a Ad) [] 0 0 16 [(0, .ref (Ad 0 0))] [] := by
  unfold b_X8_requireQuote_16 at h
  obtain rfl : nx = 0 := by have := congrArg Prod.fst (Option.some.inj h); simp at this; omega
  exact g_thW (n := 1) (ic := 134) (text := "no such venue") C hEv hl hT hz (by decide) gw_482 gw_12 (by decide +kernel) exA_1 (by decide) exG_1 dX8_requireQuote_16 dX8_requireQuote_19 dX8_requireQuote_20 dX8_requireQuote_23 dX8_requireQuote_26 (by decide) (Nat.le_of_ble_eq_true rfl) (by decide) (by decide)
set_option maxHeartbeats 4000000 in
set_option maxRecDepth 100000 in
theorem lx_X8_requireQuote_0 {p : Program} {l : Launch} {e : Env} {s : State} {m : MethodId} {args : Array Value} {below : List Frame} {meth : Method} {c : Code} {D : va_G} {E : Nat → ClassId} {sz : Nat} {μ : MP} {ν : NC} {a : AS} {Ad : Nat → Nat → Nat} {w nx : Nat} {B : Nat × (Nat → Nat)} {r0 : Nat} (C : cx p s m args meth c D E (Aof (zS μ ν a Ad) [] s.heap.size) cX8_requireQuote 4 "TradeLine") (hEv : eV (Ad 30 0) (Ad 31 0) B (Aof (zS μ ν a Ad) [] s.heap.size) s s.heap) (hl : l.stackTraces = false) (hT : ∀ x ∈ c.exceptionTable.toList, False) (hz : s.heap.size = sz) {x1 : Int32} {x2 : Int32}   (h : f_X8_requireQuote  w μ ν x1 x2 = some (nx + 1, r0)) : G p l e ({ frames := 6, cells := 1, slots := 6, locals := 100 } : Room) s m args below meth c D E (Aof (zS μ ν a Ad) [] s.heap.size) 4 (vx_MQ below (fun _ _ _ _ => False) (cX D E sz (zS μ ν a Ad) (nx + 1)) args s 1 6 (Aof (zS μ ν a Ad) [] s.heap.size)) (zS μ ν a Ad) [] 0 0 0 [(0, .ref (Ad 0 0)), (1, .int x1), (2, .int x2)] [] := by
  unfold f_X8_requireQuote at h
  refine g_aload_n C dX8_requireQuote_0 rfl 0 rfl ?_
  refine g_iload_n C dX8_requireQuote_1 rfl 2 rfl ?_
  obtain ⟨g1, h⟩ := of_guard h
  obtain ⟨v2, hv2, h⟩ := bind_of h
  refine g_cVq (n := 1) (exc := []) (exr := []) C [_] _ rfl rfl [] [] rfl rfl rfl rfl (fun _ h => absurd h (by simp)) (fun _ h => absurd h (by simp)) (fun _ h => absurd h (by simp)) (fun sz => c_X8_quotesFor l μ ν a Ad w x2 _ hv2 D E sz) rfl gw_879 gw_1 gw_876 gw_878 gs_26 ⟨by decide +kernel, by decide +kernel, by decide +kernel⟩ ⟨rfl, rfl⟩ ⟨Nat.le_of_ble_eq_true rfl, Nat.le_of_ble_eq_true rfl⟩ (rcvT (lvZ g1 rfl) rfl rfl rfl) (Nat.le_of_ble_eq_true rfl) dX8_requireQuote_2 ⟨by decide, by decide⟩ (fun r u hp hx => ?_)
  obtain ⟨er, rfl⟩ := hp
  rw [er]
  try dsimp only [List.append_nil]
  refine z_astore_n (i := 3) (lv' := [(3, nv (Ad 24) v2), (0, .ref (Ad 0 0)), (1, .int x1), (2, .int x2)]) C dX8_requireQuote_5 (nv_or _ _) rfl (by decide) (by simp [nv_cat, cat_i, cat_r, cat_n]) ?_
  refine g_iload_n C dX8_requireQuote_6 rfl 2 rfl ?_
  refine g_if_lt (tgt := 16) C dX8_requireQuote_7 (by decide) (fun c7 => ?_) (fun c7 => ?_)
  · replace h := (if_pos c7).symm.trans h
    refine g_lv [1] rfl ?_
    exact lx_X8_requireQuote_16 C hEv hl hT hz  h
  · replace h := (if_neg c7).symm.trans h
    refine g_iload_n C dX8_requireQuote_10 rfl 2 rfl ?_
    refine z_aload_n C dX8_requireQuote_11 rfl 0 rfl (nv_or _ _) ?_
    obtain ⟨g3, h⟩ := of_guard h
    rw [nzB_e g3]
    obtain ⟨g4, h⟩ := of_guard h
    refine g_alen (k := 24) (i := (v2 - 1)) (v := nI (ν.1 24 (v2 - 1))) C rfl (lvZ g4 rfl) (by decide) rfl dX8_requireQuote_12 ?_
    refine g_icmp_lt (tgt := 27) C dX8_requireQuote_13 (by decide) (fun c13 => ?_) (fun c13 => ?_)
    · replace h := (if_pos c13).symm.trans h
      refine g_aload_n C dX8_requireQuote_27 rfl 0 rfl ?_
      refine g_iload_n C dX8_requireQuote_28 rfl 2 rfl ?_
      obtain ⟨g5, h⟩ := of_guard h
      obtain ⟨g6, h⟩ := of_guard h
      refine z_aald (i := (v2 - 1)) C g4 g5 g6 dX8_requireQuote_29 ?_
      exact absurd (congrArg Prod.fst (Option.some.inj h)) (by simp)
    · replace h := (if_neg c13).symm.trans h
      refine g_lv [1] rfl ?_
      exact lx_X8_requireQuote_16 C hEv hl hT hz  h
theorem x_X8_requireQuote (l : Launch) (hl : l.stackTraces = false) (B : Nat × (Nat → Nat)) (μ : MP) (ν : NC) (a : AS) (Ad : Nat → Nat → Nat) (w : Nat) (x1 : Int32) (x2 : Int32) (nx : Nat) (r0 : Nat) (h : f_X8_requireQuote w μ ν x1 x2 = some (nx + 1, r0)) : ∀ D E sz, vx_Met l yX8_requireQuote gwX8_requireQuote ({ frames := 6, cells := 1, slots := 6, locals := 100 } : Room) (cPe D E sz B (zS μ ν a Ad) [] [] [.ref (Ad 0 0), .int x1, .int x2]) (fun _ _ _ _ => False) (cX D E sz (zS μ ν a Ad) (nx + 1)) 1 6 (Aof (zS μ ν a Ad) [] sz) := by
  intro D E sz
  refine g_ofx (cc := cX8_requireQuote) (maxL := 4) (ret := (some (.object "TradeLine$Quote"))) (own := "TradeLine") (by decide) rfl rfl (Nat.le_of_ble_eq_true rfl) ?_
  intro p e s m args below meth c C hT hz ha hEv
  refine g_lv (lv' := [(0, .ref (Ad 0 0)), (1, .int x1), (2, .int x2)]) [0, 1, 2] rfl ?_
  exact lx_X8_requireQuote_0 C hEv hl hT hz h
noncomputable def f_X8_requireExecution  (w : Nat) (μ : MP) (ν : NC) (x1 : Int32) : Option (Nat × (Nat)) := bif ltB 0 (ν.2 0) then (f_X8_findExecution w μ ν x1).bind (fun v2 => (if v2 = 0 then (some ((1 : Nat), (0 : Nat))) else (some ((0 : Nat), ((v2 - 1) + 1))))) else none
set_option maxHeartbeats 4000000 in
set_option maxRecDepth 100000 in
theorem lb_X8_requireExecution_0 {p : Program} {l : Launch} {e : Env} {s : State} {m : MethodId} {args : Array Value} {below : List Frame} {meth : Method} {c : Code} {D : va_G} {E : Nat → ClassId} {sz : Nat} {μ : MP} {ν : NC} {a : AS} {Ad : Nat → Nat → Nat} {w : Nat} {r0 : Nat} (C : cx p s m args meth c D E (Aof (zS μ ν a Ad) [] s.heap.size) cX8_requireExecution 3 "TradeLine") (hr : meth.sig.returnType = (some (.object "TradeLine$Execution"))) (hz : s.heap.size = sz) {x1 : Int32}   (h : f_X8_requireExecution  w μ ν x1 = some (0, r0)) : G p l e ({ frames := 4, cells := 0, slots := 0, locals := 102 } : Room) s m args below meth c D E (Aof (zS μ ν a Ad) [] s.heap.size) 3 (MQ below (cQ D E sz (zS μ ν a Ad) [] (pQ (fun r u => r = nv (Ad 23) r0 ∧ u = (zS μ ν a Ad, [])))) args s 0 0 (Aof (zS μ ν a Ad) [] s.heap.size)) (zS μ ν a Ad) [] 0 0 0 [(0, .ref (Ad 0 0)), (1, .int x1)] [] := by
  unfold f_X8_requireExecution at h
  refine g_aload_n C dX8_requireExecution_0 rfl 0 rfl ?_
  refine g_iload_n C dX8_requireExecution_1 rfl 1 rfl ?_
  obtain ⟨g1, h⟩ := of_guard h
  obtain ⟨v2, hv2, h⟩ := bind_of h
  refine g_cVq (n := 1) (exc := []) (exr := []) C [_] _ rfl rfl [] [] rfl rfl rfl rfl (fun _ h => absurd h (by simp)) (fun _ h => absurd h (by simp)) (fun _ h => absurd h (by simp)) (fun sz => c_X8_findExecution l μ ν a Ad w x1 _ hv2 D E sz) rfl gw_968 gw_1 gw_965 gw_967 gs_32 ⟨by decide +kernel, by decide +kernel, by decide +kernel⟩ ⟨rfl, rfl⟩ ⟨Nat.le_of_ble_eq_true rfl, Nat.le_of_ble_eq_true rfl⟩ (rcvT (lvZ g1 rfl) rfl rfl rfl) (Nat.le_of_ble_eq_true rfl) dX8_requireExecution_2 ⟨by decide, by decide⟩ (fun r u hp hx => ?_)
  obtain ⟨er, rfl⟩ := hp
  rw [er]
  try dsimp only [List.append_nil]
  refine z_astore_n (i := 2) (lv' := [(2, nv (Ad 23) v2), (0, .ref (Ad 0 0)), (1, .int x1)]) C dX8_requireExecution_5 (nv_or _ _) rfl (by decide) (by simp [nv_cat, cat_i, cat_r, cat_n]) ?_
  refine z_aload_n C dX8_requireExecution_6 rfl 0 rfl (nv_or _ _) ?_
  by_cases c7 : v2 = 0
  · replace h := (if_pos c7).symm.trans h
    rw [nv_z c7]
    refine z_ifnonnullN C dX8_requireExecution_7 ?_
    exact absurd (congrArg Prod.fst (Option.some.inj h)) (by simp)
  · replace h := (if_neg c7).symm.trans h
    rw [nv_n c7]
    refine z_ifnonnull (tgt := 21) C dX8_requireExecution_7 (by decide) ?_
    refine g_aload_n C dX8_requireExecution_21 rfl 0 rfl ?_
    obtain rfl := congrArg Prod.snd (Option.some.inj h)
    exact g_aret C hr (Or.inl ⟨_, rfl⟩) (Or.inr ⟨_, rfl⟩) hz ⟨rfl, rfl, fun _ => rfl, fun _ => rfl⟩ ⟨rfl, rfl⟩ (fun j x h => by simp at h) dX8_requireExecution_22
theorem c_X8_requireExecution (l : Launch) (μ : MP) (ν : NC) (a : AS) (Ad : Nat → Nat → Nat) (w : Nat) (x1 : Int32) (r0 : Nat) (h : f_X8_requireExecution w μ ν x1 = some (0, r0)) : ∀ D E sz, Met l yX8_requireExecution gwX8_requireExecution ({ frames := 4, cells := 0, slots := 0, locals := 102 } : Room) (cP D E sz (zS μ ν a Ad) [] [.ref (Ad 0 0), .int x1]) (cQ D E sz (zS μ ν a Ad) [] (pQ (fun r u => r = nv (Ad 23) r0 ∧ u = (zS μ ν a Ad, [])))) (0) (0) (Aof (zS μ ν a Ad) [] sz) := by
  intro D E sz
  refine g_of (cc := cX8_requireExecution) (maxL := 3) (ret := (some (.object "TradeLine$Execution"))) (own := "TradeLine") (by decide) rfl rfl (Nat.le_of_ble_eq_true rfl) ?_
  intro p e s m args below meth c C hr hin hz ha hwr
  refine g_lv (lv' := [(0, .ref (Ad 0 0)), (1, .int x1)]) [0, 1] rfl ?_
  exact lb_X8_requireExecution_0 C hr hz h
set_option maxHeartbeats 4000000 in
set_option maxRecDepth 100000 in
theorem lx_X8_requireExecution_0 {p : Program} {l : Launch} {e : Env} {s : State} {m : MethodId} {args : Array Value} {below : List Frame} {meth : Method} {c : Code} {D : va_G} {E : Nat → ClassId} {sz : Nat} {μ : MP} {ν : NC} {a : AS} {Ad : Nat → Nat → Nat} {w nx : Nat} {B : Nat × (Nat → Nat)} {r0 : Nat} (C : cx p s m args meth c D E (Aof (zS μ ν a Ad) [] s.heap.size) cX8_requireExecution 3 "TradeLine") (hEv : eV (Ad 30 0) (Ad 31 0) B (Aof (zS μ ν a Ad) [] s.heap.size) s s.heap) (hl : l.stackTraces = false) (hT : ∀ x ∈ c.exceptionTable.toList, False) (hz : s.heap.size = sz) {x1 : Int32}   (h : f_X8_requireExecution  w μ ν x1 = some (nx + 1, r0)) : G p l e ({ frames := 6, cells := 1, slots := 6, locals := 102 } : Room) s m args below meth c D E (Aof (zS μ ν a Ad) [] s.heap.size) 3 (vx_MQ below (fun _ _ _ _ => False) (cX D E sz (zS μ ν a Ad) (nx + 1)) args s 1 6 (Aof (zS μ ν a Ad) [] s.heap.size)) (zS μ ν a Ad) [] 0 0 0 [(0, .ref (Ad 0 0)), (1, .int x1)] [] := by
  unfold f_X8_requireExecution at h
  refine g_aload_n C dX8_requireExecution_0 rfl 0 rfl ?_
  refine g_iload_n C dX8_requireExecution_1 rfl 1 rfl ?_
  obtain ⟨g1, h⟩ := of_guard h
  obtain ⟨v2, hv2, h⟩ := bind_of h
  refine g_cVq (n := 1) (exc := []) (exr := []) C [_] _ rfl rfl [] [] rfl rfl rfl rfl (fun _ h => absurd h (by simp)) (fun _ h => absurd h (by simp)) (fun _ h => absurd h (by simp)) (fun sz => c_X8_findExecution l μ ν a Ad w x1 _ hv2 D E sz) rfl gw_968 gw_1 gw_965 gw_967 gs_32 ⟨by decide +kernel, by decide +kernel, by decide +kernel⟩ ⟨rfl, rfl⟩ ⟨Nat.le_of_ble_eq_true rfl, Nat.le_of_ble_eq_true rfl⟩ (rcvT (lvZ g1 rfl) rfl rfl rfl) (Nat.le_of_ble_eq_true rfl) dX8_requireExecution_2 ⟨by decide, by decide⟩ (fun r u hp hx => ?_)
  obtain ⟨er, rfl⟩ := hp
  rw [er]
  try dsimp only [List.append_nil]
  refine z_astore_n (i := 2) (lv' := [(2, nv (Ad 23) v2), (0, .ref (Ad 0 0)), (1, .int x1)]) C dX8_requireExecution_5 (nv_or _ _) rfl (by decide) (by simp [nv_cat, cat_i, cat_r, cat_n]) ?_
  refine z_aload_n C dX8_requireExecution_6 rfl 0 rfl (nv_or _ _) ?_
  by_cases c7 : v2 = 0
  · replace h := (if_pos c7).symm.trans h
    rw [nv_z c7]
    refine z_ifnonnullN C dX8_requireExecution_7 ?_
    obtain rfl : nx = 0 := by have := congrArg Prod.fst (Option.some.inj h); simp at this; omega
    exact g_thW (n := 1) (ic := 134) (text := "no such execution") C hEv hl hT hz (by decide) gw_482 gw_12 (by decide +kernel) exA_1 (by decide) exG_1 dX8_requireExecution_10 dX8_requireExecution_13 dX8_requireExecution_14 dX8_requireExecution_17 dX8_requireExecution_20 (by decide) (Nat.le_of_ble_eq_true rfl) (by decide) (by decide)
  · replace h := (if_neg c7).symm.trans h
    rw [nv_n c7]
    refine z_ifnonnull (tgt := 21) C dX8_requireExecution_7 (by decide) ?_
    refine g_aload_n C dX8_requireExecution_21 rfl 0 rfl ?_
    exact absurd (congrArg Prod.fst (Option.some.inj h)) (by simp)
theorem x_X8_requireExecution (l : Launch) (hl : l.stackTraces = false) (B : Nat × (Nat → Nat)) (μ : MP) (ν : NC) (a : AS) (Ad : Nat → Nat → Nat) (w : Nat) (x1 : Int32) (nx : Nat) (r0 : Nat) (h : f_X8_requireExecution w μ ν x1 = some (nx + 1, r0)) : ∀ D E sz, vx_Met l yX8_requireExecution gwX8_requireExecution ({ frames := 6, cells := 1, slots := 6, locals := 102 } : Room) (cPe D E sz B (zS μ ν a Ad) [] [] [.ref (Ad 0 0), .int x1]) (fun _ _ _ _ => False) (cX D E sz (zS μ ν a Ad) (nx + 1)) 1 6 (Aof (zS μ ν a Ad) [] sz) := by
  intro D E sz
  refine g_ofx (cc := cX8_requireExecution) (maxL := 3) (ret := (some (.object "TradeLine$Execution"))) (own := "TradeLine") (by decide) rfl rfl (Nat.le_of_ble_eq_true rfl) ?_
  intro p e s m args below meth c C hT hz ha hEv
  refine g_lv (lv' := [(0, .ref (Ad 0 0)), (1, .int x1)]) [0, 1] rfl ?_
  exact lx_X8_requireExecution_0 C hEv hl hT hz h
noncomputable def f_X8_requireUnbusted  (w : Nat) (μ : MP) (ν : NC) (p0 : Nat) : Option (Nat × (Int32)) := bif nzB p0 then bif ltB (p0 - 1) (ν.2 23) then (if (μ.1 23 (p0 - 1) 5) = (0 : Int32) then (some ((0 : Nat), (0 : Int32))) else (some ((3 : Nat), (0 : Int32)))) else none else none
set_option maxHeartbeats 4000000 in
set_option maxRecDepth 100000 in
theorem lb_X8_requireUnbusted_0 {p : Program} {l : Launch} {e : Env} {s : State} {m : MethodId} {args : Array Value} {below : List Frame} {meth : Method} {c : Code} {D : va_G} {E : Nat → ClassId} {sz : Nat} {μ : MP} {ν : NC} {a : AS} {Ad : Nat → Nat → Nat} {w : Nat} {r0 : Int32} (C : cx p s m args meth c D E (Aof (zS μ ν a Ad) [] s.heap.size) cX8_requireUnbusted 1 "TradeLine") (hr : meth.sig.returnType = none) (hz : s.heap.size = sz) {p0 : Nat}   (h : f_X8_requireUnbusted  w μ ν p0 = some (0, r0)) : G p l e ({ frames := 0, cells := 0, slots := 0, locals := 0 } : Room) s m args below meth c D E (Aof (zS μ ν a Ad) [] s.heap.size) 1 (MQ below (cQ D E sz (zS μ ν a Ad) [] (pV (fun u => u = (zS μ ν a Ad, [])))) args s 0 0 (Aof (zS μ ν a Ad) [] s.heap.size)) (zS μ ν a Ad) [] 0 0 0 [(0, nv (Ad 23) p0)] [] := by
  unfold f_X8_requireUnbusted at h
  refine z_aload_n C dX8_requireUnbusted_0 rfl 0 rfl (nv_or _ _) ?_
  obtain ⟨g1, h⟩ := of_guard h
  rw [nzB_e g1]
  obtain ⟨g2, h⟩ := of_guard h
  refine g_get (k := 23) (i := (p0 - 1)) (ref := "TradeLine$Execution") (v := .int (μ.1 23 (p0 - 1) 5)) C rfl (lvZ g2 rfl) rfl rfl inGX2 5 (by decide) gw_910 (fun _ h => h) rfl dX8_requireUnbusted_1 ?_
  refine g_if_eq (tgt := 18) C dX8_requireUnbusted_4 (by decide) (fun c4 => ?_) (fun c4 => ?_)
  · replace h := (if_pos c4).symm.trans h
    obtain rfl := congrArg Prod.snd (Option.some.inj h)
    exact g_vret C hr hz ⟨rfl, rfl, fun _ => rfl, fun _ => rfl⟩ rfl (fun j x h => by simp at h) dX8_requireUnbusted_18
  · replace h := (if_neg c4).symm.trans h
    exact absurd (congrArg Prod.fst (Option.some.inj h)) (by simp)
theorem c_X8_requireUnbusted (l : Launch) (μ : MP) (ν : NC) (a : AS) (Ad : Nat → Nat → Nat) (w : Nat) (p0 : Nat) (r0 : Int32) (h : f_X8_requireUnbusted w μ ν p0 = some (0, r0)) : ∀ D E sz, Met l yX8_requireUnbusted gwX8_requireUnbusted ({ frames := 0, cells := 0, slots := 0, locals := 0 } : Room) (cP D E sz (zS μ ν a Ad) [] [nv (Ad 23) p0]) (cQ D E sz (zS μ ν a Ad) [] (pV (fun u => u = (zS μ ν a Ad, [])))) (0) (0) (Aof (zS μ ν a Ad) [] sz) := by
  intro D E sz
  refine g_of (cc := cX8_requireUnbusted) (maxL := 1) (ret := none) (own := "TradeLine") (by decide) rfl rfl (by cases p0 <;> exact Nat.le_of_ble_eq_true rfl) ?_
  intro p e s m args below meth c C hr hin hz ha hwr
  refine g_lv (lv' := [(0, nv (Ad 23) p0)]) [0] (by cases p0 <;> rfl) ?_
  exact lb_X8_requireUnbusted_0 C hr hz h
set_option maxHeartbeats 4000000 in
set_option maxRecDepth 100000 in
theorem lx_X8_requireUnbusted_0 {p : Program} {l : Launch} {e : Env} {s : State} {m : MethodId} {args : Array Value} {below : List Frame} {meth : Method} {c : Code} {D : va_G} {E : Nat → ClassId} {sz : Nat} {μ : MP} {ν : NC} {a : AS} {Ad : Nat → Nat → Nat} {w nx : Nat} {B : Nat × (Nat → Nat)} {r0 : Int32} (C : cx p s m args meth c D E (Aof (zS μ ν a Ad) [] s.heap.size) cX8_requireUnbusted 1 "TradeLine") (hEv : eV (Ad 30 0) (Ad 31 0) B (Aof (zS μ ν a Ad) [] s.heap.size) s s.heap) (hl : l.stackTraces = false) (hT : ∀ x ∈ c.exceptionTable.toList, False) (hz : s.heap.size = sz) {p0 : Nat}   (h : f_X8_requireUnbusted  w μ ν p0 = some (nx + 1, r0)) : G p l e ({ frames := 6, cells := 1, slots := 6, locals := 100 } : Room) s m args below meth c D E (Aof (zS μ ν a Ad) [] s.heap.size) 1 (vx_MQ below (fun _ _ _ _ => False) (cX D E sz (zS μ ν a Ad) (nx + 1)) args s 1 6 (Aof (zS μ ν a Ad) [] s.heap.size)) (zS μ ν a Ad) [] 0 0 0 [(0, nv (Ad 23) p0)] [] := by
  unfold f_X8_requireUnbusted at h
  refine z_aload_n C dX8_requireUnbusted_0 rfl 0 rfl (nv_or _ _) ?_
  obtain ⟨g1, h⟩ := of_guard h
  rw [nzB_e g1]
  obtain ⟨g2, h⟩ := of_guard h
  refine g_get (k := 23) (i := (p0 - 1)) (ref := "TradeLine$Execution") (v := .int (μ.1 23 (p0 - 1) 5)) C rfl (lvZ g2 rfl) rfl rfl inGX2 5 (by decide) gw_910 (fun _ h => h) rfl dX8_requireUnbusted_1 ?_
  refine g_if_eq (tgt := 18) C dX8_requireUnbusted_4 (by decide) (fun c4 => ?_) (fun c4 => ?_)
  · replace h := (if_pos c4).symm.trans h
    exact absurd (congrArg Prod.fst (Option.some.inj h)) (by simp)
  · replace h := (if_neg c4).symm.trans h
    obtain rfl : nx = 2 := by have := congrArg Prod.fst (Option.some.inj h); simp at this; omega
    exact g_thW (n := 3) (ic := 55) (text := "the execution is busted") C hEv hl hT hz (by decide) gw_219 gw_16 (by decide +kernel) exA_3 (by decide) exG_3 dX8_requireUnbusted_7 dX8_requireUnbusted_10 dX8_requireUnbusted_11 dX8_requireUnbusted_14 dX8_requireUnbusted_17 (by decide) (Nat.le_of_ble_eq_true rfl) (by decide) (by decide)
theorem x_X8_requireUnbusted (l : Launch) (hl : l.stackTraces = false) (B : Nat × (Nat → Nat)) (μ : MP) (ν : NC) (a : AS) (Ad : Nat → Nat → Nat) (w : Nat) (p0 : Nat) (nx : Nat) (r0 : Int32) (h : f_X8_requireUnbusted w μ ν p0 = some (nx + 1, r0)) : ∀ D E sz, vx_Met l yX8_requireUnbusted gwX8_requireUnbusted ({ frames := 6, cells := 1, slots := 6, locals := 100 } : Room) (cPe D E sz B (zS μ ν a Ad) [] [] [nv (Ad 23) p0]) (fun _ _ _ _ => False) (cX D E sz (zS μ ν a Ad) (nx + 1)) 1 6 (Aof (zS μ ν a Ad) [] sz) := by
  intro D E sz
  refine g_ofx (cc := cX8_requireUnbusted) (maxL := 1) (ret := none) (own := "TradeLine") (by decide) rfl rfl (by cases p0 <;> exact Nat.le_of_ble_eq_true rfl) ?_
  intro p e s m args below meth c C hT hz ha hEv
  refine g_lv (lv' := [(0, nv (Ad 23) p0)]) [0] (by cases p0 <;> rfl) ?_
  exact lx_X8_requireUnbusted_0 C hEv hl hT hz h
noncomputable def f_X8_cut  (w : Nat) (μ : MP) (ν : NC) : Option (Nat × (MP × Int32)) := bif ltB 0 (ν.2 0) then (if (μ.1 0 0 8) = (0 : Int32) then (some ((3 : Nat), (μ, (0 : Int32)))) else (bif ltB 0 (ν.2 1) then bif ltB 0 (ν.2 2) then bif ltB 1 (ν.2 1) then bif ltB 1 (ν.2 2) then yl (((μ.1 2 0 4) + (μ.1 2 1 4))) (fun t6 => (f_X8_goDown w μ ν ).bind (fun v7 => some ((0 : Nat), (v7.1, t6)))) else none else none else none else none)) else none
set_option maxHeartbeats 4000000 in
set_option maxRecDepth 100000 in
theorem lb_X8_cut_0 {p : Program} {l : Launch} {e : Env} {s : State} {m : MethodId} {args : Array Value} {below : List Frame} {meth : Method} {c : Code} {D : va_G} {E : Nat → ClassId} {sz : Nat} {μ0 : MP} {ν : NC} {a : AS} {Ad : Nat → Nat → Nat} {w : Nat} {r0 : MP × Int32} (C : cx p s m args meth c D E (Aof (zS μ0 ν a Ad) [] s.heap.size) cX8_cut 2 "TradeLine") (hr : meth.sig.returnType = (some .int)) (hz : s.heap.size = sz) {μ : MP}   (h : f_X8_cut  w μ ν  = some (0, r0)) : G p l e ({ frames := 4, cells := 0, slots := 0, locals := 83 } : Room) s m args below meth c D E (Aof (zS μ0 ν a Ad) [] s.heap.size) 2 (MQ below (cQ D E sz (zS μ0 ν a Ad) [] (pI (fun r u => r = r0.2 ∧ u = (zS r0.1 ν a Ad, [])))) args s 0 0 (Aof (zS μ0 ν a Ad) [] s.heap.size)) (zS μ ν a Ad) [] 0 0 0 [(0, .ref (Ad 0 0))] [] := by
  unfold f_X8_cut at h
  refine g_aload_n C dX8_cut_0 rfl 0 rfl ?_
  obtain ⟨g1, h⟩ := of_guard h
  refine g_get (k := 0) (i := 0) (ref := "TradeLine") (v := .int (μ.1 0 0 8)) C rfl (lvZ g1 rfl) rfl rfl inGX8 8 (by decide) gw_178 (fun _ h => h) rfl dX8_cut_1 ?_
  refine g_if_ne (tgt := 17) C dX8_cut_4 (by decide) (fun c4 => ?_) (fun c4 => ?_)
  · replace h := (if_neg c4).symm.trans h
    refine g_aload_n C dX8_cut_17 rfl 0 rfl ?_
    refine g_get (k := 0) (i := 0) (ref := "TradeLine") (v := .ref (Ad 1 0)) C rfl (lvZ g1 rfl) rfl rfl inGX8 0 (by decide) gw_170 (fun _ h => h) rfl dX8_cut_18 ?_
    obtain ⟨g2, h⟩ := of_guard h
    refine g_get (k := 1) (i := 0) (ref := "TradeLine$Party") (v := .ref (Ad 2 0)) C rfl (lvZ g2 rfl) rfl rfl inGX5 1 (by decide) gw_114 (fun _ h => h) rfl dX8_cut_21 ?_
    obtain ⟨g3, h⟩ := of_guard h
    refine g_get (k := 2) (i := 0) (ref := "TradeLine$Way") (v := .int (μ.1 2 0 4)) C rfl (lvZ g3 rfl) rfl rfl inGX7 4 (by decide) gw_83 (fun _ h => h) rfl dX8_cut_24 ?_
    refine g_aload_n C dX8_cut_27 rfl 0 rfl ?_
    refine g_get (k := 0) (i := 0) (ref := "TradeLine") (v := .ref (Ad 1 1)) C rfl (lvZ g1 rfl) rfl rfl inGX8 1 (by decide) gw_171 (fun _ h => h) rfl dX8_cut_28 ?_
    obtain ⟨g4, h⟩ := of_guard h
    refine g_get (k := 1) (i := 1) (ref := "TradeLine$Party") (v := .ref (Ad 2 1)) C rfl (lvZ g4 rfl) rfl rfl inGX5 1 (by decide) gw_114 (fun _ h => h) rfl dX8_cut_31 ?_
    obtain ⟨g5, h⟩ := of_guard h
    refine g_get (k := 2) (i := 1) (ref := "TradeLine$Way") (v := .int (μ.1 2 1 4)) C rfl (lvZ g5 rfl) rfl rfl inGX7 4 (by decide) gw_83 (fun _ h => h) rfl dX8_cut_34 ?_
    refine g_iadd C dX8_cut_37 ?_
    refine q_topi (fun t6 et6 => ?_)
    replace h := yl_of h et6
    refine g_istore_n (i := 1) (lv' := [(1, .int t6), (0, .ref (Ad 0 0))]) C dX8_cut_38 rfl (by decide) rfl ?_
    refine g_aload_n C dX8_cut_39 rfl 1 rfl ?_
    obtain ⟨v7, hv7, h⟩ := bind_of h
    refine g_cVv (n := 0) (exc := []) (exr := []) C [] _ rfl rfl [] [] rfl rfl rfl rfl (fun _ h => absurd h (by simp)) (fun _ h => absurd h (by simp)) (fun _ h => absurd h (by simp)) (fun sz => c_X8_goDown l μ ν a Ad w  _ hv7 D E sz) rfl gw_434 gw_1 gw_431 gw_433 gs_8 ⟨by decide +kernel, by decide +kernel, by decide +kernel⟩ ⟨rfl, rfl⟩ ⟨Nat.le_of_ble_eq_true rfl, Nat.le_of_ble_eq_true rfl⟩ (rcvT (lvZ g1 rfl) rfl rfl rfl) (Nat.le_of_ble_eq_true rfl) dX8_cut_40 ⟨by decide, by decide⟩ (fun u hp hx => ?_)
    obtain rfl := hp
    try dsimp only [List.append_nil]
    refine g_iload_n C dX8_cut_43 rfl 0 rfl ?_
    obtain rfl := congrArg Prod.snd (Option.some.inj h)
    exact g_iret C hr rfl hz ⟨rfl, rfl, fun _ => rfl, fun _ => rfl⟩ ⟨rfl, rfl⟩ (fun j x h => by simp at h) dX8_cut_44
  · replace h := (if_pos c4).symm.trans h
    exact absurd (congrArg Prod.fst (Option.some.inj h)) (by simp)
theorem c_X8_cut (l : Launch) (μ : MP) (ν : NC) (a : AS) (Ad : Nat → Nat → Nat) (w : Nat) (r0 : MP × Int32) (h : f_X8_cut w μ ν  = some (0, r0)) : ∀ D E sz, Met l yX8_cut gwX8_cut ({ frames := 4, cells := 0, slots := 0, locals := 83 } : Room) (cP D E sz (zS μ ν a Ad) [] [.ref (Ad 0 0)]) (cQ D E sz (zS μ ν a Ad) [] (pI (fun r u => r = r0.2 ∧ u = (zS r0.1 ν a Ad, [])))) (0) (0) (Aof (zS μ ν a Ad) [] sz) := by
  intro D E sz
  refine g_of (cc := cX8_cut) (maxL := 2) (ret := (some .int)) (own := "TradeLine") (by decide) rfl rfl (Nat.le_of_ble_eq_true rfl) ?_
  intro p e s m args below meth c C hr hin hz ha hwr
  refine g_lv (lv' := [(0, .ref (Ad 0 0))]) [0] rfl ?_
  exact lb_X8_cut_0 C hr hz h
set_option maxHeartbeats 4000000 in
set_option maxRecDepth 100000 in
theorem lx_X8_cut_0 {p : Program} {l : Launch} {e : Env} {s : State} {m : MethodId} {args : Array Value} {below : List Frame} {meth : Method} {c : Code} {D : va_G} {E : Nat → ClassId} {sz : Nat} {μ : MP} {ν : NC} {a : AS} {Ad : Nat → Nat → Nat} {w nx : Nat} {B : Nat × (Nat → Nat)} {r0 : MP × Int32} (C : cx p s m args meth c D E (Aof (zS μ ν a Ad) [] s.heap.size) cX8_cut 2 "TradeLine") (hEv : eV (Ad 30 0) (Ad 31 0) B (Aof (zS μ ν a Ad) [] s.heap.size) s s.heap) (hl : l.stackTraces = false) (hT : ∀ x ∈ c.exceptionTable.toList, False) (hz : s.heap.size = sz)   (h : f_X8_cut  w μ ν  = some (nx + 1, r0)) : G p l e ({ frames := 6, cells := 1, slots := 6, locals := 100 } : Room) s m args below meth c D E (Aof (zS μ ν a Ad) [] s.heap.size) 2 (vx_MQ below (fun _ _ _ _ => False) (cX D E sz (zS μ ν a Ad) (nx + 1)) args s 1 6 (Aof (zS μ ν a Ad) [] s.heap.size)) (zS μ ν a Ad) [] 0 0 0 [(0, .ref (Ad 0 0))] [] := by
  unfold f_X8_cut at h
  refine g_aload_n C dX8_cut_0 rfl 0 rfl ?_
  obtain ⟨g1, h⟩ := of_guard h
  refine g_get (k := 0) (i := 0) (ref := "TradeLine") (v := .int (μ.1 0 0 8)) C rfl (lvZ g1 rfl) rfl rfl inGX8 8 (by decide) gw_178 (fun _ h => h) rfl dX8_cut_1 ?_
  refine g_if_ne (tgt := 17) C dX8_cut_4 (by decide) (fun c4 => ?_) (fun c4 => ?_)
  · replace h := (if_neg c4).symm.trans h
    refine g_aload_n C dX8_cut_17 rfl 0 rfl ?_
    refine g_get (k := 0) (i := 0) (ref := "TradeLine") (v := .ref (Ad 1 0)) C rfl (lvZ g1 rfl) rfl rfl inGX8 0 (by decide) gw_170 (fun _ h => h) rfl dX8_cut_18 ?_
    obtain ⟨g2, h⟩ := of_guard h
    refine g_get (k := 1) (i := 0) (ref := "TradeLine$Party") (v := .ref (Ad 2 0)) C rfl (lvZ g2 rfl) rfl rfl inGX5 1 (by decide) gw_114 (fun _ h => h) rfl dX8_cut_21 ?_
    obtain ⟨g3, h⟩ := of_guard h
    refine g_get (k := 2) (i := 0) (ref := "TradeLine$Way") (v := .int (μ.1 2 0 4)) C rfl (lvZ g3 rfl) rfl rfl inGX7 4 (by decide) gw_83 (fun _ h => h) rfl dX8_cut_24 ?_
    refine g_aload_n C dX8_cut_27 rfl 0 rfl ?_
    refine g_get (k := 0) (i := 0) (ref := "TradeLine") (v := .ref (Ad 1 1)) C rfl (lvZ g1 rfl) rfl rfl inGX8 1 (by decide) gw_171 (fun _ h => h) rfl dX8_cut_28 ?_
    obtain ⟨g4, h⟩ := of_guard h
    refine g_get (k := 1) (i := 1) (ref := "TradeLine$Party") (v := .ref (Ad 2 1)) C rfl (lvZ g4 rfl) rfl rfl inGX5 1 (by decide) gw_114 (fun _ h => h) rfl dX8_cut_31 ?_
    obtain ⟨g5, h⟩ := of_guard h
    refine g_get (k := 2) (i := 1) (ref := "TradeLine$Way") (v := .int (μ.1 2 1 4)) C rfl (lvZ g5 rfl) rfl rfl inGX7 4 (by decide) gw_83 (fun _ h => h) rfl dX8_cut_34 ?_
    refine g_iadd C dX8_cut_37 ?_
    refine q_topi (fun t6 et6 => ?_)
    replace h := yl_of h et6
    refine g_istore_n (i := 1) (lv' := [(1, .int t6), (0, .ref (Ad 0 0))]) C dX8_cut_38 rfl (by decide) rfl ?_
    refine g_aload_n C dX8_cut_39 rfl 1 rfl ?_
    obtain ⟨v7, hv7, h⟩ := bind_of h
    refine g_cVv (n := 0) (exc := []) (exr := []) C [] _ rfl rfl [] [] rfl rfl rfl rfl (fun _ h => absurd h (by simp)) (fun _ h => absurd h (by simp)) (fun _ h => absurd h (by simp)) (fun sz => c_X8_goDown l μ ν a Ad w  _ hv7 D E sz) rfl gw_434 gw_1 gw_431 gw_433 gs_8 ⟨by decide +kernel, by decide +kernel, by decide +kernel⟩ ⟨rfl, rfl⟩ ⟨Nat.le_of_ble_eq_true rfl, Nat.le_of_ble_eq_true rfl⟩ (rcvT (lvZ g1 rfl) rfl rfl rfl) (Nat.le_of_ble_eq_true rfl) dX8_cut_40 ⟨by decide, by decide⟩ (fun u hp hx => ?_)
    obtain rfl := hp
    try dsimp only [List.append_nil]
    refine g_iload_n C dX8_cut_43 rfl 0 rfl ?_
    exact absurd (congrArg Prod.fst (Option.some.inj h)) (by simp)
  · replace h := (if_pos c4).symm.trans h
    obtain rfl : nx = 2 := by have := congrArg Prod.fst (Option.some.inj h); simp at this; omega
    exact g_thS (n := 3) (ic := 55) (text := "the line is down") C hEv hl hT hz (by decide) gw_219 gw_16 (by decide +kernel) exA_3 (by decide) exG_3 dX8_cut_7 dX8_cut_10 dX8_cut_11 dX8_cut_13 dX8_cut_16 (by decide) (Nat.le_of_ble_eq_true rfl) (by decide) (by decide)
theorem x_X8_cut (l : Launch) (hl : l.stackTraces = false) (B : Nat × (Nat → Nat)) (μ : MP) (ν : NC) (a : AS) (Ad : Nat → Nat → Nat) (w : Nat) (nx : Nat) (r0 : MP × Int32) (h : f_X8_cut w μ ν  = some (nx + 1, r0)) : ∀ D E sz, vx_Met l yX8_cut gwX8_cut ({ frames := 6, cells := 1, slots := 6, locals := 100 } : Room) (cPe D E sz B (zS μ ν a Ad) [] [] [.ref (Ad 0 0)]) (fun _ _ _ _ => False) (cX D E sz (zS μ ν a Ad) (nx + 1)) 1 6 (Aof (zS μ ν a Ad) [] sz) := by
  intro D E sz
  refine g_ofx (cc := cX8_cut) (maxL := 2) (ret := (some .int)) (own := "TradeLine") (by decide) rfl rfl (Nat.le_of_ble_eq_true rfl) ?_
  intro p e s m args below meth c C hT hz ha hEv
  refine g_lv (lv' := [(0, .ref (Ad 0 0))]) [0] rfl ?_
  exact lx_X8_cut_0 C hEv hl hT hz h
noncomputable def b_X8_garble_25  (w : Nat) (μ : MP) (ν : NC) : Option (Nat × (MP × Int32)) := some ((1 : Nat), (μ, (0 : Int32)))
set_option maxHeartbeats 4000000 in
set_option maxRecDepth 100000 in
theorem lb_X8_garble_25 {p : Program} {l : Launch} {e : Env} {s : State} {m : MethodId} {args : Array Value} {below : List Frame} {meth : Method} {c : Code} {D : va_G} {E : Nat → ClassId} {sz : Nat} {μ0 : MP} {ν : NC} {a : AS} {Ad : Nat → Nat → Nat} {w : Nat} {r0 : MP × Int32} (C : cx p s m args meth c D E (Aof (zS μ0 ν a Ad) [] s.heap.size) cX8_garble 4 "TradeLine") (hr : meth.sig.returnType = (some .int)) (hz : s.heap.size = sz) {μ : MP}   (h : b_X8_garble_25  w μ ν  = some (0, r0)) : G p l e ({ frames := 2, cells := 0, slots := 0, locals := 43 } : Room) s m args below meth c D E (Aof (zS μ0 ν a Ad) [] s.heap.size) 4 (MQ below (cQ D E sz (zS μ0 ν a Ad) [] (pI (fun r u => r = r0.2 ∧ u = (zS r0.1 ν a Ad, [])))) args s 0 0 (Aof (zS μ0 ν a Ad) [] s.heap.size)) (zS μ ν a Ad) [] 0 0 25 [(0, .ref (Ad 0 0))] [] := by
  unfold b_X8_garble_25 at h
  exact absurd (congrArg Prod.fst (Option.some.inj h)) (by simp)
noncomputable def f_X8_garble  (w : Nat) (μ : MP) (ν : NC) (x1 : Int32) (x2 : Int32) : Option (Nat × (MP × Int32)) := (f_X8_requireSide w μ ν x1).bind (fun v1 => bif eqB v1.1 0 then bif ltB 0 (ν.2 0) then (f_X8_party w μ ν x1).bind (fun v3 => bif nzB v3 then bif ltB (v3 - 1) (ν.2 1) then (if x2 < (0 : Int32) then (b_X8_garble_25  w μ ν ) else (bif ltB (v3 - 1) (ν.2 2) then (if x2 < (μ.1 2 (v3 - 1) 4) then ((f_X7_garbleAt w μ ν (v3 - 1) x2).bind (fun v7 => (f_X7_numberAt w v7.1 ν (v3 - 1) x2).bind (fun v8 => some ((0 : Nat), (v7.1, v8))))) else (b_X8_garble_25  w μ ν )) else none)) else none else none) else none else some (v1.1, (μ, (0 : Int32))))
set_option maxHeartbeats 4000000 in
set_option maxRecDepth 100000 in
theorem lb_X8_garble_0 {p : Program} {l : Launch} {e : Env} {s : State} {m : MethodId} {args : Array Value} {below : List Frame} {meth : Method} {c : Code} {D : va_G} {E : Nat → ClassId} {sz : Nat} {μ0 : MP} {ν : NC} {a : AS} {Ad : Nat → Nat → Nat} {w : Nat} {r0 : MP × Int32} (C : cx p s m args meth c D E (Aof (zS μ0 ν a Ad) [] s.heap.size) cX8_garble 4 "TradeLine") (hr : meth.sig.returnType = (some .int)) (hz : s.heap.size = sz) {μ : MP} {x1 : Int32} {x2 : Int32}   (h : f_X8_garble  w μ ν x1 x2 = some (0, r0)) : G p l e ({ frames := 2, cells := 0, slots := 0, locals := 43 } : Room) s m args below meth c D E (Aof (zS μ0 ν a Ad) [] s.heap.size) 4 (MQ below (cQ D E sz (zS μ0 ν a Ad) [] (pI (fun r u => r = r0.2 ∧ u = (zS r0.1 ν a Ad, [])))) args s 0 0 (Aof (zS μ0 ν a Ad) [] s.heap.size)) (zS μ ν a Ad) [] 0 0 0 [(0, .ref (Ad 0 0)), (1, .int x1), (2, .int x2)] [] := by
  unfold f_X8_garble at h
  refine g_iload_n C dX8_garble_0 rfl 1 rfl ?_
  obtain ⟨v1, hv1, h⟩ := bind_of h
  obtain ⟨nv1, h⟩ := of_thr h
  refine g_cSv (n := 1) (exc := []) (exr := []) C [_] _ rfl rfl [] [] rfl rfl rfl rfl (fun _ h => absurd h (by simp)) (fun _ h => absurd h (by simp)) (fun _ h => absurd h (by simp)) (fun sz => c_X8_requireSide l μ ν a Ad w x1 _ (thr0 hv1 nv1) D E sz) rfl gw_481 gw_1 gw_479 gw_480 ⟨by decide +kernel, by decide +kernel, by decide +kernel⟩ ⟨rfl, rfl⟩ ⟨Nat.le_of_ble_eq_true rfl, Nat.le_of_ble_eq_true rfl⟩ (Nat.le_of_ble_eq_true rfl) dX8_garble_1 ⟨by decide, by decide⟩ (fun u hp hx => ?_)
  obtain rfl := hp
  try dsimp only [List.append_nil]
  refine g_aload_n C dX8_garble_4 rfl 0 rfl ?_
  refine g_iload_n C dX8_garble_5 rfl 1 rfl ?_
  obtain ⟨g2, h⟩ := of_guard h
  obtain ⟨v3, hv3, h⟩ := bind_of h
  refine g_cVq (n := 1) (exc := []) (exr := []) C [_] _ rfl rfl [] [] rfl rfl rfl rfl (fun _ h => absurd h (by simp)) (fun _ h => absurd h (by simp)) (fun _ h => absurd h (by simp)) (fun sz => c_X8_party l μ ν a Ad w x1 _ hv3 D E sz) rfl gw_304 gw_1 gw_301 gw_303 gs_2 ⟨by decide +kernel, by decide +kernel, by decide +kernel⟩ ⟨rfl, rfl⟩ ⟨Nat.le_of_ble_eq_true rfl, Nat.le_of_ble_eq_true rfl⟩ (rcvT (lvZ g2 rfl) rfl rfl rfl) (Nat.le_of_ble_eq_true rfl) dX8_garble_6 ⟨by decide, by decide⟩ (fun r u hp hx => ?_)
  obtain ⟨er, rfl⟩ := hp
  rw [er]
  try dsimp only [List.append_nil]
  obtain ⟨g4, h⟩ := of_guard h
  rw [nzB_e g4]
  obtain ⟨g5, h⟩ := of_guard h
  refine g_get (k := 1) (i := (v3 - 1)) (ref := "TradeLine$Party") (v := .ref (Ad 2 (v3 - 1))) C rfl (lvZ g5 rfl) rfl rfl inGX5 1 (by decide) gw_114 (fun _ h => h) rfl dX8_garble_9 ?_
  refine z_astore_n (i := 3) (lv' := [(3, .ref (Ad 2 (v3 - 1))), (0, .ref (Ad 0 0)), (1, .int x1), (2, .int x2)]) C dX8_garble_12 (Or.inr ⟨_, rfl⟩) rfl (by decide) rfl ?_
  refine g_iload_n C dX8_garble_13 rfl 3 rfl ?_
  refine g_if_lt (tgt := 25) C dX8_garble_14 (by decide) (fun c14 => ?_) (fun c14 => ?_)
  · replace h := (if_pos c14).symm.trans h
    refine g_lv [1] rfl ?_
    exact lb_X8_garble_25 C hr hz  h
  · replace h := (if_neg c14).symm.trans h
    refine g_iload_n C dX8_garble_17 rfl 3 rfl ?_
    refine g_aload_n C dX8_garble_18 rfl 0 rfl ?_
    obtain ⟨g6, h⟩ := of_guard h
    refine g_get (k := 2) (i := (v3 - 1)) (ref := "TradeLine$Way") (v := .int (μ.1 2 (v3 - 1) 4)) C rfl (lvZ g6 rfl) rfl rfl inGX7 4 (by decide) gw_83 (fun _ h => h) rfl dX8_garble_19 ?_
    refine g_icmp_lt (tgt := 35) C dX8_garble_22 (by decide) (fun c22 => ?_) (fun c22 => ?_)
    · replace h := (if_pos c22).symm.trans h
      refine g_aload_n C dX8_garble_35 rfl 0 rfl ?_
      refine g_iload_n C dX8_garble_36 rfl 3 rfl ?_
      obtain ⟨v7, hv7, h⟩ := bind_of h
      refine g_cVv (n := 1) (exc := []) (exr := []) C [_] _ rfl rfl [] [] rfl rfl rfl rfl (fun _ h => absurd h (by simp)) (fun _ h => absurd h (by simp)) (fun _ h => absurd h (by simp)) (fun sz => c_X7_garbleAt l μ ν a Ad w (v3 - 1) x2 _ hv7 D E sz) rfl gw_1048 gw_6 gw_1045 gw_1046 gw_1047 ⟨by decide +kernel, by decide +kernel, by decide +kernel⟩ ⟨rfl, rfl⟩ ⟨Nat.le_of_ble_eq_true rfl, Nat.le_of_ble_eq_true rfl⟩ (rcvT (lvZ g6 rfl) rfl rfl rfl) (Nat.le_of_ble_eq_true rfl) dX8_garble_37 ⟨by decide, by decide⟩ (fun u hp hx => ?_)
      obtain rfl := hp
      try dsimp only [List.append_nil]
      refine g_aload_n C dX8_garble_40 rfl 0 rfl ?_
      refine g_iload_n C dX8_garble_41 rfl 3 rfl ?_
      obtain ⟨v8, hv8, h⟩ := bind_of h
      refine g_cVi (n := 1) (exc := []) (exr := []) C [_] _ rfl rfl [] [] rfl rfl rfl rfl (fun _ h => absurd h (by simp)) (fun _ h => absurd h (by simp)) (fun _ h => absurd h (by simp)) (fun sz => c_X7_numberAt l v7.1 ν a Ad w (v3 - 1) x2 _ hv8 D E sz) rfl gw_518 gw_6 gw_515 gw_516 gw_517 ⟨by decide +kernel, by decide +kernel, by decide +kernel⟩ ⟨rfl, rfl⟩ ⟨Nat.le_of_ble_eq_true rfl, Nat.le_of_ble_eq_true rfl⟩ (rcvT (lvZ g6 rfl) rfl rfl rfl) (Nat.le_of_ble_eq_true rfl) dX8_garble_42 ⟨by decide, by decide⟩ (fun r u hp hx => ?_)
      obtain ⟨er, rfl⟩ := hp
      rw [er]
      try dsimp only [List.append_nil]
      obtain rfl := congrArg Prod.snd (Option.some.inj h)
      exact g_iret C hr rfl hz ⟨rfl, rfl, fun _ => rfl, fun _ => rfl⟩ ⟨rfl, rfl⟩ (fun j x h => by simp at h) dX8_garble_45
    · replace h := (if_neg c22).symm.trans h
      refine g_lv [1] rfl ?_
      exact lb_X8_garble_25 C hr hz  h
theorem c_X8_garble (l : Launch) (μ : MP) (ν : NC) (a : AS) (Ad : Nat → Nat → Nat) (w : Nat) (x1 : Int32) (x2 : Int32) (r0 : MP × Int32) (h : f_X8_garble w μ ν x1 x2 = some (0, r0)) : ∀ D E sz, Met l yX8_garble gwX8_garble ({ frames := 2, cells := 0, slots := 0, locals := 43 } : Room) (cP D E sz (zS μ ν a Ad) [] [.ref (Ad 0 0), .int x1, .int x2]) (cQ D E sz (zS μ ν a Ad) [] (pI (fun r u => r = r0.2 ∧ u = (zS r0.1 ν a Ad, [])))) (0) (0) (Aof (zS μ ν a Ad) [] sz) := by
  intro D E sz
  refine g_of (cc := cX8_garble) (maxL := 4) (ret := (some .int)) (own := "TradeLine") (by decide) rfl rfl (Nat.le_of_ble_eq_true rfl) ?_
  intro p e s m args below meth c C hr hin hz ha hwr
  refine g_lv (lv' := [(0, .ref (Ad 0 0)), (1, .int x1), (2, .int x2)]) [0, 1, 2] rfl ?_
  exact lb_X8_garble_0 C hr hz h
set_option maxHeartbeats 4000000 in
set_option maxRecDepth 100000 in
theorem lx_X8_garble_25 {p : Program} {l : Launch} {e : Env} {s : State} {m : MethodId} {args : Array Value} {below : List Frame} {meth : Method} {c : Code} {D : va_G} {E : Nat → ClassId} {sz : Nat} {μ : MP} {ν : NC} {a : AS} {Ad : Nat → Nat → Nat} {w nx : Nat} {B : Nat × (Nat → Nat)} {r0 : MP × Int32} (C : cx p s m args meth c D E (Aof (zS μ ν a Ad) [] s.heap.size) cX8_garble 4 "TradeLine") (hEv : eV (Ad 30 0) (Ad 31 0) B (Aof (zS μ ν a Ad) [] s.heap.size) s s.heap) (hl : l.stackTraces = false) (hT : ∀ x ∈ c.exceptionTable.toList, False) (hz : s.heap.size = sz)   (h : b_X8_garble_25  w μ ν  = some (nx + 1, r0)) : G p l e ({ frames := 7, cells := 1, slots := 6, locals := 120 } : Room) s m args below meth c D E (Aof (zS μ ν a Ad) [] s.heap.size) 4 (vx_MQ below (fun _ _ _ _ => False) (cX D E sz (zS μ ν a Ad) (nx + 1)) args s 1 6 (Aof (zS μ ν a Ad) [] s.heap.size)) (zS μ ν a Ad) [] 0 0 25 [(0, .ref (Ad 0 0))] [] := by
  unfold b_X8_garble_25 at h
  obtain rfl : nx = 0 := by have := congrArg Prod.fst (Option.some.inj h); simp at this; omega
  exact g_thS (n := 1) (ic := 134) (text := "no such message on its way") C hEv hl hT hz (by decide) gw_482 gw_12 (by decide +kernel) exA_1 (by decide) exG_1 dX8_garble_25 dX8_garble_28 dX8_garble_29 dX8_garble_31 dX8_garble_34 (by decide) (Nat.le_of_ble_eq_true rfl) (by decide) (by decide)
set_option maxHeartbeats 4000000 in
set_option maxRecDepth 100000 in
theorem lx_X8_garble_0 {p : Program} {l : Launch} {e : Env} {s : State} {m : MethodId} {args : Array Value} {below : List Frame} {meth : Method} {c : Code} {D : va_G} {E : Nat → ClassId} {sz : Nat} {μ : MP} {ν : NC} {a : AS} {Ad : Nat → Nat → Nat} {w nx : Nat} {B : Nat × (Nat → Nat)} {r0 : MP × Int32} (C : cx p s m args meth c D E (Aof (zS μ ν a Ad) [] s.heap.size) cX8_garble 4 "TradeLine") (hEv : eV (Ad 30 0) (Ad 31 0) B (Aof (zS μ ν a Ad) [] s.heap.size) s s.heap) (hl : l.stackTraces = false) (hT : ∀ x ∈ c.exceptionTable.toList, False) (hz : s.heap.size = sz) {x1 : Int32} {x2 : Int32}   (h : f_X8_garble  w μ ν x1 x2 = some (nx + 1, r0)) : G p l e ({ frames := 7, cells := 1, slots := 6, locals := 120 } : Room) s m args below meth c D E (Aof (zS μ ν a Ad) [] s.heap.size) 4 (vx_MQ below (fun _ _ _ _ => False) (cX D E sz (zS μ ν a Ad) (nx + 1)) args s 1 6 (Aof (zS μ ν a Ad) [] s.heap.size)) (zS μ ν a Ad) [] 0 0 0 [(0, .ref (Ad 0 0)), (1, .int x1), (2, .int x2)] [] := by
  unfold f_X8_garble at h
  refine g_iload_n C dX8_garble_0 rfl 1 rfl ?_
  obtain ⟨v1, hv1, h⟩ := bind_of h
  rcases of_thx h with ⟨nv1, h⟩ | nv1
  · refine g_cSv (n := 1) (exc := []) (exr := []) C [_] _ rfl rfl [] [] rfl rfl rfl rfl (fun _ h => absurd h (by simp)) (fun _ h => absurd h (by simp)) (fun _ h => absurd h (by simp)) (fun sz => c_X8_requireSide l μ ν a Ad w x1 _ (thr0 hv1 nv1) D E sz) rfl gw_481 gw_1 gw_479 gw_480 ⟨by decide +kernel, by decide +kernel, by decide +kernel⟩ ⟨rfl, rfl⟩ ⟨Nat.le_of_ble_eq_true rfl, Nat.le_of_ble_eq_true rfl⟩ (Nat.le_of_ble_eq_true rfl) dX8_garble_1 ⟨by decide, by decide⟩ (fun u hp hx => ?_)
    obtain rfl := hp
    try dsimp only [List.append_nil]
    refine g_aload_n C dX8_garble_4 rfl 0 rfl ?_
    refine g_iload_n C dX8_garble_5 rfl 1 rfl ?_
    obtain ⟨g2, h⟩ := of_guard h
    obtain ⟨v3, hv3, h⟩ := bind_of h
    refine g_cVq (n := 1) (exc := []) (exr := []) C [_] _ rfl rfl [] [] rfl rfl rfl rfl (fun _ h => absurd h (by simp)) (fun _ h => absurd h (by simp)) (fun _ h => absurd h (by simp)) (fun sz => c_X8_party l μ ν a Ad w x1 _ hv3 D E sz) rfl gw_304 gw_1 gw_301 gw_303 gs_2 ⟨by decide +kernel, by decide +kernel, by decide +kernel⟩ ⟨rfl, rfl⟩ ⟨Nat.le_of_ble_eq_true rfl, Nat.le_of_ble_eq_true rfl⟩ (rcvT (lvZ g2 rfl) rfl rfl rfl) (Nat.le_of_ble_eq_true rfl) dX8_garble_6 ⟨by decide, by decide⟩ (fun r u hp hx => ?_)
    obtain ⟨er, rfl⟩ := hp
    rw [er]
    try dsimp only [List.append_nil]
    obtain ⟨g4, h⟩ := of_guard h
    rw [nzB_e g4]
    obtain ⟨g5, h⟩ := of_guard h
    refine g_get (k := 1) (i := (v3 - 1)) (ref := "TradeLine$Party") (v := .ref (Ad 2 (v3 - 1))) C rfl (lvZ g5 rfl) rfl rfl inGX5 1 (by decide) gw_114 (fun _ h => h) rfl dX8_garble_9 ?_
    refine z_astore_n (i := 3) (lv' := [(3, .ref (Ad 2 (v3 - 1))), (0, .ref (Ad 0 0)), (1, .int x1), (2, .int x2)]) C dX8_garble_12 (Or.inr ⟨_, rfl⟩) rfl (by decide) rfl ?_
    refine g_iload_n C dX8_garble_13 rfl 3 rfl ?_
    refine g_if_lt (tgt := 25) C dX8_garble_14 (by decide) (fun c14 => ?_) (fun c14 => ?_)
    · replace h := (if_pos c14).symm.trans h
      refine g_lv [1] rfl ?_
      exact lx_X8_garble_25 C hEv hl hT hz  h
    · replace h := (if_neg c14).symm.trans h
      refine g_iload_n C dX8_garble_17 rfl 3 rfl ?_
      refine g_aload_n C dX8_garble_18 rfl 0 rfl ?_
      obtain ⟨g6, h⟩ := of_guard h
      refine g_get (k := 2) (i := (v3 - 1)) (ref := "TradeLine$Way") (v := .int (μ.1 2 (v3 - 1) 4)) C rfl (lvZ g6 rfl) rfl rfl inGX7 4 (by decide) gw_83 (fun _ h => h) rfl dX8_garble_19 ?_
      refine g_icmp_lt (tgt := 35) C dX8_garble_22 (by decide) (fun c22 => ?_) (fun c22 => ?_)
      · replace h := (if_pos c22).symm.trans h
        refine g_aload_n C dX8_garble_35 rfl 0 rfl ?_
        refine g_iload_n C dX8_garble_36 rfl 3 rfl ?_
        obtain ⟨v7, hv7, h⟩ := bind_of h
        refine g_cVv (n := 1) (exc := []) (exr := []) C [_] _ rfl rfl [] [] rfl rfl rfl rfl (fun _ h => absurd h (by simp)) (fun _ h => absurd h (by simp)) (fun _ h => absurd h (by simp)) (fun sz => c_X7_garbleAt l μ ν a Ad w (v3 - 1) x2 _ hv7 D E sz) rfl gw_1048 gw_6 gw_1045 gw_1046 gw_1047 ⟨by decide +kernel, by decide +kernel, by decide +kernel⟩ ⟨rfl, rfl⟩ ⟨Nat.le_of_ble_eq_true rfl, Nat.le_of_ble_eq_true rfl⟩ (rcvT (lvZ g6 rfl) rfl rfl rfl) (Nat.le_of_ble_eq_true rfl) dX8_garble_37 ⟨by decide, by decide⟩ (fun u hp hx => ?_)
        obtain rfl := hp
        try dsimp only [List.append_nil]
        refine g_aload_n C dX8_garble_40 rfl 0 rfl ?_
        refine g_iload_n C dX8_garble_41 rfl 3 rfl ?_
        obtain ⟨v8, hv8, h⟩ := bind_of h
        refine g_cVi (n := 1) (exc := []) (exr := []) C [_] _ rfl rfl [] [] rfl rfl rfl rfl (fun _ h => absurd h (by simp)) (fun _ h => absurd h (by simp)) (fun _ h => absurd h (by simp)) (fun sz => c_X7_numberAt l v7.1 ν a Ad w (v3 - 1) x2 _ hv8 D E sz) rfl gw_518 gw_6 gw_515 gw_516 gw_517 ⟨by decide +kernel, by decide +kernel, by decide +kernel⟩ ⟨rfl, rfl⟩ ⟨Nat.le_of_ble_eq_true rfl, Nat.le_of_ble_eq_true rfl⟩ (rcvT (lvZ g6 rfl) rfl rfl rfl) (Nat.le_of_ble_eq_true rfl) dX8_garble_42 ⟨by decide, by decide⟩ (fun r u hp hx => ?_)
        obtain ⟨er, rfl⟩ := hp
        rw [er]
        try dsimp only [List.append_nil]
        exact absurd (congrArg Prod.fst (Option.some.inj h)) (by simp)
      · replace h := (if_neg c22).symm.trans h
        refine g_lv [1] rfl ?_
        exact lx_X8_garble_25 C hEv hl hT hz  h
  · exact g_xS (index := 1) C hEv ⟨rfl, rfl⟩ hT hz [_] _ rfl rfl (fun sz => x_X8_requireSide l hl B μ ν a Ad w x1 _ _ (thrS hv1 nv1) D E sz) rfl gw_481 gw_1 gw_479 gw_480 ⟨by decide +kernel, by decide +kernel, by decide +kernel⟩ ⟨rfl, rfl⟩ ⟨Nat.le_of_ble_eq_true rfl, Nat.le_of_ble_eq_true rfl⟩ (Nat.le_of_ble_eq_true rfl) dX8_garble_1 ⟨by decide, by decide⟩
theorem x_X8_garble (l : Launch) (hl : l.stackTraces = false) (B : Nat × (Nat → Nat)) (μ : MP) (ν : NC) (a : AS) (Ad : Nat → Nat → Nat) (w : Nat) (x1 : Int32) (x2 : Int32) (nx : Nat) (r0 : MP × Int32) (h : f_X8_garble w μ ν x1 x2 = some (nx + 1, r0)) : ∀ D E sz, vx_Met l yX8_garble gwX8_garble ({ frames := 7, cells := 1, slots := 6, locals := 120 } : Room) (cPe D E sz B (zS μ ν a Ad) [] [] [.ref (Ad 0 0), .int x1, .int x2]) (fun _ _ _ _ => False) (cX D E sz (zS μ ν a Ad) (nx + 1)) 1 6 (Aof (zS μ ν a Ad) [] sz) := by
  intro D E sz
  refine g_ofx (cc := cX8_garble) (maxL := 4) (ret := (some .int)) (own := "TradeLine") (by decide) rfl rfl (Nat.le_of_ble_eq_true rfl) ?_
  intro p e s m args below meth c C hT hz ha hEv
  refine g_lv (lv' := [(0, .ref (Ad 0 0)), (1, .int x1), (2, .int x2)]) [0, 1, 2] rfl ?_
  exact lx_X8_garble_0 C hEv hl hT hz h
noncomputable def f_X8_isOn  (w : Nat) (μ : MP) (ν : NC) (x1 : Int32) : Option (Nat × (Int32)) := (f_X8_requireSide w μ ν x1).bind (fun v1 => bif eqB v1.1 0 then bif ltB 0 (ν.2 0) then (f_X8_party w μ ν x1).bind (fun v3 => bif nzB v3 then bif ltB (v3 - 1) (ν.2 1) then bif boB (μ.1 1 (v3 - 1) 3) then some ((0 : Nat), (μ.1 1 (v3 - 1) 3)) else none else none else none) else none else some (v1.1, (0 : Int32)))
set_option maxHeartbeats 4000000 in
set_option maxRecDepth 100000 in
theorem lb_X8_isOn_0 {p : Program} {l : Launch} {e : Env} {s : State} {m : MethodId} {args : Array Value} {below : List Frame} {meth : Method} {c : Code} {D : va_G} {E : Nat → ClassId} {sz : Nat} {μ : MP} {ν : NC} {a : AS} {Ad : Nat → Nat → Nat} {w : Nat} {r0 : Int32} (C : cx p s m args meth c D E (Aof (zS μ ν a Ad) [] s.heap.size) cX8_isOn 2 "TradeLine") (hr : meth.sig.returnType = (some .boolean)) (hz : s.heap.size = sz) {x1 : Int32}   (h : f_X8_isOn  w μ ν x1 = some (0, r0)) : G p l e ({ frames := 1, cells := 0, slots := 0, locals := 21 } : Room) s m args below meth c D E (Aof (zS μ ν a Ad) [] s.heap.size) 2 (MQ below (cQ D E sz (zS μ ν a Ad) [] (pI (fun r u => r = r0 ∧ u = (zS μ ν a Ad, [])))) args s 0 0 (Aof (zS μ ν a Ad) [] s.heap.size)) (zS μ ν a Ad) [] 0 0 0 [(0, .ref (Ad 0 0)), (1, .int x1)] [] := by
  unfold f_X8_isOn at h
  refine g_iload_n C dX8_isOn_0 rfl 1 rfl ?_
  obtain ⟨v1, hv1, h⟩ := bind_of h
  obtain ⟨nv1, h⟩ := of_thr h
  refine g_cSv (n := 1) (exc := []) (exr := []) C [_] _ rfl rfl [] [] rfl rfl rfl rfl (fun _ h => absurd h (by simp)) (fun _ h => absurd h (by simp)) (fun _ h => absurd h (by simp)) (fun sz => c_X8_requireSide l μ ν a Ad w x1 _ (thr0 hv1 nv1) D E sz) rfl gw_481 gw_1 gw_479 gw_480 ⟨by decide +kernel, by decide +kernel, by decide +kernel⟩ ⟨rfl, rfl⟩ ⟨Nat.le_of_ble_eq_true rfl, Nat.le_of_ble_eq_true rfl⟩ (Nat.le_of_ble_eq_true rfl) dX8_isOn_1 ⟨by decide, by decide⟩ (fun u hp hx => ?_)
  obtain rfl := hp
  try dsimp only [List.append_nil]
  refine g_aload_n C dX8_isOn_4 rfl 0 rfl ?_
  refine g_iload_n C dX8_isOn_5 rfl 1 rfl ?_
  obtain ⟨g2, h⟩ := of_guard h
  obtain ⟨v3, hv3, h⟩ := bind_of h
  refine g_cVq (n := 1) (exc := []) (exr := []) C [_] _ rfl rfl [] [] rfl rfl rfl rfl (fun _ h => absurd h (by simp)) (fun _ h => absurd h (by simp)) (fun _ h => absurd h (by simp)) (fun sz => c_X8_party l μ ν a Ad w x1 _ hv3 D E sz) rfl gw_304 gw_1 gw_301 gw_303 gs_2 ⟨by decide +kernel, by decide +kernel, by decide +kernel⟩ ⟨rfl, rfl⟩ ⟨Nat.le_of_ble_eq_true rfl, Nat.le_of_ble_eq_true rfl⟩ (rcvT (lvZ g2 rfl) rfl rfl rfl) (Nat.le_of_ble_eq_true rfl) dX8_isOn_6 ⟨by decide, by decide⟩ (fun r u hp hx => ?_)
  obtain ⟨er, rfl⟩ := hp
  rw [er]
  try dsimp only [List.append_nil]
  obtain ⟨g4, h⟩ := of_guard h
  rw [nzB_e g4]
  obtain ⟨g5, h⟩ := of_guard h
  refine g_get (k := 1) (i := (v3 - 1)) (ref := "TradeLine$Party") (v := .int (μ.1 1 (v3 - 1) 3)) C rfl (lvZ g5 rfl) rfl rfl inGX5 3 (by decide) gw_118 (fun _ h => h) rfl dX8_isOn_9 ?_
  obtain ⟨g6, h⟩ := of_guard h
  obtain rfl := congrArg Prod.snd (Option.some.inj h)
  exact g_iret C hr (boB_n g6) hz ⟨rfl, rfl, fun _ => rfl, fun _ => rfl⟩ ⟨rfl, rfl⟩ (fun j x h => by simp at h) dX8_isOn_12
theorem c_X8_isOn (l : Launch) (μ : MP) (ν : NC) (a : AS) (Ad : Nat → Nat → Nat) (w : Nat) (x1 : Int32) (r0 : Int32) (h : f_X8_isOn w μ ν x1 = some (0, r0)) : ∀ D E sz, Met l yX8_isOn gwX8_isOn ({ frames := 1, cells := 0, slots := 0, locals := 21 } : Room) (cP D E sz (zS μ ν a Ad) [] [.ref (Ad 0 0), .int x1]) (cQ D E sz (zS μ ν a Ad) [] (pI (fun r u => r = r0 ∧ u = (zS μ ν a Ad, [])))) (0) (0) (Aof (zS μ ν a Ad) [] sz) := by
  intro D E sz
  refine g_of (cc := cX8_isOn) (maxL := 2) (ret := (some .boolean)) (own := "TradeLine") (by decide) rfl rfl (Nat.le_of_ble_eq_true rfl) ?_
  intro p e s m args below meth c C hr hin hz ha hwr
  refine g_lv (lv' := [(0, .ref (Ad 0 0)), (1, .int x1)]) [0, 1] rfl ?_
  exact lb_X8_isOn_0 C hr hz h
set_option maxHeartbeats 4000000 in
set_option maxRecDepth 100000 in
theorem lx_X8_isOn_0 {p : Program} {l : Launch} {e : Env} {s : State} {m : MethodId} {args : Array Value} {below : List Frame} {meth : Method} {c : Code} {D : va_G} {E : Nat → ClassId} {sz : Nat} {μ : MP} {ν : NC} {a : AS} {Ad : Nat → Nat → Nat} {w nx : Nat} {B : Nat × (Nat → Nat)} {r0 : Int32} (C : cx p s m args meth c D E (Aof (zS μ ν a Ad) [] s.heap.size) cX8_isOn 2 "TradeLine") (hEv : eV (Ad 30 0) (Ad 31 0) B (Aof (zS μ ν a Ad) [] s.heap.size) s s.heap) (hl : l.stackTraces = false) (hT : ∀ x ∈ c.exceptionTable.toList, False) (hz : s.heap.size = sz) {x1 : Int32}   (h : f_X8_isOn  w μ ν x1 = some (nx + 1, r0)) : G p l e ({ frames := 7, cells := 1, slots := 6, locals := 120 } : Room) s m args below meth c D E (Aof (zS μ ν a Ad) [] s.heap.size) 2 (vx_MQ below (fun _ _ _ _ => False) (cX D E sz (zS μ ν a Ad) (nx + 1)) args s 1 6 (Aof (zS μ ν a Ad) [] s.heap.size)) (zS μ ν a Ad) [] 0 0 0 [(0, .ref (Ad 0 0)), (1, .int x1)] [] := by
  unfold f_X8_isOn at h
  refine g_iload_n C dX8_isOn_0 rfl 1 rfl ?_
  obtain ⟨v1, hv1, h⟩ := bind_of h
  rcases of_thx h with ⟨nv1, h⟩ | nv1
  · refine g_cSv (n := 1) (exc := []) (exr := []) C [_] _ rfl rfl [] [] rfl rfl rfl rfl (fun _ h => absurd h (by simp)) (fun _ h => absurd h (by simp)) (fun _ h => absurd h (by simp)) (fun sz => c_X8_requireSide l μ ν a Ad w x1 _ (thr0 hv1 nv1) D E sz) rfl gw_481 gw_1 gw_479 gw_480 ⟨by decide +kernel, by decide +kernel, by decide +kernel⟩ ⟨rfl, rfl⟩ ⟨Nat.le_of_ble_eq_true rfl, Nat.le_of_ble_eq_true rfl⟩ (Nat.le_of_ble_eq_true rfl) dX8_isOn_1 ⟨by decide, by decide⟩ (fun u hp hx => ?_)
    obtain rfl := hp
    try dsimp only [List.append_nil]
    refine g_aload_n C dX8_isOn_4 rfl 0 rfl ?_
    refine g_iload_n C dX8_isOn_5 rfl 1 rfl ?_
    obtain ⟨g2, h⟩ := of_guard h
    obtain ⟨v3, hv3, h⟩ := bind_of h
    refine g_cVq (n := 1) (exc := []) (exr := []) C [_] _ rfl rfl [] [] rfl rfl rfl rfl (fun _ h => absurd h (by simp)) (fun _ h => absurd h (by simp)) (fun _ h => absurd h (by simp)) (fun sz => c_X8_party l μ ν a Ad w x1 _ hv3 D E sz) rfl gw_304 gw_1 gw_301 gw_303 gs_2 ⟨by decide +kernel, by decide +kernel, by decide +kernel⟩ ⟨rfl, rfl⟩ ⟨Nat.le_of_ble_eq_true rfl, Nat.le_of_ble_eq_true rfl⟩ (rcvT (lvZ g2 rfl) rfl rfl rfl) (Nat.le_of_ble_eq_true rfl) dX8_isOn_6 ⟨by decide, by decide⟩ (fun r u hp hx => ?_)
    obtain ⟨er, rfl⟩ := hp
    rw [er]
    try dsimp only [List.append_nil]
    obtain ⟨g4, h⟩ := of_guard h
    rw [nzB_e g4]
    obtain ⟨g5, h⟩ := of_guard h
    refine g_get (k := 1) (i := (v3 - 1)) (ref := "TradeLine$Party") (v := .int (μ.1 1 (v3 - 1) 3)) C rfl (lvZ g5 rfl) rfl rfl inGX5 3 (by decide) gw_118 (fun _ h => h) rfl dX8_isOn_9 ?_
    obtain ⟨g6, h⟩ := of_guard h
    exact absurd (congrArg Prod.fst (Option.some.inj h)) (by simp)
  · exact g_xS (index := 1) C hEv ⟨rfl, rfl⟩ hT hz [_] _ rfl rfl (fun sz => x_X8_requireSide l hl B μ ν a Ad w x1 _ _ (thrS hv1 nv1) D E sz) rfl gw_481 gw_1 gw_479 gw_480 ⟨by decide +kernel, by decide +kernel, by decide +kernel⟩ ⟨rfl, rfl⟩ ⟨Nat.le_of_ble_eq_true rfl, Nat.le_of_ble_eq_true rfl⟩ (Nat.le_of_ble_eq_true rfl) dX8_isOn_1 ⟨by decide, by decide⟩
theorem x_X8_isOn (l : Launch) (hl : l.stackTraces = false) (B : Nat × (Nat → Nat)) (μ : MP) (ν : NC) (a : AS) (Ad : Nat → Nat → Nat) (w : Nat) (x1 : Int32) (nx : Nat) (r0 : Int32) (h : f_X8_isOn w μ ν x1 = some (nx + 1, r0)) : ∀ D E sz, vx_Met l yX8_isOn gwX8_isOn ({ frames := 7, cells := 1, slots := 6, locals := 120 } : Room) (cPe D E sz B (zS μ ν a Ad) [] [] [.ref (Ad 0 0), .int x1]) (fun _ _ _ _ => False) (cX D E sz (zS μ ν a Ad) (nx + 1)) 1 6 (Aof (zS μ ν a Ad) [] sz) := by
  intro D E sz
  refine g_ofx (cc := cX8_isOn) (maxL := 2) (ret := (some .boolean)) (own := "TradeLine") (by decide) rfl rfl (Nat.le_of_ble_eq_true rfl) ?_
  intro p e s m args below meth c C hT hz ha hEv
  refine g_lv (lv' := [(0, .ref (Ad 0 0)), (1, .int x1)]) [0, 1] rfl ?_
  exact lx_X8_isOn_0 C hEv hl hT hz h
noncomputable def f_X8_onWay  (w : Nat) (μ : MP) (ν : NC) (x1 : Int32) : Option (Nat × (Int32)) := (f_X8_requireSide w μ ν x1).bind (fun v1 => bif eqB v1.1 0 then bif ltB 0 (ν.2 0) then (f_X8_party w μ ν x1).bind (fun v3 => bif nzB v3 then bif ltB (v3 - 1) (ν.2 1) then bif ltB (v3 - 1) (ν.2 2) then some ((0 : Nat), (μ.1 2 (v3 - 1) 4)) else none else none else none) else none else some (v1.1, (0 : Int32)))
set_option maxHeartbeats 4000000 in
set_option maxRecDepth 100000 in
theorem lb_X8_onWay_0 {p : Program} {l : Launch} {e : Env} {s : State} {m : MethodId} {args : Array Value} {below : List Frame} {meth : Method} {c : Code} {D : va_G} {E : Nat → ClassId} {sz : Nat} {μ : MP} {ν : NC} {a : AS} {Ad : Nat → Nat → Nat} {w : Nat} {r0 : Int32} (C : cx p s m args meth c D E (Aof (zS μ ν a Ad) [] s.heap.size) cX8_onWay 2 "TradeLine") (hr : meth.sig.returnType = (some .int)) (hz : s.heap.size = sz) {x1 : Int32}   (h : f_X8_onWay  w μ ν x1 = some (0, r0)) : G p l e ({ frames := 1, cells := 0, slots := 0, locals := 21 } : Room) s m args below meth c D E (Aof (zS μ ν a Ad) [] s.heap.size) 2 (MQ below (cQ D E sz (zS μ ν a Ad) [] (pI (fun r u => r = r0 ∧ u = (zS μ ν a Ad, [])))) args s 0 0 (Aof (zS μ ν a Ad) [] s.heap.size)) (zS μ ν a Ad) [] 0 0 0 [(0, .ref (Ad 0 0)), (1, .int x1)] [] := by
  unfold f_X8_onWay at h
  refine g_iload_n C dX8_onWay_0 rfl 1 rfl ?_
  obtain ⟨v1, hv1, h⟩ := bind_of h
  obtain ⟨nv1, h⟩ := of_thr h
  refine g_cSv (n := 1) (exc := []) (exr := []) C [_] _ rfl rfl [] [] rfl rfl rfl rfl (fun _ h => absurd h (by simp)) (fun _ h => absurd h (by simp)) (fun _ h => absurd h (by simp)) (fun sz => c_X8_requireSide l μ ν a Ad w x1 _ (thr0 hv1 nv1) D E sz) rfl gw_481 gw_1 gw_479 gw_480 ⟨by decide +kernel, by decide +kernel, by decide +kernel⟩ ⟨rfl, rfl⟩ ⟨Nat.le_of_ble_eq_true rfl, Nat.le_of_ble_eq_true rfl⟩ (Nat.le_of_ble_eq_true rfl) dX8_onWay_1 ⟨by decide, by decide⟩ (fun u hp hx => ?_)
  obtain rfl := hp
  try dsimp only [List.append_nil]
  refine g_aload_n C dX8_onWay_4 rfl 0 rfl ?_
  refine g_iload_n C dX8_onWay_5 rfl 1 rfl ?_
  obtain ⟨g2, h⟩ := of_guard h
  obtain ⟨v3, hv3, h⟩ := bind_of h
  refine g_cVq (n := 1) (exc := []) (exr := []) C [_] _ rfl rfl [] [] rfl rfl rfl rfl (fun _ h => absurd h (by simp)) (fun _ h => absurd h (by simp)) (fun _ h => absurd h (by simp)) (fun sz => c_X8_party l μ ν a Ad w x1 _ hv3 D E sz) rfl gw_304 gw_1 gw_301 gw_303 gs_2 ⟨by decide +kernel, by decide +kernel, by decide +kernel⟩ ⟨rfl, rfl⟩ ⟨Nat.le_of_ble_eq_true rfl, Nat.le_of_ble_eq_true rfl⟩ (rcvT (lvZ g2 rfl) rfl rfl rfl) (Nat.le_of_ble_eq_true rfl) dX8_onWay_6 ⟨by decide, by decide⟩ (fun r u hp hx => ?_)
  obtain ⟨er, rfl⟩ := hp
  rw [er]
  try dsimp only [List.append_nil]
  obtain ⟨g4, h⟩ := of_guard h
  rw [nzB_e g4]
  obtain ⟨g5, h⟩ := of_guard h
  refine g_get (k := 1) (i := (v3 - 1)) (ref := "TradeLine$Party") (v := .ref (Ad 2 (v3 - 1))) C rfl (lvZ g5 rfl) rfl rfl inGX5 1 (by decide) gw_114 (fun _ h => h) rfl dX8_onWay_9 ?_
  obtain ⟨g6, h⟩ := of_guard h
  refine g_get (k := 2) (i := (v3 - 1)) (ref := "TradeLine$Way") (v := .int (μ.1 2 (v3 - 1) 4)) C rfl (lvZ g6 rfl) rfl rfl inGX7 4 (by decide) gw_83 (fun _ h => h) rfl dX8_onWay_12 ?_
  obtain rfl := congrArg Prod.snd (Option.some.inj h)
  exact g_iret C hr rfl hz ⟨rfl, rfl, fun _ => rfl, fun _ => rfl⟩ ⟨rfl, rfl⟩ (fun j x h => by simp at h) dX8_onWay_15
theorem c_X8_onWay (l : Launch) (μ : MP) (ν : NC) (a : AS) (Ad : Nat → Nat → Nat) (w : Nat) (x1 : Int32) (r0 : Int32) (h : f_X8_onWay w μ ν x1 = some (0, r0)) : ∀ D E sz, Met l yX8_onWay gwX8_onWay ({ frames := 1, cells := 0, slots := 0, locals := 21 } : Room) (cP D E sz (zS μ ν a Ad) [] [.ref (Ad 0 0), .int x1]) (cQ D E sz (zS μ ν a Ad) [] (pI (fun r u => r = r0 ∧ u = (zS μ ν a Ad, [])))) (0) (0) (Aof (zS μ ν a Ad) [] sz) := by
  intro D E sz
  refine g_of (cc := cX8_onWay) (maxL := 2) (ret := (some .int)) (own := "TradeLine") (by decide) rfl rfl (Nat.le_of_ble_eq_true rfl) ?_
  intro p e s m args below meth c C hr hin hz ha hwr
  refine g_lv (lv' := [(0, .ref (Ad 0 0)), (1, .int x1)]) [0, 1] rfl ?_
  exact lb_X8_onWay_0 C hr hz h
set_option maxHeartbeats 4000000 in
set_option maxRecDepth 100000 in
theorem lx_X8_onWay_0 {p : Program} {l : Launch} {e : Env} {s : State} {m : MethodId} {args : Array Value} {below : List Frame} {meth : Method} {c : Code} {D : va_G} {E : Nat → ClassId} {sz : Nat} {μ : MP} {ν : NC} {a : AS} {Ad : Nat → Nat → Nat} {w nx : Nat} {B : Nat × (Nat → Nat)} {r0 : Int32} (C : cx p s m args meth c D E (Aof (zS μ ν a Ad) [] s.heap.size) cX8_onWay 2 "TradeLine") (hEv : eV (Ad 30 0) (Ad 31 0) B (Aof (zS μ ν a Ad) [] s.heap.size) s s.heap) (hl : l.stackTraces = false) (hT : ∀ x ∈ c.exceptionTable.toList, False) (hz : s.heap.size = sz) {x1 : Int32}   (h : f_X8_onWay  w μ ν x1 = some (nx + 1, r0)) : G p l e ({ frames := 7, cells := 1, slots := 6, locals := 120 } : Room) s m args below meth c D E (Aof (zS μ ν a Ad) [] s.heap.size) 2 (vx_MQ below (fun _ _ _ _ => False) (cX D E sz (zS μ ν a Ad) (nx + 1)) args s 1 6 (Aof (zS μ ν a Ad) [] s.heap.size)) (zS μ ν a Ad) [] 0 0 0 [(0, .ref (Ad 0 0)), (1, .int x1)] [] := by
  unfold f_X8_onWay at h
  refine g_iload_n C dX8_onWay_0 rfl 1 rfl ?_
  obtain ⟨v1, hv1, h⟩ := bind_of h
  rcases of_thx h with ⟨nv1, h⟩ | nv1
  · refine g_cSv (n := 1) (exc := []) (exr := []) C [_] _ rfl rfl [] [] rfl rfl rfl rfl (fun _ h => absurd h (by simp)) (fun _ h => absurd h (by simp)) (fun _ h => absurd h (by simp)) (fun sz => c_X8_requireSide l μ ν a Ad w x1 _ (thr0 hv1 nv1) D E sz) rfl gw_481 gw_1 gw_479 gw_480 ⟨by decide +kernel, by decide +kernel, by decide +kernel⟩ ⟨rfl, rfl⟩ ⟨Nat.le_of_ble_eq_true rfl, Nat.le_of_ble_eq_true rfl⟩ (Nat.le_of_ble_eq_true rfl) dX8_onWay_1 ⟨by decide, by decide⟩ (fun u hp hx => ?_)
    obtain rfl := hp
    try dsimp only [List.append_nil]
    refine g_aload_n C dX8_onWay_4 rfl 0 rfl ?_
    refine g_iload_n C dX8_onWay_5 rfl 1 rfl ?_
    obtain ⟨g2, h⟩ := of_guard h
    obtain ⟨v3, hv3, h⟩ := bind_of h
    refine g_cVq (n := 1) (exc := []) (exr := []) C [_] _ rfl rfl [] [] rfl rfl rfl rfl (fun _ h => absurd h (by simp)) (fun _ h => absurd h (by simp)) (fun _ h => absurd h (by simp)) (fun sz => c_X8_party l μ ν a Ad w x1 _ hv3 D E sz) rfl gw_304 gw_1 gw_301 gw_303 gs_2 ⟨by decide +kernel, by decide +kernel, by decide +kernel⟩ ⟨rfl, rfl⟩ ⟨Nat.le_of_ble_eq_true rfl, Nat.le_of_ble_eq_true rfl⟩ (rcvT (lvZ g2 rfl) rfl rfl rfl) (Nat.le_of_ble_eq_true rfl) dX8_onWay_6 ⟨by decide, by decide⟩ (fun r u hp hx => ?_)
    obtain ⟨er, rfl⟩ := hp
    rw [er]
    try dsimp only [List.append_nil]
    obtain ⟨g4, h⟩ := of_guard h
    rw [nzB_e g4]
    obtain ⟨g5, h⟩ := of_guard h
    refine g_get (k := 1) (i := (v3 - 1)) (ref := "TradeLine$Party") (v := .ref (Ad 2 (v3 - 1))) C rfl (lvZ g5 rfl) rfl rfl inGX5 1 (by decide) gw_114 (fun _ h => h) rfl dX8_onWay_9 ?_
    obtain ⟨g6, h⟩ := of_guard h
    refine g_get (k := 2) (i := (v3 - 1)) (ref := "TradeLine$Way") (v := .int (μ.1 2 (v3 - 1) 4)) C rfl (lvZ g6 rfl) rfl rfl inGX7 4 (by decide) gw_83 (fun _ h => h) rfl dX8_onWay_12 ?_
    exact absurd (congrArg Prod.fst (Option.some.inj h)) (by simp)
  · exact g_xS (index := 1) C hEv ⟨rfl, rfl⟩ hT hz [_] _ rfl rfl (fun sz => x_X8_requireSide l hl B μ ν a Ad w x1 _ _ (thrS hv1 nv1) D E sz) rfl gw_481 gw_1 gw_479 gw_480 ⟨by decide +kernel, by decide +kernel, by decide +kernel⟩ ⟨rfl, rfl⟩ ⟨Nat.le_of_ble_eq_true rfl, Nat.le_of_ble_eq_true rfl⟩ (Nat.le_of_ble_eq_true rfl) dX8_onWay_1 ⟨by decide, by decide⟩
theorem x_X8_onWay (l : Launch) (hl : l.stackTraces = false) (B : Nat × (Nat → Nat)) (μ : MP) (ν : NC) (a : AS) (Ad : Nat → Nat → Nat) (w : Nat) (x1 : Int32) (nx : Nat) (r0 : Int32) (h : f_X8_onWay w μ ν x1 = some (nx + 1, r0)) : ∀ D E sz, vx_Met l yX8_onWay gwX8_onWay ({ frames := 7, cells := 1, slots := 6, locals := 120 } : Room) (cPe D E sz B (zS μ ν a Ad) [] [] [.ref (Ad 0 0), .int x1]) (fun _ _ _ _ => False) (cX D E sz (zS μ ν a Ad) (nx + 1)) 1 6 (Aof (zS μ ν a Ad) [] sz) := by
  intro D E sz
  refine g_ofx (cc := cX8_onWay) (maxL := 2) (ret := (some .int)) (own := "TradeLine") (by decide) rfl rfl (Nat.le_of_ble_eq_true rfl) ?_
  intro p e s m args below meth c C hT hz ha hEv
  refine g_lv (lv' := [(0, .ref (Ad 0 0)), (1, .int x1)]) [0, 1] rfl ?_
  exact lx_X8_onWay_0 C hEv hl hT hz h
