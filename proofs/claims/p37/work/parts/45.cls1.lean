noncomputable def f_X1_rest  (w : Nat) (μ : MP) (ν : NC) (i0 : Nat) : Option (Int32) := bif ltB i0 (ν.2 21) then some (((μ.1 21 i0 1) - (μ.1 21 i0 2)) - (μ.1 21 i0 3)) else none
set_option maxHeartbeats 4000000 in
set_option maxRecDepth 100000 in
theorem lb_X1_rest_0 {p : Program} {l : Launch} {e : Env} {s : State} {m : MethodId} {args : Array Value} {below : List Frame} {meth : Method} {c : Code} {D : va_G} {E : Nat → ClassId} {sz : Nat} {μ : MP} {ν : NC} {a : AS} {Ad : Nat → Nat → Nat} {i0 : Nat} {w : Nat} {r0 : Int32} (C : cx p s m args meth c D E (Aof (zS μ ν a Ad) [] s.heap.size) cX1_rest 1 "TradeLine$Book") (hr : meth.sig.returnType = (some .int)) (hz : s.heap.size = sz)   (h : f_X1_rest  w μ ν i0  = some r0) : G p l e ({ frames := 0, cells := 0, slots := 0, locals := 0 } : Room) s m args below meth c D E (Aof (zS μ ν a Ad) [] s.heap.size) 1 (MQ below (cQ D E sz (zS μ ν a Ad) [] (pI (fun r u => r = r0 ∧ u = (zS μ ν a Ad, [])))) args s 0 0 (Aof (zS μ ν a Ad) [] s.heap.size)) (zS μ ν a Ad) [] 0 0 0 [(0, .ref (Ad 21 i0))] [] := by
  unfold f_X1_rest at h
  refine g_aload_n C dX1_rest_0 rfl 0 rfl ?_
  obtain ⟨g1, h⟩ := of_guard h
  refine g_get (k := 21) (i := i0) (ref := "TradeLine$Book") (v := .int (μ.1 21 i0 1)) C rfl (lvZ g1 rfl) rfl rfl inGX1 1 (by decide) gw_1092 (fun _ h => h) rfl dX1_rest_1 ?_
  refine g_aload_n C dX1_rest_4 rfl 0 rfl ?_
  refine g_get (k := 21) (i := i0) (ref := "TradeLine$Book") (v := .int (μ.1 21 i0 2)) C rfl (lvZ g1 rfl) rfl rfl inGX1 2 (by decide) gw_1094 (fun _ h => h) rfl dX1_rest_5 ?_
  refine g_isub C dX1_rest_8 ?_
  refine g_aload_n C dX1_rest_9 rfl 0 rfl ?_
  refine g_get (k := 21) (i := i0) (ref := "TradeLine$Book") (v := .int (μ.1 21 i0 3)) C rfl (lvZ g1 rfl) rfl rfl inGX1 3 (by decide) gw_1097 (fun _ h => h) rfl dX1_rest_10 ?_
  refine g_isub C dX1_rest_13 ?_
  exact g_iret C hr rfl hz ⟨rfl, rfl, fun _ => rfl, fun _ => rfl⟩ ⟨Option.some.inj h, rfl⟩ (fun j x h => by simp at h) dX1_rest_14
theorem c_X1_rest (l : Launch) (μ : MP) (ν : NC) (a : AS) (Ad : Nat → Nat → Nat) (w : Nat) (i0 : Nat) (r0 : Int32) (h : f_X1_rest w μ ν i0  = some r0) : ∀ D E sz, Met l yX1_rest gwX1_rest ({ frames := 0, cells := 0, slots := 0, locals := 0 } : Room) (cP D E sz (zS μ ν a Ad) [] [.ref (Ad 21 i0)]) (cQ D E sz (zS μ ν a Ad) [] (pI (fun r u => r = r0 ∧ u = (zS μ ν a Ad, [])))) (0) (0) (Aof (zS μ ν a Ad) [] sz) := by
  intro D E sz
  refine g_of (cc := cX1_rest) (maxL := 1) (ret := (some .int)) (own := "TradeLine$Book") (by decide) rfl rfl (Nat.le_of_ble_eq_true rfl) ?_
  intro p e s m args below meth c C hr hin hz ha hwr
  refine g_lv (lv' := [(0, .ref (Ad 21 i0))]) [0] rfl ?_
  exact lb_X1_rest_0 C hr hz h
noncomputable def f_X1_takeBack  (w : Nat) (μ : MP) (ν : NC) (i0 : Nat) (x1 : Int32) : Option (MP × Int32) := bif ltB i0 (ν.2 21) then yl (uM μ 21 i0 2 ((μ.1 21 i0 2) - x1)) (fun m2 => yl (uM m2 21 i0 3 ((m2.1 21 i0 3) + x1)) (fun m3 => some (m3, (0 : Int32)))) else none
set_option maxHeartbeats 4000000 in
set_option maxRecDepth 100000 in
theorem lb_X1_takeBack_0 {p : Program} {l : Launch} {e : Env} {s : State} {m : MethodId} {args : Array Value} {below : List Frame} {meth : Method} {c : Code} {D : va_G} {E : Nat → ClassId} {sz : Nat} {μ0 : MP} {ν : NC} {a : AS} {Ad : Nat → Nat → Nat} {i0 : Nat} {w : Nat} {r0 : MP × Int32} (C : cx p s m args meth c D E (Aof (zS μ0 ν a Ad) [] s.heap.size) cX1_takeBack 2 "TradeLine$Book") (hr : meth.sig.returnType = none) (hz : s.heap.size = sz) {μ : MP} {x1 : Int32}   (h : f_X1_takeBack  w μ ν i0 x1 = some r0) : G p l e ({ frames := 0, cells := 0, slots := 0, locals := 0 } : Room) s m args below meth c D E (Aof (zS μ0 ν a Ad) [] s.heap.size) 2 (MQ below (cQ D E sz (zS μ0 ν a Ad) [] (pV (fun u => u = (zS r0.1 ν a Ad, [])))) args s 0 0 (Aof (zS μ0 ν a Ad) [] s.heap.size)) (zS μ ν a Ad) [] 0 0 0 [(0, .ref (Ad 21 i0)), (1, .int x1)] [] := by
  unfold f_X1_takeBack at h
  refine g_aload_n C dX1_takeBack_0 rfl 0 rfl ?_
  refine g_dup C dX1_takeBack_1 rfl ?_
  obtain ⟨g1, h⟩ := of_guard h
  refine g_get (k := 21) (i := i0) (ref := "TradeLine$Book") (v := .int (μ.1 21 i0 2)) C rfl (lvZ g1 rfl) rfl rfl inGX1 2 (by decide) gw_1094 (fun _ h => h) rfl dX1_takeBack_2 ?_
  refine g_iload_n C dX1_takeBack_5 rfl 1 rfl ?_
  refine g_isub C dX1_takeBack_6 ?_
  refine z_put (k := 21) (i := i0) (ref := "TradeLine$Book") C rfl g1 rfl rfl rfl inGX1 tyX1 tyX1_ok nmX1 2 (by decide) gw_1094 (fun _ h => h) rfl (tyX1_ok 2 (by decide)) rfl rfl (by simp [fvs]) (by simp [fvs, up1]) dX1_takeBack_7 (fun m2 em2 => ?_)
  replace h := yl_of h em2
  refine g_aload_n C dX1_takeBack_10 rfl 0 rfl ?_
  refine g_dup C dX1_takeBack_11 rfl ?_
  refine g_get (k := 21) (i := i0) (ref := "TradeLine$Book") (v := .int (m2.1 21 i0 3)) C rfl (lvZ g1 rfl) rfl rfl inGX1 3 (by decide) gw_1097 (fun _ h => h) rfl dX1_takeBack_12 ?_
  refine g_iload_n C dX1_takeBack_15 rfl 1 rfl ?_
  refine g_iadd C dX1_takeBack_16 ?_
  refine z_put (k := 21) (i := i0) (ref := "TradeLine$Book") C rfl g1 rfl rfl rfl inGX1 tyX1 tyX1_ok nmX1 3 (by decide) gw_1097 (fun _ h => h) rfl (tyX1_ok 3 (by decide)) rfl rfl (by simp [fvs]) (by simp [fvs, up1]) dX1_takeBack_17 (fun m3 em3 => ?_)
  replace h := yl_of h em3
  obtain rfl := Option.some.inj h
  exact g_vret C hr hz ⟨rfl, rfl, fun _ => rfl, fun _ => rfl⟩ rfl (fun j x h => by simp at h) dX1_takeBack_20
theorem c_X1_takeBack (l : Launch) (μ : MP) (ν : NC) (a : AS) (Ad : Nat → Nat → Nat) (w : Nat) (i0 : Nat) (x1 : Int32) (r0 : MP × Int32) (h : f_X1_takeBack w μ ν i0 x1 = some r0) : ∀ D E sz, Met l yX1_takeBack gwX1_takeBack ({ frames := 0, cells := 0, slots := 0, locals := 0 } : Room) (cP D E sz (zS μ ν a Ad) [] [.ref (Ad 21 i0), .int x1]) (cQ D E sz (zS μ ν a Ad) [] (pV (fun u => u = (zS r0.1 ν a Ad, [])))) (0) (0) (Aof (zS μ ν a Ad) [] sz) := by
  intro D E sz
  refine g_of (cc := cX1_takeBack) (maxL := 2) (ret := none) (own := "TradeLine$Book") (by decide) rfl rfl (Nat.le_of_ble_eq_true rfl) ?_
  intro p e s m args below meth c C hr hin hz ha hwr
  refine g_lv (lv' := [(0, .ref (Ad 21 i0)), (1, .int x1)]) [0, 1] rfl ?_
  exact lb_X1_takeBack_0 C hr hz h
noncomputable def f_X2_countsFor  (w : Nat) (μ : MP) (ν : NC) (i0 : Nat) (x1 : Int32) : Option (Int32) := (if x1 = (1 : Int32) then (bif ltB i0 (ν.2 23) then (if (μ.1 23 i0 5) = (0 : Int32) then (some (1 : Int32)) else (some (0 : Int32))) else none) else (bif ltB i0 (ν.2 23) then (if (μ.1 23 i0 6) = (0 : Int32) then (some (0 : Int32)) else ((if (μ.1 23 i0 8) = (0 : Int32) then (some (1 : Int32)) else (some (0 : Int32))))) else none))
set_option maxHeartbeats 4000000 in
set_option maxRecDepth 100000 in
theorem lb_X2_countsFor_0 {p : Program} {l : Launch} {e : Env} {s : State} {m : MethodId} {args : Array Value} {below : List Frame} {meth : Method} {c : Code} {D : va_G} {E : Nat → ClassId} {sz : Nat} {μ : MP} {ν : NC} {a : AS} {Ad : Nat → Nat → Nat} {i0 : Nat} {w : Nat} {r0 : Int32} (C : cx p s m args meth c D E (Aof (zS μ ν a Ad) [] s.heap.size) cX2_countsFor 2 "TradeLine$Execution") (hr : meth.sig.returnType = (some .boolean)) (hz : s.heap.size = sz) {x1 : Int32}   (h : f_X2_countsFor  w μ ν i0 x1 = some r0) : G p l e ({ frames := 0, cells := 0, slots := 0, locals := 0 } : Room) s m args below meth c D E (Aof (zS μ ν a Ad) [] s.heap.size) 2 (MQ below (cQ D E sz (zS μ ν a Ad) [] (pI (fun r u => r = r0 ∧ u = (zS μ ν a Ad, [])))) args s 0 0 (Aof (zS μ ν a Ad) [] s.heap.size)) (zS μ ν a Ad) [] 0 0 0 [(0, .ref (Ad 23 i0)), (1, .int x1)] [] := by
  unfold f_X2_countsFor at h
  refine g_iload_n C dX2_countsFor_0 rfl 1 rfl ?_
  refine g_iconst (v := (1 : Int32)) C dX2_countsFor_1 (by decide) ?_
  refine g_icmp_ne (tgt := 20) C dX2_countsFor_2 (by decide) (fun c2 => ?_) (fun c2 => ?_)
  · replace h := (if_neg c2).symm.trans h
    refine g_aload_n C dX2_countsFor_20 rfl 0 rfl ?_
    obtain ⟨g1, h⟩ := of_guard h
    refine g_get (k := 23) (i := i0) (ref := "TradeLine$Execution") (v := .int (μ.1 23 i0 6)) C rfl (lvZ g1 rfl) rfl rfl inGX2 6 (by decide) gw_911 (fun _ h => h) rfl dX2_countsFor_21 ?_
    refine g_if_eq (tgt := 38) C dX2_countsFor_24 (by decide) (fun c24 => ?_) (fun c24 => ?_)
    · replace h := (if_pos c24).symm.trans h
      refine g_iconst (v := (0 : Int32)) C dX2_countsFor_38 (by decide) ?_
      exact g_iret C hr rfl hz ⟨rfl, rfl, fun _ => rfl, fun _ => rfl⟩ ⟨Option.some.inj h, rfl⟩ (fun j x h => by simp at h) dX2_countsFor_39
    · replace h := (if_neg c24).symm.trans h
      refine g_aload_n C dX2_countsFor_27 rfl 0 rfl ?_
      refine g_get (k := 23) (i := i0) (ref := "TradeLine$Execution") (v := .int (μ.1 23 i0 8)) C rfl (lvZ g1 rfl) rfl rfl inGX2 8 (by decide) gw_915 (fun _ h => h) rfl dX2_countsFor_28 ?_
      refine g_if_ne (tgt := 38) C dX2_countsFor_31 (by decide) (fun c31 => ?_) (fun c31 => ?_)
      · replace h := (if_neg c31).symm.trans h
        refine g_iconst (v := (0 : Int32)) C dX2_countsFor_38 (by decide) ?_
        exact g_iret C hr rfl hz ⟨rfl, rfl, fun _ => rfl, fun _ => rfl⟩ ⟨Option.some.inj h, rfl⟩ (fun j x h => by simp at h) dX2_countsFor_39
      · replace h := (if_pos c31).symm.trans h
        refine g_iconst (v := (1 : Int32)) C dX2_countsFor_34 (by decide) ?_
        refine g_goto (tgt := 39) C dX2_countsFor_35 (by decide) ?_
        exact g_iret C hr rfl hz ⟨rfl, rfl, fun _ => rfl, fun _ => rfl⟩ ⟨Option.some.inj h, rfl⟩ (fun j x h => by simp at h) dX2_countsFor_39
  · replace h := (if_pos c2).symm.trans h
    refine g_aload_n C dX2_countsFor_5 rfl 0 rfl ?_
    obtain ⟨g2, h⟩ := of_guard h
    refine g_get (k := 23) (i := i0) (ref := "TradeLine$Execution") (v := .int (μ.1 23 i0 5)) C rfl (lvZ g2 rfl) rfl rfl inGX2 5 (by decide) gw_909 (fun _ h => h) rfl dX2_countsFor_6 ?_
    refine g_if_ne (tgt := 16) C dX2_countsFor_9 (by decide) (fun c9 => ?_) (fun c9 => ?_)
    · replace h := (if_neg c9).symm.trans h
      refine g_iconst (v := (0 : Int32)) C dX2_countsFor_16 (by decide) ?_
      refine g_goto (tgt := 39) C dX2_countsFor_17 (by decide) ?_
      exact g_iret C hr rfl hz ⟨rfl, rfl, fun _ => rfl, fun _ => rfl⟩ ⟨Option.some.inj h, rfl⟩ (fun j x h => by simp at h) dX2_countsFor_39
    · replace h := (if_pos c9).symm.trans h
      refine g_iconst (v := (1 : Int32)) C dX2_countsFor_12 (by decide) ?_
      refine g_goto (tgt := 39) C dX2_countsFor_13 (by decide) ?_
      exact g_iret C hr rfl hz ⟨rfl, rfl, fun _ => rfl, fun _ => rfl⟩ ⟨Option.some.inj h, rfl⟩ (fun j x h => by simp at h) dX2_countsFor_39
theorem c_X2_countsFor (l : Launch) (μ : MP) (ν : NC) (a : AS) (Ad : Nat → Nat → Nat) (w : Nat) (i0 : Nat) (x1 : Int32) (r0 : Int32) (h : f_X2_countsFor w μ ν i0 x1 = some r0) : ∀ D E sz, Met l yX2_countsFor gwX2_countsFor ({ frames := 0, cells := 0, slots := 0, locals := 0 } : Room) (cP D E sz (zS μ ν a Ad) [] [.ref (Ad 23 i0), .int x1]) (cQ D E sz (zS μ ν a Ad) [] (pI (fun r u => r = r0 ∧ u = (zS μ ν a Ad, [])))) (0) (0) (Aof (zS μ ν a Ad) [] sz) := by
  intro D E sz
  refine g_of (cc := cX2_countsFor) (maxL := 2) (ret := (some .boolean)) (own := "TradeLine$Execution") (by decide) rfl rfl (Nat.le_of_ble_eq_true rfl) ?_
  intro p e s m args below meth c C hr hin hz ha hwr
  refine g_lv (lv' := [(0, .ref (Ad 23 i0)), (1, .int x1)]) [0, 1] rfl ?_
  exact lb_X2_countsFor_0 C hr hz h
noncomputable def f_X2_priceFor  (w : Nat) (μ : MP) (ν : NC) (i0 : Nat) (x1 : Int32) : Option (Int32) := (if x1 = (1 : Int32) then (bif ltB i0 (ν.2 23) then some (μ.1 23 i0 4) else none) else (bif ltB i0 (ν.2 23) then some (μ.1 23 i0 7) else none))
set_option maxHeartbeats 4000000 in
set_option maxRecDepth 100000 in
theorem lb_X2_priceFor_0 {p : Program} {l : Launch} {e : Env} {s : State} {m : MethodId} {args : Array Value} {below : List Frame} {meth : Method} {c : Code} {D : va_G} {E : Nat → ClassId} {sz : Nat} {μ : MP} {ν : NC} {a : AS} {Ad : Nat → Nat → Nat} {i0 : Nat} {w : Nat} {r0 : Int32} (C : cx p s m args meth c D E (Aof (zS μ ν a Ad) [] s.heap.size) cX2_priceFor 2 "TradeLine$Execution") (hr : meth.sig.returnType = (some .int)) (hz : s.heap.size = sz) {x1 : Int32}   (h : f_X2_priceFor  w μ ν i0 x1 = some r0) : G p l e ({ frames := 0, cells := 0, slots := 0, locals := 0 } : Room) s m args below meth c D E (Aof (zS μ ν a Ad) [] s.heap.size) 2 (MQ below (cQ D E sz (zS μ ν a Ad) [] (pI (fun r u => r = r0 ∧ u = (zS μ ν a Ad, [])))) args s 0 0 (Aof (zS μ ν a Ad) [] s.heap.size)) (zS μ ν a Ad) [] 0 0 0 [(0, .ref (Ad 23 i0)), (1, .int x1)] [] := by
  unfold f_X2_priceFor at h
  refine g_iload_n C dX2_priceFor_0 rfl 1 rfl ?_
  refine g_iconst (v := (1 : Int32)) C dX2_priceFor_1 (by decide) ?_
  refine g_icmp_ne (tgt := 12) C dX2_priceFor_2 (by decide) (fun c2 => ?_) (fun c2 => ?_)
  · replace h := (if_neg c2).symm.trans h
    refine g_aload_n C dX2_priceFor_12 rfl 0 rfl ?_
    obtain ⟨g1, h⟩ := of_guard h
    refine g_get (k := 23) (i := i0) (ref := "TradeLine$Execution") (v := .int (μ.1 23 i0 7)) C rfl (lvZ g1 rfl) rfl rfl inGX2 7 (by decide) gw_913 (fun _ h => h) rfl dX2_priceFor_13 ?_
    exact g_iret C hr rfl hz ⟨rfl, rfl, fun _ => rfl, fun _ => rfl⟩ ⟨Option.some.inj h, rfl⟩ (fun j x h => by simp at h) dX2_priceFor_16
  · replace h := (if_pos c2).symm.trans h
    refine g_aload_n C dX2_priceFor_5 rfl 0 rfl ?_
    obtain ⟨g2, h⟩ := of_guard h
    refine g_get (k := 23) (i := i0) (ref := "TradeLine$Execution") (v := .int (μ.1 23 i0 4)) C rfl (lvZ g2 rfl) rfl rfl inGX2 4 (by decide) gw_907 (fun _ h => h) rfl dX2_priceFor_6 ?_
    refine g_goto (tgt := 16) C dX2_priceFor_9 (by decide) ?_
    exact g_iret C hr rfl hz ⟨rfl, rfl, fun _ => rfl, fun _ => rfl⟩ ⟨Option.some.inj h, rfl⟩ (fun j x h => by simp at h) dX2_priceFor_16
theorem c_X2_priceFor (l : Launch) (μ : MP) (ν : NC) (a : AS) (Ad : Nat → Nat → Nat) (w : Nat) (i0 : Nat) (x1 : Int32) (r0 : Int32) (h : f_X2_priceFor w μ ν i0 x1 = some r0) : ∀ D E sz, Met l yX2_priceFor gwX2_priceFor ({ frames := 0, cells := 0, slots := 0, locals := 0 } : Room) (cP D E sz (zS μ ν a Ad) [] [.ref (Ad 23 i0), .int x1]) (cQ D E sz (zS μ ν a Ad) [] (pI (fun r u => r = r0 ∧ u = (zS μ ν a Ad, [])))) (0) (0) (Aof (zS μ ν a Ad) [] sz) := by
  intro D E sz
  refine g_of (cc := cX2_priceFor) (maxL := 2) (ret := (some .int)) (own := "TradeLine$Execution") (by decide) rfl rfl (Nat.le_of_ble_eq_true rfl) ?_
  intro p e s m args below meth c C hr hin hz ha hwr
  refine g_lv (lv' := [(0, .ref (Ad 23 i0)), (1, .int x1)]) [0, 1] rfl ?_
  exact lb_X2_priceFor_0 C hr hz h
noncomputable def f_X3_fieldCount  (w : Nat) (μ : MP) (ν : NC) (i0 : Nat) : Option (Int32) := bif ltB i0 (ν.2 6) then bif ltB i0 (ν.2 8) then some ((nI (ν.1 8 i0)) / (2 : Int32)) else none else none
set_option maxHeartbeats 4000000 in
set_option maxRecDepth 100000 in
theorem lb_X3_fieldCount_0 {p : Program} {l : Launch} {e : Env} {s : State} {m : MethodId} {args : Array Value} {below : List Frame} {meth : Method} {c : Code} {D : va_G} {E : Nat → ClassId} {sz : Nat} {μ : MP} {ν : NC} {a : AS} {Ad : Nat → Nat → Nat} {i0 : Nat} {w : Nat} {r0 : Int32} (C : cx p s m args meth c D E (Aof (zS μ ν a Ad) [] s.heap.size) cX3_fieldCount 1 "TradeLine$Message") (hr : meth.sig.returnType = (some .int)) (hz : s.heap.size = sz)   (h : f_X3_fieldCount  w μ ν i0  = some r0) : G p l e ({ frames := 0, cells := 0, slots := 0, locals := 0 } : Room) s m args below meth c D E (Aof (zS μ ν a Ad) [] s.heap.size) 1 (MQ below (cQ D E sz (zS μ ν a Ad) [] (pI (fun r u => r = r0 ∧ u = (zS μ ν a Ad, [])))) args s 0 0 (Aof (zS μ ν a Ad) [] s.heap.size)) (zS μ ν a Ad) [] 0 0 0 [(0, .ref (Ad 6 i0))] [] := by
  unfold f_X3_fieldCount at h
  refine g_aload_n C dX3_fieldCount_0 rfl 0 rfl ?_
  obtain ⟨g1, h⟩ := of_guard h
  refine g_get (k := 6) (i := i0) (ref := "TradeLine$Message") (v := .ref (Ad 8 i0)) C rfl (lvZ g1 rfl) rfl rfl inGX3 2 (by decide) gw_340 (fun _ h => h) rfl dX3_fieldCount_1 ?_
  obtain ⟨g2, h⟩ := of_guard h
  refine g_alen (k := 8) (i := i0) (v := nI (ν.1 8 i0)) C rfl (lvZ g2 rfl) (by decide) rfl dX3_fieldCount_4 ?_
  refine g_iconst (v := (2 : Int32)) C dX3_fieldCount_5 (by decide) ?_
  refine g_idiv C dX3_fieldCount_6 (by decide) ?_
  exact g_iret C hr rfl hz ⟨rfl, rfl, fun _ => rfl, fun _ => rfl⟩ ⟨Option.some.inj h, rfl⟩ (fun j x h => by simp at h) dX3_fieldCount_7
theorem c_X3_fieldCount (l : Launch) (μ : MP) (ν : NC) (a : AS) (Ad : Nat → Nat → Nat) (w : Nat) (i0 : Nat) (r0 : Int32) (h : f_X3_fieldCount w μ ν i0  = some r0) : ∀ D E sz, Met l yX3_fieldCount gwX3_fieldCount ({ frames := 0, cells := 0, slots := 0, locals := 0 } : Room) (cP D E sz (zS μ ν a Ad) [] [.ref (Ad 6 i0)]) (cQ D E sz (zS μ ν a Ad) [] (pI (fun r u => r = r0 ∧ u = (zS μ ν a Ad, [])))) (0) (0) (Aof (zS μ ν a Ad) [] sz) := by
  intro D E sz
  refine g_of (cc := cX3_fieldCount) (maxL := 1) (ret := (some .int)) (own := "TradeLine$Message") (by decide) rfl rfl (Nat.le_of_ble_eq_true rfl) ?_
  intro p e s m args below meth c C hr hin hz ha hwr
  refine g_lv (lv' := [(0, .ref (Ad 6 i0))]) [0] rfl ?_
  exact lb_X3_fieldCount_0 C hr hz h
noncomputable def f_X3_hasPlace  (w : Nat) (μ : MP) (ν : NC) (i0 : Nat) (x1 : Int32) : Option (Int32) := (if x1 < (0 : Int32) then (some (0 : Int32)) else (bif ltB i0 (ν.2 6) then bif ltB i0 (ν.2 8) then (if ((nI (ν.1 8 i0)) / (2 : Int32)) ≤ x1 then (some (0 : Int32)) else (some (1 : Int32))) else none else none))
set_option maxHeartbeats 4000000 in
set_option maxRecDepth 100000 in
theorem lb_X3_hasPlace_0 {p : Program} {l : Launch} {e : Env} {s : State} {m : MethodId} {args : Array Value} {below : List Frame} {meth : Method} {c : Code} {D : va_G} {E : Nat → ClassId} {sz : Nat} {μ : MP} {ν : NC} {a : AS} {Ad : Nat → Nat → Nat} {i0 : Nat} {w : Nat} {r0 : Int32} (C : cx p s m args meth c D E (Aof (zS μ ν a Ad) [] s.heap.size) cX3_hasPlace 2 "TradeLine$Message") (hr : meth.sig.returnType = (some .boolean)) (hz : s.heap.size = sz) {x1 : Int32}   (h : f_X3_hasPlace  w μ ν i0 x1 = some r0) : G p l e ({ frames := 0, cells := 0, slots := 0, locals := 0 } : Room) s m args below meth c D E (Aof (zS μ ν a Ad) [] s.heap.size) 2 (MQ below (cQ D E sz (zS μ ν a Ad) [] (pI (fun r u => r = r0 ∧ u = (zS μ ν a Ad, [])))) args s 0 0 (Aof (zS μ ν a Ad) [] s.heap.size)) (zS μ ν a Ad) [] 0 0 0 [(0, .ref (Ad 6 i0)), (1, .int x1)] [] := by
  unfold f_X3_hasPlace at h
  refine g_iload_n C dX3_hasPlace_0 rfl 1 rfl ?_
  refine g_if_lt (tgt := 19) C dX3_hasPlace_1 (by decide) (fun c1 => ?_) (fun c1 => ?_)
  · replace h := (if_pos c1).symm.trans h
    refine g_iconst (v := (0 : Int32)) C dX3_hasPlace_19 (by decide) ?_
    exact g_iret C hr rfl hz ⟨rfl, rfl, fun _ => rfl, fun _ => rfl⟩ ⟨Option.some.inj h, rfl⟩ (fun j x h => by simp at h) dX3_hasPlace_20
  · replace h := (if_neg c1).symm.trans h
    refine g_iload_n C dX3_hasPlace_4 rfl 1 rfl ?_
    refine g_aload_n C dX3_hasPlace_5 rfl 0 rfl ?_
    obtain ⟨g1, h⟩ := of_guard h
    refine g_get (k := 6) (i := i0) (ref := "TradeLine$Message") (v := .ref (Ad 8 i0)) C rfl (lvZ g1 rfl) rfl rfl inGX3 2 (by decide) gw_340 (fun _ h => h) rfl dX3_hasPlace_6 ?_
    obtain ⟨g2, h⟩ := of_guard h
    refine g_alen (k := 8) (i := i0) (v := nI (ν.1 8 i0)) C rfl (lvZ g2 rfl) (by decide) rfl dX3_hasPlace_9 ?_
    refine g_iconst (v := (2 : Int32)) C dX3_hasPlace_10 (by decide) ?_
    refine g_idiv C dX3_hasPlace_11 (by decide) ?_
    refine g_icmp_ge (tgt := 19) C dX3_hasPlace_12 (by decide) (fun c12 => ?_) (fun c12 => ?_)
    · replace h := (if_pos c12).symm.trans h
      refine g_iconst (v := (0 : Int32)) C dX3_hasPlace_19 (by decide) ?_
      exact g_iret C hr rfl hz ⟨rfl, rfl, fun _ => rfl, fun _ => rfl⟩ ⟨Option.some.inj h, rfl⟩ (fun j x h => by simp at h) dX3_hasPlace_20
    · replace h := (if_neg c12).symm.trans h
      refine g_iconst (v := (1 : Int32)) C dX3_hasPlace_15 (by decide) ?_
      refine g_goto (tgt := 20) C dX3_hasPlace_16 (by decide) ?_
      exact g_iret C hr rfl hz ⟨rfl, rfl, fun _ => rfl, fun _ => rfl⟩ ⟨Option.some.inj h, rfl⟩ (fun j x h => by simp at h) dX3_hasPlace_20
theorem c_X3_hasPlace (l : Launch) (μ : MP) (ν : NC) (a : AS) (Ad : Nat → Nat → Nat) (w : Nat) (i0 : Nat) (x1 : Int32) (r0 : Int32) (h : f_X3_hasPlace w μ ν i0 x1 = some r0) : ∀ D E sz, Met l yX3_hasPlace gwX3_hasPlace ({ frames := 0, cells := 0, slots := 0, locals := 0 } : Room) (cP D E sz (zS μ ν a Ad) [] [.ref (Ad 6 i0), .int x1]) (cQ D E sz (zS μ ν a Ad) [] (pI (fun r u => r = r0 ∧ u = (zS μ ν a Ad, [])))) (0) (0) (Aof (zS μ ν a Ad) [] sz) := by
  intro D E sz
  refine g_of (cc := cX3_hasPlace) (maxL := 2) (ret := (some .boolean)) (own := "TradeLine$Message") (by decide) rfl rfl (Nat.le_of_ble_eq_true rfl) ?_
  intro p e s m args below meth c C hr hin hz ha hwr
  refine g_lv (lv' := [(0, .ref (Ad 6 i0)), (1, .int x1)]) [0, 1] rfl ?_
  exact lb_X3_hasPlace_0 C hr hz h
noncomputable def f_X3_tagOfPlace  (w : Nat) (μ : MP) (ν : NC) (i0 : Nat) (x1 : Int32) : Option (Int32) := bif ltB i0 (ν.2 6) then (f_X3_hasPlace w μ ν i0 x1).bind (fun v2 => (if v2 = (0 : Int32) then (some (-1 : Int32)) else (bif ltB i0 (ν.2 8) then bif ixB ((2 : Int32) * x1) (ν.1 8 i0) then some (μ.1 8 i0 ((2 : Int32) * x1).toNatClampNeg) else none else none))) else none
set_option maxHeartbeats 4000000 in
set_option maxRecDepth 100000 in
theorem lb_X3_tagOfPlace_0 {p : Program} {l : Launch} {e : Env} {s : State} {m : MethodId} {args : Array Value} {below : List Frame} {meth : Method} {c : Code} {D : va_G} {E : Nat → ClassId} {sz : Nat} {μ : MP} {ν : NC} {a : AS} {Ad : Nat → Nat → Nat} {i0 : Nat} {w : Nat} {r0 : Int32} (C : cx p s m args meth c D E (Aof (zS μ ν a Ad) [] s.heap.size) cX3_tagOfPlace 2 "TradeLine$Message") (hr : meth.sig.returnType = (some .int)) (hz : s.heap.size = sz) {x1 : Int32}   (h : f_X3_tagOfPlace  w μ ν i0 x1 = some r0) : G p l e ({ frames := 1, cells := 0, slots := 0, locals := 21 } : Room) s m args below meth c D E (Aof (zS μ ν a Ad) [] s.heap.size) 2 (MQ below (cQ D E sz (zS μ ν a Ad) [] (pI (fun r u => r = r0 ∧ u = (zS μ ν a Ad, [])))) args s 0 0 (Aof (zS μ ν a Ad) [] s.heap.size)) (zS μ ν a Ad) [] 0 0 0 [(0, .ref (Ad 6 i0)), (1, .int x1)] [] := by
  unfold f_X3_tagOfPlace at h
  refine g_aload_n C dX3_tagOfPlace_0 rfl 0 rfl ?_
  refine g_iload_n C dX3_tagOfPlace_1 rfl 1 rfl ?_
  obtain ⟨g1, h⟩ := of_guard h
  obtain ⟨v2, hv2, h⟩ := bind_of h
  refine g_cVi (n := 1) (exc := []) (exr := []) C [_] _ rfl rfl [] [] rfl rfl rfl rfl (fun _ h => absurd h (by simp)) (fun _ h => absurd h (by simp)) (fun _ h => absurd h (by simp)) (fun sz => c_X3_hasPlace l μ ν a Ad w i0 x1 _ hv2 D E sz) rfl gw_964 gw_18 gw_961 gw_962 gw_963 ⟨by decide +kernel, by decide +kernel, by decide +kernel⟩ ⟨rfl, rfl⟩ ⟨Nat.le_of_ble_eq_true rfl, Nat.le_of_ble_eq_true rfl⟩ (rcvT (lvZ g1 rfl) rfl rfl rfl) (Nat.le_of_ble_eq_true rfl) dX3_tagOfPlace_2 ⟨by decide, by decide⟩ (fun r u hp hx => ?_)
  obtain ⟨er, rfl⟩ := hp
  rw [er]
  try dsimp only [List.append_nil]
  refine g_if_eq (tgt := 19) C dX3_tagOfPlace_5 (by decide) (fun c5 => ?_) (fun c5 => ?_)
  · replace h := (if_pos c5).symm.trans h
    refine g_iconst (v := (-1 : Int32)) C dX3_tagOfPlace_19 (by decide) ?_
    exact g_iret C hr rfl hz ⟨rfl, rfl, fun _ => rfl, fun _ => rfl⟩ ⟨Option.some.inj h, rfl⟩ (fun j x h => by simp at h) dX3_tagOfPlace_20
  · replace h := (if_neg c5).symm.trans h
    refine g_aload_n C dX3_tagOfPlace_8 rfl 0 rfl ?_
    refine g_get (k := 6) (i := i0) (ref := "TradeLine$Message") (v := .ref (Ad 8 i0)) C rfl (lvZ g1 rfl) rfl rfl inGX3 2 (by decide) gw_340 (fun _ h => h) rfl dX3_tagOfPlace_9 ?_
    refine g_iconst (v := (2 : Int32)) C dX3_tagOfPlace_12 (by decide) ?_
    refine g_iload_n C dX3_tagOfPlace_13 rfl 1 rfl ?_
    refine g_imul C dX3_tagOfPlace_14 ?_
    obtain ⟨g3, h⟩ := of_guard h
    obtain ⟨g4, h⟩ := of_guard h
    refine z_iald (k := 8) (i := i0) C rfl g3 rfl rfl g4 dX3_tagOfPlace_15 ?_
    refine g_goto (tgt := 20) C dX3_tagOfPlace_16 (by decide) ?_
    exact g_iret C hr rfl hz ⟨rfl, rfl, fun _ => rfl, fun _ => rfl⟩ ⟨Option.some.inj h, rfl⟩ (fun j x h => by simp at h) dX3_tagOfPlace_20
theorem c_X3_tagOfPlace (l : Launch) (μ : MP) (ν : NC) (a : AS) (Ad : Nat → Nat → Nat) (w : Nat) (i0 : Nat) (x1 : Int32) (r0 : Int32) (h : f_X3_tagOfPlace w μ ν i0 x1 = some r0) : ∀ D E sz, Met l yX3_tagOfPlace gwX3_tagOfPlace ({ frames := 1, cells := 0, slots := 0, locals := 21 } : Room) (cP D E sz (zS μ ν a Ad) [] [.ref (Ad 6 i0), .int x1]) (cQ D E sz (zS μ ν a Ad) [] (pI (fun r u => r = r0 ∧ u = (zS μ ν a Ad, [])))) (0) (0) (Aof (zS μ ν a Ad) [] sz) := by
  intro D E sz
  refine g_of (cc := cX3_tagOfPlace) (maxL := 2) (ret := (some .int)) (own := "TradeLine$Message") (by decide) rfl rfl (Nat.le_of_ble_eq_true rfl) ?_
  intro p e s m args below meth c C hr hin hz ha hwr
  refine g_lv (lv' := [(0, .ref (Ad 6 i0)), (1, .int x1)]) [0, 1] rfl ?_
  exact lb_X3_tagOfPlace_0 C hr hz h
noncomputable def f_X3_valueOfPlace  (w : Nat) (μ : MP) (ν : NC) (i0 : Nat) (x1 : Int32) : Option (Int32) := bif ltB i0 (ν.2 6) then (f_X3_hasPlace w μ ν i0 x1).bind (fun v2 => (if v2 = (0 : Int32) then (some (-1 : Int32)) else (bif ltB i0 (ν.2 8) then bif ixB (((2 : Int32) * x1) + (1 : Int32)) (ν.1 8 i0) then some (μ.1 8 i0 (((2 : Int32) * x1) + (1 : Int32)).toNatClampNeg) else none else none))) else none
set_option maxHeartbeats 4000000 in
set_option maxRecDepth 100000 in
theorem lb_X3_valueOfPlace_0 {p : Program} {l : Launch} {e : Env} {s : State} {m : MethodId} {args : Array Value} {below : List Frame} {meth : Method} {c : Code} {D : va_G} {E : Nat → ClassId} {sz : Nat} {μ : MP} {ν : NC} {a : AS} {Ad : Nat → Nat → Nat} {i0 : Nat} {w : Nat} {r0 : Int32} (C : cx p s m args meth c D E (Aof (zS μ ν a Ad) [] s.heap.size) cX3_valueOfPlace 2 "TradeLine$Message") (hr : meth.sig.returnType = (some .int)) (hz : s.heap.size = sz) {x1 : Int32}   (h : f_X3_valueOfPlace  w μ ν i0 x1 = some r0) : G p l e ({ frames := 1, cells := 0, slots := 0, locals := 21 } : Room) s m args below meth c D E (Aof (zS μ ν a Ad) [] s.heap.size) 2 (MQ below (cQ D E sz (zS μ ν a Ad) [] (pI (fun r u => r = r0 ∧ u = (zS μ ν a Ad, [])))) args s 0 0 (Aof (zS μ ν a Ad) [] s.heap.size)) (zS μ ν a Ad) [] 0 0 0 [(0, .ref (Ad 6 i0)), (1, .int x1)] [] := by
  unfold f_X3_valueOfPlace at h
  refine g_aload_n C dX3_valueOfPlace_0 rfl 0 rfl ?_
  refine g_iload_n C dX3_valueOfPlace_1 rfl 1 rfl ?_
  obtain ⟨g1, h⟩ := of_guard h
  obtain ⟨v2, hv2, h⟩ := bind_of h
  refine g_cVi (n := 1) (exc := []) (exr := []) C [_] _ rfl rfl [] [] rfl rfl rfl rfl (fun _ h => absurd h (by simp)) (fun _ h => absurd h (by simp)) (fun _ h => absurd h (by simp)) (fun sz => c_X3_hasPlace l μ ν a Ad w i0 x1 _ hv2 D E sz) rfl gw_964 gw_18 gw_961 gw_962 gw_963 ⟨by decide +kernel, by decide +kernel, by decide +kernel⟩ ⟨rfl, rfl⟩ ⟨Nat.le_of_ble_eq_true rfl, Nat.le_of_ble_eq_true rfl⟩ (rcvT (lvZ g1 rfl) rfl rfl rfl) (Nat.le_of_ble_eq_true rfl) dX3_valueOfPlace_2 ⟨by decide, by decide⟩ (fun r u hp hx => ?_)
  obtain ⟨er, rfl⟩ := hp
  rw [er]
  try dsimp only [List.append_nil]
  refine g_if_eq (tgt := 21) C dX3_valueOfPlace_5 (by decide) (fun c5 => ?_) (fun c5 => ?_)
  · replace h := (if_pos c5).symm.trans h
    refine g_iconst (v := (-1 : Int32)) C dX3_valueOfPlace_21 (by decide) ?_
    exact g_iret C hr rfl hz ⟨rfl, rfl, fun _ => rfl, fun _ => rfl⟩ ⟨Option.some.inj h, rfl⟩ (fun j x h => by simp at h) dX3_valueOfPlace_22
  · replace h := (if_neg c5).symm.trans h
    refine g_aload_n C dX3_valueOfPlace_8 rfl 0 rfl ?_
    refine g_get (k := 6) (i := i0) (ref := "TradeLine$Message") (v := .ref (Ad 8 i0)) C rfl (lvZ g1 rfl) rfl rfl inGX3 2 (by decide) gw_340 (fun _ h => h) rfl dX3_valueOfPlace_9 ?_
    refine g_iconst (v := (2 : Int32)) C dX3_valueOfPlace_12 (by decide) ?_
    refine g_iload_n C dX3_valueOfPlace_13 rfl 1 rfl ?_
    refine g_imul C dX3_valueOfPlace_14 ?_
    refine g_iconst (v := (1 : Int32)) C dX3_valueOfPlace_15 (by decide) ?_
    refine g_iadd C dX3_valueOfPlace_16 ?_
    obtain ⟨g3, h⟩ := of_guard h
    obtain ⟨g4, h⟩ := of_guard h
    refine z_iald (k := 8) (i := i0) C rfl g3 rfl rfl g4 dX3_valueOfPlace_17 ?_
    refine g_goto (tgt := 22) C dX3_valueOfPlace_18 (by decide) ?_
    exact g_iret C hr rfl hz ⟨rfl, rfl, fun _ => rfl, fun _ => rfl⟩ ⟨Option.some.inj h, rfl⟩ (fun j x h => by simp at h) dX3_valueOfPlace_22
theorem c_X3_valueOfPlace (l : Launch) (μ : MP) (ν : NC) (a : AS) (Ad : Nat → Nat → Nat) (w : Nat) (i0 : Nat) (x1 : Int32) (r0 : Int32) (h : f_X3_valueOfPlace w μ ν i0 x1 = some r0) : ∀ D E sz, Met l yX3_valueOfPlace gwX3_valueOfPlace ({ frames := 1, cells := 0, slots := 0, locals := 21 } : Room) (cP D E sz (zS μ ν a Ad) [] [.ref (Ad 6 i0), .int x1]) (cQ D E sz (zS μ ν a Ad) [] (pI (fun r u => r = r0 ∧ u = (zS μ ν a Ad, [])))) (0) (0) (Aof (zS μ ν a Ad) [] sz) := by
  intro D E sz
  refine g_of (cc := cX3_valueOfPlace) (maxL := 2) (ret := (some .int)) (own := "TradeLine$Message") (by decide) rfl rfl (Nat.le_of_ble_eq_true rfl) ?_
  intro p e s m args below meth c C hr hin hz ha hwr
  refine g_lv (lv' := [(0, .ref (Ad 6 i0)), (1, .int x1)]) [0, 1] rfl ?_
  exact lb_X3_valueOfPlace_0 C hr hz h
noncomputable def b_X3_valueOf_2 (k2 : Int32 → Int32 → Option (Int32)) (w : Nat) (μ : MP) (ν : NC) (i0 : Nat) (x1 : Int32) (x2 : Int32) : Option (Int32) := bif ltB i0 (ν.2 6) then bif ltB i0 (ν.2 8) then (if (nI (ν.1 8 i0)) ≤ (x2 + (1 : Int32)) then (some (-1 : Int32)) else (bif ixB x2 (ν.1 8 i0) then (if (μ.1 8 i0 x2.toNatClampNeg) = x1 then (bif ixB (x2 + (1 : Int32)) (ν.1 8 i0) then some (μ.1 8 i0 (x2 + (1 : Int32)).toNatClampNeg) else none) else (yl (x2 + (2 : Int32)) (fun t4 => k2 x1 t4))) else none)) else none else none
set_option maxHeartbeats 4000000 in
set_option maxRecDepth 100000 in
theorem lb_X3_valueOf_2 {p : Program} {l : Launch} {e : Env} {s : State} {m : MethodId} {args : Array Value} {below : List Frame} {meth : Method} {c : Code} {D : va_G} {E : Nat → ClassId} {sz : Nat} {μ : MP} {ν : NC} {a : AS} {Ad : Nat → Nat → Nat} {i0 : Nat} {w : Nat} {r0 : Int32} (C : cx p s m args meth c D E (Aof (zS μ ν a Ad) [] s.heap.size) cX3_valueOf 3 "TradeLine$Message") (hr : meth.sig.returnType = (some .int)) (hz : s.heap.size = sz) {x1 : Int32} {x2 : Int32} {k2 : Int32 → Int32 → Option (Int32)} (hk2 : ∀ (z1 : Int32) (z2 : Int32), k2 z1 z2 = some r0 → G p l e ({ frames := 0, cells := 0, slots := 0, locals := 0 } : Room) s m args below meth c D E (Aof (zS μ ν a Ad) [] s.heap.size) 3 (MQ below (cQ D E sz (zS μ ν a Ad) [] (pI (fun r u => r = r0 ∧ u = (zS μ ν a Ad, [])))) args s 0 0 (Aof (zS μ ν a Ad) [] s.heap.size)) (zS μ ν a Ad) [] 0 0 2 [(0, .ref (Ad 6 i0)), (1, .int z1), (2, .int z2)] []) (h : b_X3_valueOf_2 k2 w μ ν i0 x1 x2 = some r0) : G p l e ({ frames := 0, cells := 0, slots := 0, locals := 0 } : Room) s m args below meth c D E (Aof (zS μ ν a Ad) [] s.heap.size) 3 (MQ below (cQ D E sz (zS μ ν a Ad) [] (pI (fun r u => r = r0 ∧ u = (zS μ ν a Ad, [])))) args s 0 0 (Aof (zS μ ν a Ad) [] s.heap.size)) (zS μ ν a Ad) [] 0 0 2 [(0, .ref (Ad 6 i0)), (1, .int x1), (2, .int x2)] [] := by
  unfold b_X3_valueOf_2 at h
  refine g_iload_n C dX3_valueOf_2 rfl 2 rfl ?_
  refine g_iconst (v := (1 : Int32)) C dX3_valueOf_3 (by decide) ?_
  refine g_iadd C dX3_valueOf_4 ?_
  refine g_aload_n C dX3_valueOf_5 rfl 0 rfl ?_
  obtain ⟨g1, h⟩ := of_guard h
  refine g_get (k := 6) (i := i0) (ref := "TradeLine$Message") (v := .ref (Ad 8 i0)) C rfl (lvZ g1 rfl) rfl rfl inGX3 2 (by decide) gw_340 (fun _ h => h) rfl dX3_valueOf_6 ?_
  obtain ⟨g2, h⟩ := of_guard h
  refine g_alen (k := 8) (i := i0) (v := nI (ν.1 8 i0)) C rfl (lvZ g2 rfl) (by decide) rfl dX3_valueOf_9 ?_
  refine g_icmp_ge (tgt := 38) C dX3_valueOf_10 (by decide) (fun c10 => ?_) (fun c10 => ?_)
  · replace h := (if_pos c10).symm.trans h
    refine g_iconst (v := (-1 : Int32)) C dX3_valueOf_38 (by decide) ?_
    exact g_iret C hr rfl hz ⟨rfl, rfl, fun _ => rfl, fun _ => rfl⟩ ⟨Option.some.inj h, rfl⟩ (fun j x h => by simp at h) dX3_valueOf_39
  · replace h := (if_neg c10).symm.trans h
    refine g_aload_n C dX3_valueOf_13 rfl 0 rfl ?_
    refine g_get (k := 6) (i := i0) (ref := "TradeLine$Message") (v := .ref (Ad 8 i0)) C rfl (lvZ g1 rfl) rfl rfl inGX3 2 (by decide) gw_340 (fun _ h => h) rfl dX3_valueOf_14 ?_
    refine g_iload_n C dX3_valueOf_17 rfl 2 rfl ?_
    obtain ⟨g3, h⟩ := of_guard h
    refine z_iald (k := 8) (i := i0) C rfl g2 rfl rfl g3 dX3_valueOf_18 ?_
    refine g_iload_n C dX3_valueOf_19 rfl 1 rfl ?_
    refine g_icmp_ne (tgt := 32) C dX3_valueOf_20 (by decide) (fun c20 => ?_) (fun c20 => ?_)
    · replace h := (if_neg c20).symm.trans h
      obtain ⟨t4, et4⟩ : ∃ y : Int32, x2 + (2 : Int32) = y := ⟨_, rfl⟩
      replace h := yl_of h et4
      refine g_iinc (v := t4) (lv' := [(2, .int t4), (0, .ref (Ad 6 i0)), (1, .int x1)]) C dX3_valueOf_32 2 rfl (by rw [← et4]; rfl) (by decide) rfl ?_
      refine g_goto (tgt := 2) C dX3_valueOf_35 (by decide) ?_
      refine g_lv [1, 2, 0] rfl ?_
      exact hk2 _ _ h
    · replace h := (if_pos c20).symm.trans h
      refine g_aload_n C dX3_valueOf_23 rfl 0 rfl ?_
      refine g_get (k := 6) (i := i0) (ref := "TradeLine$Message") (v := .ref (Ad 8 i0)) C rfl (lvZ g1 rfl) rfl rfl inGX3 2 (by decide) gw_340 (fun _ h => h) rfl dX3_valueOf_24 ?_
      refine g_iload_n C dX3_valueOf_27 rfl 2 rfl ?_
      refine g_iconst (v := (1 : Int32)) C dX3_valueOf_28 (by decide) ?_
      refine g_iadd C dX3_valueOf_29 ?_
      obtain ⟨g5, h⟩ := of_guard h
      refine z_iald (k := 8) (i := i0) C rfl g2 rfl rfl g5 dX3_valueOf_30 ?_
      exact g_iret C hr rfl hz ⟨rfl, rfl, fun _ => rfl, fun _ => rfl⟩ ⟨Option.some.inj h, rfl⟩ (fun j x h => by simp at h) dX3_valueOf_31
noncomputable def l_X3_valueOf_2  (w : Nat) (μ : MP) (ν : NC) (i0 : Nat) : Nat → Int32 → Int32 → Option (Int32)
  | 0 => fun _ _ => none
  | n + 1 => fun x1 x2 => b_X3_valueOf_2  (l_X3_valueOf_2  w μ ν i0 n) w μ ν i0 x1 x2
theorem ll_X3_valueOf_2 {p : Program} {l : Launch} {e : Env} {s : State} {m : MethodId} {args : Array Value} {below : List Frame} {meth : Method} {c : Code} {D : va_G} {E : Nat → ClassId} {sz : Nat} {μ : MP} {ν : NC} {a : AS} {Ad : Nat → Nat → Nat} {i0 : Nat} {w : Nat} {r0 : Int32} (C : cx p s m args meth c D E (Aof (zS μ ν a Ad) [] s.heap.size) cX3_valueOf 3 "TradeLine$Message") (hr : meth.sig.returnType = (some .int)) (hz : s.heap.size = sz)   : ∀ (n : Nat) (x1 : Int32) (x2 : Int32), l_X3_valueOf_2  w μ ν i0 n x1 x2 = some r0 → G p l e ({ frames := 0, cells := 0, slots := 0, locals := 0 } : Room) s m args below meth c D E (Aof (zS μ ν a Ad) [] s.heap.size) 3 (MQ below (cQ D E sz (zS μ ν a Ad) [] (pI (fun r u => r = r0 ∧ u = (zS μ ν a Ad, [])))) args s 0 0 (Aof (zS μ ν a Ad) [] s.heap.size)) (zS μ ν a Ad) [] 0 0 2 [(0, .ref (Ad 6 i0)), (1, .int x1), (2, .int x2)] [] := by
  intro n
  induction n with
  | zero => exact fun x1 x2 h => absurd (show (none : Option (Int32)) = some r0 from h) (by simp)
  | succ n ih => exact fun x1 x2 h => lb_X3_valueOf_2 (w := w) C hr hz  ih h
noncomputable def f_X3_valueOf  (w : Nat) (μ : MP) (ν : NC) (i0 : Nat) (x1 : Int32) : Option (Int32) := l_X3_valueOf_2  w μ ν i0 w x1 (0 : Int32)
set_option maxHeartbeats 4000000 in
set_option maxRecDepth 100000 in
theorem lb_X3_valueOf_0 {p : Program} {l : Launch} {e : Env} {s : State} {m : MethodId} {args : Array Value} {below : List Frame} {meth : Method} {c : Code} {D : va_G} {E : Nat → ClassId} {sz : Nat} {μ : MP} {ν : NC} {a : AS} {Ad : Nat → Nat → Nat} {i0 : Nat} {w : Nat} {r0 : Int32} (C : cx p s m args meth c D E (Aof (zS μ ν a Ad) [] s.heap.size) cX3_valueOf 3 "TradeLine$Message") (hr : meth.sig.returnType = (some .int)) (hz : s.heap.size = sz) {x1 : Int32}   (h : f_X3_valueOf  w μ ν i0 x1 = some r0) : G p l e ({ frames := 0, cells := 0, slots := 0, locals := 0 } : Room) s m args below meth c D E (Aof (zS μ ν a Ad) [] s.heap.size) 3 (MQ below (cQ D E sz (zS μ ν a Ad) [] (pI (fun r u => r = r0 ∧ u = (zS μ ν a Ad, [])))) args s 0 0 (Aof (zS μ ν a Ad) [] s.heap.size)) (zS μ ν a Ad) [] 0 0 0 [(0, .ref (Ad 6 i0)), (1, .int x1)] [] := by
  unfold f_X3_valueOf at h
  refine g_iconst (v := (0 : Int32)) C dX3_valueOf_0 (by decide) ?_
  refine g_istore_n (i := 2) (lv' := [(2, .int (0 : Int32)), (0, .ref (Ad 6 i0)), (1, .int x1)]) C dX3_valueOf_1 rfl (by decide) rfl ?_
  refine g_lv [1, 2, 0] rfl ?_
  exact ll_X3_valueOf_2 C hr hz  w _ _ h
theorem c_X3_valueOf (l : Launch) (μ : MP) (ν : NC) (a : AS) (Ad : Nat → Nat → Nat) (w : Nat) (i0 : Nat) (x1 : Int32) (r0 : Int32) (h : f_X3_valueOf w μ ν i0 x1 = some r0) : ∀ D E sz, Met l yX3_valueOf gwX3_valueOf ({ frames := 0, cells := 0, slots := 0, locals := 0 } : Room) (cP D E sz (zS μ ν a Ad) [] [.ref (Ad 6 i0), .int x1]) (cQ D E sz (zS μ ν a Ad) [] (pI (fun r u => r = r0 ∧ u = (zS μ ν a Ad, [])))) (0) (0) (Aof (zS μ ν a Ad) [] sz) := by
  intro D E sz
  refine g_of (cc := cX3_valueOf) (maxL := 3) (ret := (some .int)) (own := "TradeLine$Message") (by decide) rfl rfl (Nat.le_of_ble_eq_true rfl) ?_
  intro p e s m args below meth c C hr hin hz ha hwr
  refine g_lv (lv' := [(0, .ref (Ad 6 i0)), (1, .int x1)]) [0, 1] rfl ?_
  exact lb_X3_valueOf_0 C hr hz h
noncomputable def f_X6_isBetterThan  (w : Nat) (μ : MP) (ν : NC) (i0 : Nat) (p1 : Nat) (x2 : Int32) : Option (Int32) := bif ltB i0 (ν.2 25) then bif nzB p1 then bif ltB (p1 - 1) (ν.2 25) then (if (μ.1 25 i0 1) = (μ.1 25 (p1 - 1) 1) then ((if (μ.1 25 i0 2) ≤ (μ.1 25 (p1 - 1) 2) then (some (0 : Int32)) else (some (1 : Int32)))) else ((if x2 = (0 : Int32) then ((if (μ.1 25 (p1 - 1) 1) ≤ (μ.1 25 i0 1) then (some (0 : Int32)) else (some (1 : Int32)))) else ((if (μ.1 25 i0 1) ≤ (μ.1 25 (p1 - 1) 1) then (some (0 : Int32)) else (some (1 : Int32))))))) else none else none else none
set_option maxHeartbeats 4000000 in
set_option maxRecDepth 100000 in
theorem lb_X6_isBetterThan_0 {p : Program} {l : Launch} {e : Env} {s : State} {m : MethodId} {args : Array Value} {below : List Frame} {meth : Method} {c : Code} {D : va_G} {E : Nat → ClassId} {sz : Nat} {μ : MP} {ν : NC} {a : AS} {Ad : Nat → Nat → Nat} {i0 : Nat} {w : Nat} {r0 : Int32} (C : cx p s m args meth c D E (Aof (zS μ ν a Ad) [] s.heap.size) cX6_isBetterThan 3 "TradeLine$Quote") (hr : meth.sig.returnType = (some .boolean)) (hz : s.heap.size = sz) {p1 : Nat} {x2 : Int32}   (h : f_X6_isBetterThan  w μ ν i0 p1 x2 = some r0) : G p l e ({ frames := 0, cells := 0, slots := 0, locals := 0 } : Room) s m args below meth c D E (Aof (zS μ ν a Ad) [] s.heap.size) 3 (MQ below (cQ D E sz (zS μ ν a Ad) [] (pI (fun r u => r = r0 ∧ u = (zS μ ν a Ad, [])))) args s 0 0 (Aof (zS μ ν a Ad) [] s.heap.size)) (zS μ ν a Ad) [] 0 0 0 [(0, .ref (Ad 25 i0)), (1, nv (Ad 25) p1), (2, .int x2)] [] := by
  unfold f_X6_isBetterThan at h
  refine g_aload_n C dX6_isBetterThan_0 rfl 0 rfl ?_
  obtain ⟨g1, h⟩ := of_guard h
  refine g_get (k := 25) (i := i0) (ref := "TradeLine$Quote") (v := .int (μ.1 25 i0 1)) C rfl (lvZ g1 rfl) rfl rfl inGX6 1 (by decide) gw_157 (fun _ h => h) rfl dX6_isBetterThan_1 ?_
  refine z_aload_n C dX6_isBetterThan_4 rfl 1 rfl (nv_or _ _) ?_
  obtain ⟨g2, h⟩ := of_guard h
  rw [nzB_e g2]
  obtain ⟨g3, h⟩ := of_guard h
  refine g_get (k := 25) (i := (p1 - 1)) (ref := "TradeLine$Quote") (v := .int (μ.1 25 (p1 - 1) 1)) C rfl (lvZ g3 rfl) rfl rfl inGX6 1 (by decide) gw_157 (fun _ h => h) rfl dX6_isBetterThan_5 ?_
  refine g_icmp_ne (tgt := 28) C dX6_isBetterThan_8 (by decide) (fun c8 => ?_) (fun c8 => ?_)
  · replace h := (if_neg c8).symm.trans h
    refine g_iload_n C dX6_isBetterThan_28 rfl 2 rfl ?_
    refine g_if_eq (tgt := 51) C dX6_isBetterThan_29 (by decide) (fun c29 => ?_) (fun c29 => ?_)
    · replace h := (if_pos c29).symm.trans h
      refine g_aload_n C dX6_isBetterThan_51 rfl 0 rfl ?_
      refine g_get (k := 25) (i := i0) (ref := "TradeLine$Quote") (v := .int (μ.1 25 i0 1)) C rfl (lvZ g1 rfl) rfl rfl inGX6 1 (by decide) gw_157 (fun _ h => h) rfl dX6_isBetterThan_52 ?_
      refine g_aload_n C dX6_isBetterThan_55 rfl 1 rfl ?_
      refine g_get (k := 25) (i := (p1 - 1)) (ref := "TradeLine$Quote") (v := .int (μ.1 25 (p1 - 1) 1)) C rfl (lvZ g3 rfl) rfl rfl inGX6 1 (by decide) gw_157 (fun _ h => h) rfl dX6_isBetterThan_56 ?_
      refine g_icmp_ge (tgt := 66) C dX6_isBetterThan_59 (by decide) (fun c59 => ?_) (fun c59 => ?_)
      · replace h := (if_pos c59).symm.trans h
        refine g_iconst (v := (0 : Int32)) C dX6_isBetterThan_66 (by decide) ?_
        exact g_iret C hr rfl hz ⟨rfl, rfl, fun _ => rfl, fun _ => rfl⟩ ⟨Option.some.inj h, rfl⟩ (fun j x h => by simp at h) dX6_isBetterThan_67
      · replace h := (if_neg c59).symm.trans h
        refine g_iconst (v := (1 : Int32)) C dX6_isBetterThan_62 (by decide) ?_
        refine g_goto (tgt := 67) C dX6_isBetterThan_63 (by decide) ?_
        exact g_iret C hr rfl hz ⟨rfl, rfl, fun _ => rfl, fun _ => rfl⟩ ⟨Option.some.inj h, rfl⟩ (fun j x h => by simp at h) dX6_isBetterThan_67
    · replace h := (if_neg c29).symm.trans h
      refine g_aload_n C dX6_isBetterThan_32 rfl 0 rfl ?_
      refine g_get (k := 25) (i := i0) (ref := "TradeLine$Quote") (v := .int (μ.1 25 i0 1)) C rfl (lvZ g1 rfl) rfl rfl inGX6 1 (by decide) gw_157 (fun _ h => h) rfl dX6_isBetterThan_33 ?_
      refine g_aload_n C dX6_isBetterThan_36 rfl 1 rfl ?_
      refine g_get (k := 25) (i := (p1 - 1)) (ref := "TradeLine$Quote") (v := .int (μ.1 25 (p1 - 1) 1)) C rfl (lvZ g3 rfl) rfl rfl inGX6 1 (by decide) gw_157 (fun _ h => h) rfl dX6_isBetterThan_37 ?_
      refine g_icmp_le (tgt := 47) C dX6_isBetterThan_40 (by decide) (fun c40 => ?_) (fun c40 => ?_)
      · replace h := (if_pos c40).symm.trans h
        refine g_iconst (v := (0 : Int32)) C dX6_isBetterThan_47 (by decide) ?_
        refine g_goto (tgt := 67) C dX6_isBetterThan_48 (by decide) ?_
        exact g_iret C hr rfl hz ⟨rfl, rfl, fun _ => rfl, fun _ => rfl⟩ ⟨Option.some.inj h, rfl⟩ (fun j x h => by simp at h) dX6_isBetterThan_67
      · replace h := (if_neg c40).symm.trans h
        refine g_iconst (v := (1 : Int32)) C dX6_isBetterThan_43 (by decide) ?_
        refine g_goto (tgt := 67) C dX6_isBetterThan_44 (by decide) ?_
        exact g_iret C hr rfl hz ⟨rfl, rfl, fun _ => rfl, fun _ => rfl⟩ ⟨Option.some.inj h, rfl⟩ (fun j x h => by simp at h) dX6_isBetterThan_67
  · replace h := (if_pos c8).symm.trans h
    refine g_aload_n C dX6_isBetterThan_11 rfl 0 rfl ?_
    refine g_get (k := 25) (i := i0) (ref := "TradeLine$Quote") (v := .int (μ.1 25 i0 2)) C rfl (lvZ g1 rfl) rfl rfl inGX6 2 (by decide) gw_160 (fun _ h => h) rfl dX6_isBetterThan_12 ?_
    refine g_aload_n C dX6_isBetterThan_15 rfl 1 rfl ?_
    refine g_get (k := 25) (i := (p1 - 1)) (ref := "TradeLine$Quote") (v := .int (μ.1 25 (p1 - 1) 2)) C rfl (lvZ g3 rfl) rfl rfl inGX6 2 (by decide) gw_160 (fun _ h => h) rfl dX6_isBetterThan_16 ?_
    refine g_icmp_le (tgt := 26) C dX6_isBetterThan_19 (by decide) (fun c19 => ?_) (fun c19 => ?_)
    · replace h := (if_pos c19).symm.trans h
      refine g_iconst (v := (0 : Int32)) C dX6_isBetterThan_26 (by decide) ?_
      exact g_iret C hr rfl hz ⟨rfl, rfl, fun _ => rfl, fun _ => rfl⟩ ⟨Option.some.inj h, rfl⟩ (fun j x h => by simp at h) dX6_isBetterThan_27
    · replace h := (if_neg c19).symm.trans h
      refine g_iconst (v := (1 : Int32)) C dX6_isBetterThan_22 (by decide) ?_
      refine g_goto (tgt := 27) C dX6_isBetterThan_23 (by decide) ?_
      exact g_iret C hr rfl hz ⟨rfl, rfl, fun _ => rfl, fun _ => rfl⟩ ⟨Option.some.inj h, rfl⟩ (fun j x h => by simp at h) dX6_isBetterThan_27
theorem c_X6_isBetterThan (l : Launch) (μ : MP) (ν : NC) (a : AS) (Ad : Nat → Nat → Nat) (w : Nat) (i0 : Nat) (p1 : Nat) (x2 : Int32) (r0 : Int32) (h : f_X6_isBetterThan w μ ν i0 p1 x2 = some r0) : ∀ D E sz, Met l yX6_isBetterThan gwX6_isBetterThan ({ frames := 0, cells := 0, slots := 0, locals := 0 } : Room) (cP D E sz (zS μ ν a Ad) [] [.ref (Ad 25 i0), nv (Ad 25) p1, .int x2]) (cQ D E sz (zS μ ν a Ad) [] (pI (fun r u => r = r0 ∧ u = (zS μ ν a Ad, [])))) (0) (0) (Aof (zS μ ν a Ad) [] sz) := by
  intro D E sz
  refine g_of (cc := cX6_isBetterThan) (maxL := 3) (ret := (some .boolean)) (own := "TradeLine$Quote") (by decide) rfl rfl (by cases p1 <;> exact Nat.le_of_ble_eq_true rfl) ?_
  intro p e s m args below meth c C hr hin hz ha hwr
  refine g_lv (lv' := [(0, .ref (Ad 25 i0)), (1, nv (Ad 25) p1), (2, .int x2)]) [0, 1, 2] (by cases p1 <;> rfl) ?_
  exact lb_X6_isBetterThan_0 C hr hz h
noncomputable def f_X7_slotOf  (w : Nat) (μ : MP) (ν : NC) (i0 : Nat) (x1 : Int32) : Option (Int32) := (if x1 < (0 : Int32) then (some (0 : Int32)) else (bif ltB i0 (ν.2 2) then (if x1 < (μ.1 2 i0 4) then (yl (((μ.1 2 i0 3) + x1)) (fun t2 => bif ltB i0 (ν.2 10) then (if (nI (ν.1 10 i0)) ≤ t2 then (some (t2 - (nI (ν.1 10 i0)))) else (some t2)) else none)) else (some (0 : Int32))) else none))
set_option maxHeartbeats 4000000 in
set_option maxRecDepth 100000 in
theorem lb_X7_slotOf_0 {p : Program} {l : Launch} {e : Env} {s : State} {m : MethodId} {args : Array Value} {below : List Frame} {meth : Method} {c : Code} {D : va_G} {E : Nat → ClassId} {sz : Nat} {μ : MP} {ν : NC} {a : AS} {Ad : Nat → Nat → Nat} {i0 : Nat} {w : Nat} {r0 : Int32} (C : cx p s m args meth c D E (Aof (zS μ ν a Ad) [] s.heap.size) cX7_slotOf 3 "TradeLine$Way") (hr : meth.sig.returnType = (some .int)) (hz : s.heap.size = sz) {x1 : Int32}   (h : f_X7_slotOf  w μ ν i0 x1 = some r0) : G p l e ({ frames := 0, cells := 0, slots := 0, locals := 0 } : Room) s m args below meth c D E (Aof (zS μ ν a Ad) [] s.heap.size) 3 (MQ below (cQ D E sz (zS μ ν a Ad) [] (pI (fun r u => r = r0 ∧ u = (zS μ ν a Ad, [])))) args s 0 0 (Aof (zS μ ν a Ad) [] s.heap.size)) (zS μ ν a Ad) [] 0 0 0 [(0, .ref (Ad 2 i0)), (1, .int x1)] [] := by
  unfold f_X7_slotOf at h
  refine g_iload_n C dX7_slotOf_0 rfl 1 rfl ?_
  refine g_if_lt (tgt := 12) C dX7_slotOf_1 (by decide) (fun c1 => ?_) (fun c1 => ?_)
  · replace h := (if_pos c1).symm.trans h
    refine g_iconst (v := (0 : Int32)) C dX7_slotOf_12 (by decide) ?_
    exact g_iret C hr rfl hz ⟨rfl, rfl, fun _ => rfl, fun _ => rfl⟩ ⟨Option.some.inj h, rfl⟩ (fun j x h => by simp at h) dX7_slotOf_13
  · replace h := (if_neg c1).symm.trans h
    refine g_iload_n C dX7_slotOf_4 rfl 1 rfl ?_
    refine g_aload_n C dX7_slotOf_5 rfl 0 rfl ?_
    obtain ⟨g1, h⟩ := of_guard h
    refine g_get (k := 2) (i := i0) (ref := "TradeLine$Way") (v := .int (μ.1 2 i0 4)) C rfl (lvZ g1 rfl) rfl rfl inGX7 4 (by decide) gw_82 (fun _ h => h) rfl dX7_slotOf_6 ?_
    refine g_icmp_lt (tgt := 14) C dX7_slotOf_9 (by decide) (fun c9 => ?_) (fun c9 => ?_)
    · replace h := (if_pos c9).symm.trans h
      refine g_aload_n C dX7_slotOf_14 rfl 0 rfl ?_
      refine g_get (k := 2) (i := i0) (ref := "TradeLine$Way") (v := .int (μ.1 2 i0 3)) C rfl (lvZ g1 rfl) rfl rfl inGX7 3 (by decide) gw_81 (fun _ h => h) rfl dX7_slotOf_15 ?_
      refine g_iload_n C dX7_slotOf_18 rfl 1 rfl ?_
      refine g_iadd C dX7_slotOf_19 ?_
      refine q_topi (fun t2 et2 => ?_)
      replace h := yl_of h et2
      refine g_istore_n (i := 2) (lv' := [(2, .int t2), (0, .ref (Ad 2 i0)), (1, .int x1)]) C dX7_slotOf_20 rfl (by decide) rfl ?_
      refine g_iload_n C dX7_slotOf_21 rfl 0 rfl ?_
      refine g_aload_n C dX7_slotOf_22 rfl 1 rfl ?_
      refine g_get (k := 2) (i := i0) (ref := "TradeLine$Way") (v := .ref (Ad 10 i0)) C rfl (lvZ g1 rfl) rfl rfl inGX7 0 (by decide) gw_78 (fun _ h => h) rfl dX7_slotOf_23 ?_
      obtain ⟨g3, h⟩ := of_guard h
      refine g_alen (k := 10) (i := i0) (v := nI (ν.1 10 i0)) C rfl (lvZ g3 rfl) (by decide) rfl dX7_slotOf_26 ?_
      refine g_icmp_ge (tgt := 34) C dX7_slotOf_27 (by decide) (fun c27 => ?_) (fun c27 => ?_)
      · replace h := (if_pos c27).symm.trans h
        refine g_iload_n C dX7_slotOf_34 rfl 0 rfl ?_
        refine g_aload_n C dX7_slotOf_35 rfl 1 rfl ?_
        refine g_get (k := 2) (i := i0) (ref := "TradeLine$Way") (v := .ref (Ad 10 i0)) C rfl (lvZ g1 rfl) rfl rfl inGX7 0 (by decide) gw_78 (fun _ h => h) rfl dX7_slotOf_36 ?_
        refine g_alen (k := 10) (i := i0) (v := nI (ν.1 10 i0)) C rfl (lvZ g3 rfl) (by decide) rfl dX7_slotOf_39 ?_
        refine g_isub C dX7_slotOf_40 ?_
        exact g_iret C hr rfl hz ⟨rfl, rfl, fun _ => rfl, fun _ => rfl⟩ ⟨Option.some.inj h, rfl⟩ (fun j x h => by simp at h) dX7_slotOf_41
      · replace h := (if_neg c27).symm.trans h
        refine g_iload_n C dX7_slotOf_30 rfl 0 rfl ?_
        refine g_goto (tgt := 41) C dX7_slotOf_31 (by decide) ?_
        exact g_iret C hr rfl hz ⟨rfl, rfl, fun _ => rfl, fun _ => rfl⟩ ⟨Option.some.inj h, rfl⟩ (fun j x h => by simp at h) dX7_slotOf_41
    · replace h := (if_neg c9).symm.trans h
      refine g_iconst (v := (0 : Int32)) C dX7_slotOf_12 (by decide) ?_
      exact g_iret C hr rfl hz ⟨rfl, rfl, fun _ => rfl, fun _ => rfl⟩ ⟨Option.some.inj h, rfl⟩ (fun j x h => by simp at h) dX7_slotOf_13
theorem c_X7_slotOf (l : Launch) (μ : MP) (ν : NC) (a : AS) (Ad : Nat → Nat → Nat) (w : Nat) (i0 : Nat) (x1 : Int32) (r0 : Int32) (h : f_X7_slotOf w μ ν i0 x1 = some r0) : ∀ D E sz, Met l yX7_slotOf gwX7_slotOf ({ frames := 0, cells := 0, slots := 0, locals := 0 } : Room) (cP D E sz (zS μ ν a Ad) [] [.ref (Ad 2 i0), .int x1]) (cQ D E sz (zS μ ν a Ad) [] (pI (fun r u => r = r0 ∧ u = (zS μ ν a Ad, [])))) (0) (0) (Aof (zS μ ν a Ad) [] sz) := by
  intro D E sz
  refine g_of (cc := cX7_slotOf) (maxL := 3) (ret := (some .int)) (own := "TradeLine$Way") (by decide) rfl rfl (Nat.le_of_ble_eq_true rfl) ?_
  intro p e s m args below meth c C hr hin hz ha hwr
  refine g_lv (lv' := [(0, .ref (Ad 2 i0)), (1, .int x1)]) [0, 1] rfl ?_
  exact lb_X7_slotOf_0 C hr hz h
noncomputable def f_X7_numberAt  (w : Nat) (μ : MP) (ν : NC) (i0 : Nat) (x1 : Int32) : Option (Int32) := bif ltB i0 (ν.2 2) then (f_X7_slotOf w μ ν i0 x1).bind (fun v2 => bif ltB i0 (ν.2 10) then bif ixB v2 (ν.1 10 i0) then some (μ.1 10 i0 v2.toNatClampNeg) else none else none) else none
set_option maxHeartbeats 4000000 in
set_option maxRecDepth 100000 in
theorem lb_X7_numberAt_0 {p : Program} {l : Launch} {e : Env} {s : State} {m : MethodId} {args : Array Value} {below : List Frame} {meth : Method} {c : Code} {D : va_G} {E : Nat → ClassId} {sz : Nat} {μ : MP} {ν : NC} {a : AS} {Ad : Nat → Nat → Nat} {i0 : Nat} {w : Nat} {r0 : Int32} (C : cx p s m args meth c D E (Aof (zS μ ν a Ad) [] s.heap.size) cX7_numberAt 2 "TradeLine$Way") (hr : meth.sig.returnType = (some .int)) (hz : s.heap.size = sz) {x1 : Int32}   (h : f_X7_numberAt  w μ ν i0 x1 = some r0) : G p l e ({ frames := 1, cells := 0, slots := 0, locals := 22 } : Room) s m args below meth c D E (Aof (zS μ ν a Ad) [] s.heap.size) 2 (MQ below (cQ D E sz (zS μ ν a Ad) [] (pI (fun r u => r = r0 ∧ u = (zS μ ν a Ad, [])))) args s 0 0 (Aof (zS μ ν a Ad) [] s.heap.size)) (zS μ ν a Ad) [] 0 0 0 [(0, .ref (Ad 2 i0)), (1, .int x1)] [] := by
  unfold f_X7_numberAt at h
  refine g_aload_n C dX7_numberAt_0 rfl 0 rfl ?_
  obtain ⟨g1, h⟩ := of_guard h
  refine g_get (k := 2) (i := i0) (ref := "TradeLine$Way") (v := .ref (Ad 10 i0)) C rfl (lvZ g1 rfl) rfl rfl inGX7 0 (by decide) gw_78 (fun _ h => h) rfl dX7_numberAt_1 ?_
  refine g_aload_n C dX7_numberAt_4 rfl 0 rfl ?_
  refine g_iload_n C dX7_numberAt_5 rfl 1 rfl ?_
  obtain ⟨v2, hv2, h⟩ := bind_of h
  refine g_cVi (n := 1) (exc := []) (exr := []) C [_] _ rfl rfl [] [] rfl rfl rfl rfl (fun _ h => absurd h (by simp)) (fun _ h => absurd h (by simp)) (fun _ h => absurd h (by simp)) (fun sz => c_X7_slotOf l μ ν a Ad w i0 x1 _ hv2 D E sz) rfl gw_422 gw_6 gw_419 gw_421 gs_7 ⟨by decide +kernel, by decide +kernel, by decide +kernel⟩ ⟨rfl, rfl⟩ ⟨Nat.le_of_ble_eq_true rfl, Nat.le_of_ble_eq_true rfl⟩ (rcvT (lvZ g1 rfl) rfl rfl rfl) (Nat.le_of_ble_eq_true rfl) dX7_numberAt_6 ⟨by decide, by decide⟩ (fun r u hp hx => ?_)
  obtain ⟨er, rfl⟩ := hp
  rw [er]
  try dsimp only [List.append_nil]
  obtain ⟨g3, h⟩ := of_guard h
  obtain ⟨g4, h⟩ := of_guard h
  refine z_iald (k := 10) (i := i0) C rfl g3 rfl rfl g4 dX7_numberAt_9 ?_
  exact g_iret C hr rfl hz ⟨rfl, rfl, fun _ => rfl, fun _ => rfl⟩ ⟨Option.some.inj h, rfl⟩ (fun j x h => by simp at h) dX7_numberAt_10
theorem c_X7_numberAt (l : Launch) (μ : MP) (ν : NC) (a : AS) (Ad : Nat → Nat → Nat) (w : Nat) (i0 : Nat) (x1 : Int32) (r0 : Int32) (h : f_X7_numberAt w μ ν i0 x1 = some r0) : ∀ D E sz, Met l yX7_numberAt gwX7_numberAt ({ frames := 1, cells := 0, slots := 0, locals := 22 } : Room) (cP D E sz (zS μ ν a Ad) [] [.ref (Ad 2 i0), .int x1]) (cQ D E sz (zS μ ν a Ad) [] (pI (fun r u => r = r0 ∧ u = (zS μ ν a Ad, [])))) (0) (0) (Aof (zS μ ν a Ad) [] sz) := by
  intro D E sz
  refine g_of (cc := cX7_numberAt) (maxL := 2) (ret := (some .int)) (own := "TradeLine$Way") (by decide) rfl rfl (Nat.le_of_ble_eq_true rfl) ?_
  intro p e s m args below meth c C hr hin hz ha hwr
  refine g_lv (lv' := [(0, .ref (Ad 2 i0)), (1, .int x1)]) [0, 1] rfl ?_
  exact lb_X7_numberAt_0 C hr hz h
noncomputable def f_X7_nextAt  (w : Nat) (μ : MP) (ν : NC) (i0 : Nat) (x1 : Int32) : Option (Int32) := bif ltB i0 (ν.2 2) then (f_X7_slotOf w μ ν i0 x1).bind (fun v2 => bif ltB i0 (ν.2 11) then bif ixB v2 (ν.1 11 i0) then some (μ.1 11 i0 v2.toNatClampNeg) else none else none) else none
set_option maxHeartbeats 4000000 in
set_option maxRecDepth 100000 in
theorem lb_X7_nextAt_0 {p : Program} {l : Launch} {e : Env} {s : State} {m : MethodId} {args : Array Value} {below : List Frame} {meth : Method} {c : Code} {D : va_G} {E : Nat → ClassId} {sz : Nat} {μ : MP} {ν : NC} {a : AS} {Ad : Nat → Nat → Nat} {i0 : Nat} {w : Nat} {r0 : Int32} (C : cx p s m args meth c D E (Aof (zS μ ν a Ad) [] s.heap.size) cX7_nextAt 2 "TradeLine$Way") (hr : meth.sig.returnType = (some .int)) (hz : s.heap.size = sz) {x1 : Int32}   (h : f_X7_nextAt  w μ ν i0 x1 = some r0) : G p l e ({ frames := 1, cells := 0, slots := 0, locals := 22 } : Room) s m args below meth c D E (Aof (zS μ ν a Ad) [] s.heap.size) 2 (MQ below (cQ D E sz (zS μ ν a Ad) [] (pI (fun r u => r = r0 ∧ u = (zS μ ν a Ad, [])))) args s 0 0 (Aof (zS μ ν a Ad) [] s.heap.size)) (zS μ ν a Ad) [] 0 0 0 [(0, .ref (Ad 2 i0)), (1, .int x1)] [] := by
  unfold f_X7_nextAt at h
  refine g_aload_n C dX7_nextAt_0 rfl 0 rfl ?_
  obtain ⟨g1, h⟩ := of_guard h
  refine g_get (k := 2) (i := i0) (ref := "TradeLine$Way") (v := .ref (Ad 11 i0)) C rfl (lvZ g1 rfl) rfl rfl inGX7 1 (by decide) gw_79 (fun _ h => h) rfl dX7_nextAt_1 ?_
  refine g_aload_n C dX7_nextAt_4 rfl 0 rfl ?_
  refine g_iload_n C dX7_nextAt_5 rfl 1 rfl ?_
  obtain ⟨v2, hv2, h⟩ := bind_of h
  refine g_cVi (n := 1) (exc := []) (exr := []) C [_] _ rfl rfl [] [] rfl rfl rfl rfl (fun _ h => absurd h (by simp)) (fun _ h => absurd h (by simp)) (fun _ h => absurd h (by simp)) (fun sz => c_X7_slotOf l μ ν a Ad w i0 x1 _ hv2 D E sz) rfl gw_422 gw_6 gw_419 gw_421 gs_7 ⟨by decide +kernel, by decide +kernel, by decide +kernel⟩ ⟨rfl, rfl⟩ ⟨Nat.le_of_ble_eq_true rfl, Nat.le_of_ble_eq_true rfl⟩ (rcvT (lvZ g1 rfl) rfl rfl rfl) (Nat.le_of_ble_eq_true rfl) dX7_nextAt_6 ⟨by decide, by decide⟩ (fun r u hp hx => ?_)
  obtain ⟨er, rfl⟩ := hp
  rw [er]
  try dsimp only [List.append_nil]
  obtain ⟨g3, h⟩ := of_guard h
  obtain ⟨g4, h⟩ := of_guard h
  refine z_iald (k := 11) (i := i0) C rfl g3 rfl rfl g4 dX7_nextAt_9 ?_
  exact g_iret C hr rfl hz ⟨rfl, rfl, fun _ => rfl, fun _ => rfl⟩ ⟨Option.some.inj h, rfl⟩ (fun j x h => by simp at h) dX7_nextAt_10
theorem c_X7_nextAt (l : Launch) (μ : MP) (ν : NC) (a : AS) (Ad : Nat → Nat → Nat) (w : Nat) (i0 : Nat) (x1 : Int32) (r0 : Int32) (h : f_X7_nextAt w μ ν i0 x1 = some r0) : ∀ D E sz, Met l yX7_nextAt gwX7_nextAt ({ frames := 1, cells := 0, slots := 0, locals := 22 } : Room) (cP D E sz (zS μ ν a Ad) [] [.ref (Ad 2 i0), .int x1]) (cQ D E sz (zS μ ν a Ad) [] (pI (fun r u => r = r0 ∧ u = (zS μ ν a Ad, [])))) (0) (0) (Aof (zS μ ν a Ad) [] sz) := by
  intro D E sz
  refine g_of (cc := cX7_nextAt) (maxL := 2) (ret := (some .int)) (own := "TradeLine$Way") (by decide) rfl rfl (Nat.le_of_ble_eq_true rfl) ?_
  intro p e s m args below meth c C hr hin hz ha hwr
  refine g_lv (lv' := [(0, .ref (Ad 2 i0)), (1, .int x1)]) [0, 1] rfl ?_
  exact lb_X7_nextAt_0 C hr hz h
noncomputable def f_X7_isGarbledAt  (w : Nat) (μ : MP) (ν : NC) (i0 : Nat) (x1 : Int32) : Option (Int32) := bif ltB i0 (ν.2 2) then (f_X7_slotOf w μ ν i0 x1).bind (fun v2 => bif ltB i0 (ν.2 12) then bif ixB v2 (ν.1 12 i0) then bif boB (μ.1 12 i0 v2.toNatClampNeg) then some (μ.1 12 i0 v2.toNatClampNeg) else none else none else none) else none
set_option maxHeartbeats 4000000 in
set_option maxRecDepth 100000 in
theorem lb_X7_isGarbledAt_0 {p : Program} {l : Launch} {e : Env} {s : State} {m : MethodId} {args : Array Value} {below : List Frame} {meth : Method} {c : Code} {D : va_G} {E : Nat → ClassId} {sz : Nat} {μ : MP} {ν : NC} {a : AS} {Ad : Nat → Nat → Nat} {i0 : Nat} {w : Nat} {r0 : Int32} (C : cx p s m args meth c D E (Aof (zS μ ν a Ad) [] s.heap.size) cX7_isGarbledAt 2 "TradeLine$Way") (hr : meth.sig.returnType = (some .boolean)) (hz : s.heap.size = sz) {x1 : Int32}   (h : f_X7_isGarbledAt  w μ ν i0 x1 = some r0) : G p l e ({ frames := 1, cells := 0, slots := 0, locals := 22 } : Room) s m args below meth c D E (Aof (zS μ ν a Ad) [] s.heap.size) 2 (MQ below (cQ D E sz (zS μ ν a Ad) [] (pI (fun r u => r = r0 ∧ u = (zS μ ν a Ad, [])))) args s 0 0 (Aof (zS μ ν a Ad) [] s.heap.size)) (zS μ ν a Ad) [] 0 0 0 [(0, .ref (Ad 2 i0)), (1, .int x1)] [] := by
  unfold f_X7_isGarbledAt at h
  refine g_aload_n C dX7_isGarbledAt_0 rfl 0 rfl ?_
  obtain ⟨g1, h⟩ := of_guard h
  refine g_get (k := 2) (i := i0) (ref := "TradeLine$Way") (v := .ref (Ad 12 i0)) C rfl (lvZ g1 rfl) rfl rfl inGX7 2 (by decide) gw_80 (fun _ h => h) rfl dX7_isGarbledAt_1 ?_
  refine g_aload_n C dX7_isGarbledAt_4 rfl 0 rfl ?_
  refine g_iload_n C dX7_isGarbledAt_5 rfl 1 rfl ?_
  obtain ⟨v2, hv2, h⟩ := bind_of h
  refine g_cVi (n := 1) (exc := []) (exr := []) C [_] _ rfl rfl [] [] rfl rfl rfl rfl (fun _ h => absurd h (by simp)) (fun _ h => absurd h (by simp)) (fun _ h => absurd h (by simp)) (fun sz => c_X7_slotOf l μ ν a Ad w i0 x1 _ hv2 D E sz) rfl gw_422 gw_6 gw_419 gw_421 gs_7 ⟨by decide +kernel, by decide +kernel, by decide +kernel⟩ ⟨rfl, rfl⟩ ⟨Nat.le_of_ble_eq_true rfl, Nat.le_of_ble_eq_true rfl⟩ (rcvT (lvZ g1 rfl) rfl rfl rfl) (Nat.le_of_ble_eq_true rfl) dX7_isGarbledAt_6 ⟨by decide, by decide⟩ (fun r u hp hx => ?_)
  obtain ⟨er, rfl⟩ := hp
  rw [er]
  try dsimp only [List.append_nil]
  obtain ⟨g3, h⟩ := of_guard h
  obtain ⟨g4, h⟩ := of_guard h
  refine z_zald (k := 12) (i := i0) C rfl g3 rfl rfl g4 dX7_isGarbledAt_9 ?_
  obtain ⟨g5, h⟩ := of_guard h
  exact g_iret C hr (boB_n g5) hz ⟨rfl, rfl, fun _ => rfl, fun _ => rfl⟩ ⟨Option.some.inj h, rfl⟩ (fun j x h => by simp at h) dX7_isGarbledAt_10
theorem c_X7_isGarbledAt (l : Launch) (μ : MP) (ν : NC) (a : AS) (Ad : Nat → Nat → Nat) (w : Nat) (i0 : Nat) (x1 : Int32) (r0 : Int32) (h : f_X7_isGarbledAt w μ ν i0 x1 = some r0) : ∀ D E sz, Met l yX7_isGarbledAt gwX7_isGarbledAt ({ frames := 1, cells := 0, slots := 0, locals := 22 } : Room) (cP D E sz (zS μ ν a Ad) [] [.ref (Ad 2 i0), .int x1]) (cQ D E sz (zS μ ν a Ad) [] (pI (fun r u => r = r0 ∧ u = (zS μ ν a Ad, [])))) (0) (0) (Aof (zS μ ν a Ad) [] sz) := by
  intro D E sz
  refine g_of (cc := cX7_isGarbledAt) (maxL := 2) (ret := (some .boolean)) (own := "TradeLine$Way") (by decide) rfl rfl (Nat.le_of_ble_eq_true rfl) ?_
  intro p e s m args below meth c C hr hin hz ha hwr
  refine g_lv (lv' := [(0, .ref (Ad 2 i0)), (1, .int x1)]) [0, 1] rfl ?_
  exact lb_X7_isGarbledAt_0 C hr hz h
noncomputable def f_X7_garbleAt  (w : Nat) (μ : MP) (ν : NC) (i0 : Nat) (x1 : Int32) : Option (MP × Int32) := bif ltB i0 (ν.2 2) then (f_X7_slotOf w μ ν i0 x1).bind (fun v2 => bif ltB i0 (ν.2 12) then bif ixB v2 (ν.1 12 i0) then yl (uM μ 12 i0 v2.toNatClampNeg (vp_nar .boolean (1 : Int32))) (fun m5 => some (m5, (0 : Int32))) else none else none) else none
set_option maxHeartbeats 4000000 in
set_option maxRecDepth 100000 in
theorem lb_X7_garbleAt_0 {p : Program} {l : Launch} {e : Env} {s : State} {m : MethodId} {args : Array Value} {below : List Frame} {meth : Method} {c : Code} {D : va_G} {E : Nat → ClassId} {sz : Nat} {μ0 : MP} {ν : NC} {a : AS} {Ad : Nat → Nat → Nat} {i0 : Nat} {w : Nat} {r0 : MP × Int32} (C : cx p s m args meth c D E (Aof (zS μ0 ν a Ad) [] s.heap.size) cX7_garbleAt 2 "TradeLine$Way") (hr : meth.sig.returnType = none) (hz : s.heap.size = sz) {μ : MP} {x1 : Int32}   (h : f_X7_garbleAt  w μ ν i0 x1 = some r0) : G p l e ({ frames := 1, cells := 0, slots := 0, locals := 22 } : Room) s m args below meth c D E (Aof (zS μ0 ν a Ad) [] s.heap.size) 2 (MQ below (cQ D E sz (zS μ0 ν a Ad) [] (pV (fun u => u = (zS r0.1 ν a Ad, [])))) args s 0 0 (Aof (zS μ0 ν a Ad) [] s.heap.size)) (zS μ ν a Ad) [] 0 0 0 [(0, .ref (Ad 2 i0)), (1, .int x1)] [] := by
  unfold f_X7_garbleAt at h
  refine g_aload_n C dX7_garbleAt_0 rfl 0 rfl ?_
  obtain ⟨g1, h⟩ := of_guard h
  refine g_get (k := 2) (i := i0) (ref := "TradeLine$Way") (v := .ref (Ad 12 i0)) C rfl (lvZ g1 rfl) rfl rfl inGX7 2 (by decide) gw_80 (fun _ h => h) rfl dX7_garbleAt_1 ?_
  refine g_aload_n C dX7_garbleAt_4 rfl 0 rfl ?_
  refine g_iload_n C dX7_garbleAt_5 rfl 1 rfl ?_
  obtain ⟨v2, hv2, h⟩ := bind_of h
  refine g_cVi (n := 1) (exc := []) (exr := []) C [_] _ rfl rfl [] [] rfl rfl rfl rfl (fun _ h => absurd h (by simp)) (fun _ h => absurd h (by simp)) (fun _ h => absurd h (by simp)) (fun sz => c_X7_slotOf l μ ν a Ad w i0 x1 _ hv2 D E sz) rfl gw_422 gw_6 gw_419 gw_421 gs_7 ⟨by decide +kernel, by decide +kernel, by decide +kernel⟩ ⟨rfl, rfl⟩ ⟨Nat.le_of_ble_eq_true rfl, Nat.le_of_ble_eq_true rfl⟩ (rcvT (lvZ g1 rfl) rfl rfl rfl) (Nat.le_of_ble_eq_true rfl) dX7_garbleAt_6 ⟨by decide, by decide⟩ (fun r u hp hx => ?_)
  obtain ⟨er, rfl⟩ := hp
  rw [er]
  try dsimp only [List.append_nil]
  refine g_iconst (v := (1 : Int32)) C dX7_garbleAt_9 (by decide) ?_
  obtain ⟨g3, h⟩ := of_guard h
  obtain ⟨g4, h⟩ := of_guard h
  refine z_zast (k := 12) (i := i0) C rfl g3 rfl rfl g4 dX7_garbleAt_10 (fun m5 em5 => ?_)
  replace h := yl_of h em5
  obtain rfl := Option.some.inj h
  exact g_vret C hr hz ⟨rfl, rfl, fun _ => rfl, fun _ => rfl⟩ rfl (fun j x h => by simp at h) dX7_garbleAt_11
theorem c_X7_garbleAt (l : Launch) (μ : MP) (ν : NC) (a : AS) (Ad : Nat → Nat → Nat) (w : Nat) (i0 : Nat) (x1 : Int32) (r0 : MP × Int32) (h : f_X7_garbleAt w μ ν i0 x1 = some r0) : ∀ D E sz, Met l yX7_garbleAt gwX7_garbleAt ({ frames := 1, cells := 0, slots := 0, locals := 22 } : Room) (cP D E sz (zS μ ν a Ad) [] [.ref (Ad 2 i0), .int x1]) (cQ D E sz (zS μ ν a Ad) [] (pV (fun u => u = (zS r0.1 ν a Ad, [])))) (0) (0) (Aof (zS μ ν a Ad) [] sz) := by
  intro D E sz
  refine g_of (cc := cX7_garbleAt) (maxL := 2) (ret := none) (own := "TradeLine$Way") (by decide) rfl rfl (Nat.le_of_ble_eq_true rfl) ?_
  intro p e s m args below meth c C hr hin hz ha hwr
  refine g_lv (lv' := [(0, .ref (Ad 2 i0)), (1, .int x1)]) [0, 1] rfl ?_
  exact lb_X7_garbleAt_0 C hr hz h
noncomputable def f_X7_dropFirst  (w : Nat) (μ : MP) (ν : NC) (i0 : Nat) : Option (MP × Int32) := bif ltB i0 (ν.2 2) then (if (μ.1 2 i0 4) ≤ (0 : Int32) then (some (μ, (0 : Int32))) else ((f_X7_slotOf w μ ν i0 (1 : Int32)).bind (fun v2 => yl (uM μ 2 i0 3 v2) (fun m3 => yl (uM m3 2 i0 4 ((m3.1 2 i0 4) - (1 : Int32))) (fun m4 => some (m4, (0 : Int32))))))) else none
set_option maxHeartbeats 4000000 in
set_option maxRecDepth 100000 in
theorem lb_X7_dropFirst_0 {p : Program} {l : Launch} {e : Env} {s : State} {m : MethodId} {args : Array Value} {below : List Frame} {meth : Method} {c : Code} {D : va_G} {E : Nat → ClassId} {sz : Nat} {μ0 : MP} {ν : NC} {a : AS} {Ad : Nat → Nat → Nat} {i0 : Nat} {w : Nat} {r0 : MP × Int32} (C : cx p s m args meth c D E (Aof (zS μ0 ν a Ad) [] s.heap.size) cX7_dropFirst 1 "TradeLine$Way") (hr : meth.sig.returnType = none) (hz : s.heap.size = sz) {μ : MP}   (h : f_X7_dropFirst  w μ ν i0  = some r0) : G p l e ({ frames := 1, cells := 0, slots := 0, locals := 22 } : Room) s m args below meth c D E (Aof (zS μ0 ν a Ad) [] s.heap.size) 1 (MQ below (cQ D E sz (zS μ0 ν a Ad) [] (pV (fun u => u = (zS r0.1 ν a Ad, [])))) args s 0 0 (Aof (zS μ0 ν a Ad) [] s.heap.size)) (zS μ ν a Ad) [] 0 0 0 [(0, .ref (Ad 2 i0))] [] := by
  unfold f_X7_dropFirst at h
  refine g_aload_n C dX7_dropFirst_0 rfl 0 rfl ?_
  obtain ⟨g1, h⟩ := of_guard h
  refine g_get (k := 2) (i := i0) (ref := "TradeLine$Way") (v := .int (μ.1 2 i0 4)) C rfl (lvZ g1 rfl) rfl rfl inGX7 4 (by decide) gw_82 (fun _ h => h) rfl dX7_dropFirst_1 ?_
  refine g_if_le (tgt := 26) C dX7_dropFirst_4 (by decide) (fun c4 => ?_) (fun c4 => ?_)
  · replace h := (if_pos c4).symm.trans h
    obtain rfl := Option.some.inj h
    exact g_vret C hr hz ⟨rfl, rfl, fun _ => rfl, fun _ => rfl⟩ rfl (fun j x h => by simp at h) dX7_dropFirst_26
  · replace h := (if_neg c4).symm.trans h
    refine g_aload_n C dX7_dropFirst_7 rfl 0 rfl ?_
    refine g_aload_n C dX7_dropFirst_8 rfl 0 rfl ?_
    refine g_iconst (v := (1 : Int32)) C dX7_dropFirst_9 (by decide) ?_
    obtain ⟨v2, hv2, h⟩ := bind_of h
    refine g_cVi (n := 1) (exc := []) (exr := []) C [_] _ rfl rfl [] [] rfl rfl rfl rfl (fun _ h => absurd h (by simp)) (fun _ h => absurd h (by simp)) (fun _ h => absurd h (by simp)) (fun sz => c_X7_slotOf l μ ν a Ad w i0 (1 : Int32) _ hv2 D E sz) rfl gw_422 gw_6 gw_419 gw_421 gs_7 ⟨by decide +kernel, by decide +kernel, by decide +kernel⟩ ⟨rfl, rfl⟩ ⟨Nat.le_of_ble_eq_true rfl, Nat.le_of_ble_eq_true rfl⟩ (rcvT (lvZ g1 rfl) rfl rfl rfl) (Nat.le_of_ble_eq_true rfl) dX7_dropFirst_10 ⟨by decide, by decide⟩ (fun r u hp hx => ?_)
    obtain ⟨er, rfl⟩ := hp
    rw [er]
    try dsimp only [List.append_nil]
    refine z_put (k := 2) (i := i0) (ref := "TradeLine$Way") C rfl g1 rfl rfl rfl inGX7 tyX7 tyX7_ok nmX7 3 (by decide) gw_81 (fun _ h => h) rfl (tyX7_ok 3 (by decide)) rfl rfl (by simp [fvs]) (by simp [fvs, up1]) dX7_dropFirst_13 (fun m3 em3 => ?_)
    replace h := yl_of h em3
    refine g_aload_n C dX7_dropFirst_16 rfl 0 rfl ?_
    refine g_dup C dX7_dropFirst_17 rfl ?_
    refine g_get (k := 2) (i := i0) (ref := "TradeLine$Way") (v := .int (m3.1 2 i0 4)) C rfl (lvZ g1 rfl) rfl rfl inGX7 4 (by decide) gw_82 (fun _ h => h) rfl dX7_dropFirst_18 ?_
    refine g_iconst (v := (1 : Int32)) C dX7_dropFirst_21 (by decide) ?_
    refine g_isub C dX7_dropFirst_22 ?_
    refine z_put (k := 2) (i := i0) (ref := "TradeLine$Way") C rfl g1 rfl rfl rfl inGX7 tyX7 tyX7_ok nmX7 4 (by decide) gw_82 (fun _ h => h) rfl (tyX7_ok 4 (by decide)) rfl rfl (by simp [fvs]) (by simp [fvs, up1]) dX7_dropFirst_23 (fun m4 em4 => ?_)
    replace h := yl_of h em4
    obtain rfl := Option.some.inj h
    exact g_vret C hr hz ⟨rfl, rfl, fun _ => rfl, fun _ => rfl⟩ rfl (fun j x h => by simp at h) dX7_dropFirst_26
theorem c_X7_dropFirst (l : Launch) (μ : MP) (ν : NC) (a : AS) (Ad : Nat → Nat → Nat) (w : Nat) (i0 : Nat) (r0 : MP × Int32) (h : f_X7_dropFirst w μ ν i0  = some r0) : ∀ D E sz, Met l yX7_dropFirst gwX7_dropFirst ({ frames := 1, cells := 0, slots := 0, locals := 22 } : Room) (cP D E sz (zS μ ν a Ad) [] [.ref (Ad 2 i0)]) (cQ D E sz (zS μ ν a Ad) [] (pV (fun u => u = (zS r0.1 ν a Ad, [])))) (0) (0) (Aof (zS μ ν a Ad) [] sz) := by
  intro D E sz
  refine g_of (cc := cX7_dropFirst) (maxL := 1) (ret := none) (own := "TradeLine$Way") (by decide) rfl rfl (Nat.le_of_ble_eq_true rfl) ?_
  intro p e s m args below meth c C hr hin hz ha hwr
  refine g_lv (lv' := [(0, .ref (Ad 2 i0))]) [0] rfl ?_
  exact lb_X7_dropFirst_0 C hr hz h
noncomputable def f_X7_clear  (w : Nat) (μ : MP) (ν : NC) (i0 : Nat) : Option (MP × Int32) := bif ltB i0 (ν.2 2) then yl (uM μ 2 i0 3 (0 : Int32)) (fun m2 => yl (uM m2 2 i0 4 (0 : Int32)) (fun m3 => some (m3, (0 : Int32)))) else none
set_option maxHeartbeats 4000000 in
set_option maxRecDepth 100000 in
theorem lb_X7_clear_0 {p : Program} {l : Launch} {e : Env} {s : State} {m : MethodId} {args : Array Value} {below : List Frame} {meth : Method} {c : Code} {D : va_G} {E : Nat → ClassId} {sz : Nat} {μ0 : MP} {ν : NC} {a : AS} {Ad : Nat → Nat → Nat} {i0 : Nat} {w : Nat} {r0 : MP × Int32} (C : cx p s m args meth c D E (Aof (zS μ0 ν a Ad) [] s.heap.size) cX7_clear 1 "TradeLine$Way") (hr : meth.sig.returnType = none) (hz : s.heap.size = sz) {μ : MP}   (h : f_X7_clear  w μ ν i0  = some r0) : G p l e ({ frames := 0, cells := 0, slots := 0, locals := 0 } : Room) s m args below meth c D E (Aof (zS μ0 ν a Ad) [] s.heap.size) 1 (MQ below (cQ D E sz (zS μ0 ν a Ad) [] (pV (fun u => u = (zS r0.1 ν a Ad, [])))) args s 0 0 (Aof (zS μ0 ν a Ad) [] s.heap.size)) (zS μ ν a Ad) [] 0 0 0 [(0, .ref (Ad 2 i0))] [] := by
  unfold f_X7_clear at h
  refine g_aload_n C dX7_clear_0 rfl 0 rfl ?_
  refine g_iconst (v := (0 : Int32)) C dX7_clear_1 (by decide) ?_
  obtain ⟨g1, h⟩ := of_guard h
  refine z_put (k := 2) (i := i0) (ref := "TradeLine$Way") C rfl g1 rfl rfl rfl inGX7 tyX7 tyX7_ok nmX7 3 (by decide) gw_81 (fun _ h => h) rfl (tyX7_ok 3 (by decide)) rfl rfl (by simp [fvs]) (by simp [fvs, up1]) dX7_clear_2 (fun m2 em2 => ?_)
  replace h := yl_of h em2
  refine g_aload_n C dX7_clear_5 rfl 0 rfl ?_
  refine g_iconst (v := (0 : Int32)) C dX7_clear_6 (by decide) ?_
  refine z_put (k := 2) (i := i0) (ref := "TradeLine$Way") C rfl g1 rfl rfl rfl inGX7 tyX7 tyX7_ok nmX7 4 (by decide) gw_82 (fun _ h => h) rfl (tyX7_ok 4 (by decide)) rfl rfl (by simp [fvs]) (by simp [fvs, up1]) dX7_clear_7 (fun m3 em3 => ?_)
  replace h := yl_of h em3
  obtain rfl := Option.some.inj h
  exact g_vret C hr hz ⟨rfl, rfl, fun _ => rfl, fun _ => rfl⟩ rfl (fun j x h => by simp at h) dX7_clear_10
theorem c_X7_clear (l : Launch) (μ : MP) (ν : NC) (a : AS) (Ad : Nat → Nat → Nat) (w : Nat) (i0 : Nat) (r0 : MP × Int32) (h : f_X7_clear w μ ν i0  = some r0) : ∀ D E sz, Met l yX7_clear gwX7_clear ({ frames := 0, cells := 0, slots := 0, locals := 0 } : Room) (cP D E sz (zS μ ν a Ad) [] [.ref (Ad 2 i0)]) (cQ D E sz (zS μ ν a Ad) [] (pV (fun u => u = (zS r0.1 ν a Ad, [])))) (0) (0) (Aof (zS μ ν a Ad) [] sz) := by
  intro D E sz
  refine g_of (cc := cX7_clear) (maxL := 1) (ret := none) (own := "TradeLine$Way") (by decide) rfl rfl (Nat.le_of_ble_eq_true rfl) ?_
  intro p e s m args below meth c C hr hin hz ha hwr
  refine g_lv (lv' := [(0, .ref (Ad 2 i0))]) [0] rfl ?_
  exact lb_X7_clear_0 C hr hz h
noncomputable def f_X0_take  (w : Nat) (μ : MP) (ν : NC) (i0 : Nat) (x1 : Int32) : Option (MP × Int32) := (if x1 < (0 : Int32) then (some (μ, (0 : Int32))) else (bif ltB i0 (ν.2 3) then bif ltB i0 (ν.2 13) then (if (nI (ν.1 13 i0)) ≤ x1 then (some (μ, (0 : Int32))) else (bif ixB x1 (ν.1 13 i0) then (if (μ.1 13 i0 x1.toNatClampNeg) = (0 : Int32) then (some (μ, (0 : Int32))) else (yl ((μ.1 13 i0 x1.toNatClampNeg)) (fun t4 => yl (uM μ 13 i0 x1.toNatClampNeg (0 : Int32)) (fun m5 => yl (uM m5 3 i0 1 ((m5.1 3 i0 1) - (1 : Int32))) (fun m6 => some (m6, t4)))))) else none)) else none else none))
set_option maxHeartbeats 4000000 in
set_option maxRecDepth 100000 in
theorem lb_X0_take_0 {p : Program} {l : Launch} {e : Env} {s : State} {m : MethodId} {args : Array Value} {below : List Frame} {meth : Method} {c : Code} {D : va_G} {E : Nat → ClassId} {sz : Nat} {μ0 : MP} {ν : NC} {a : AS} {Ad : Nat → Nat → Nat} {i0 : Nat} {w : Nat} {r0 : MP × Int32} (C : cx p s m args meth c D E (Aof (zS μ0 ν a Ad) [] s.heap.size) cX0_take 3 "TradeLine$Back") (hr : meth.sig.returnType = (some .int)) (hz : s.heap.size = sz) {μ : MP} {x1 : Int32}   (h : f_X0_take  w μ ν i0 x1 = some r0) : G p l e ({ frames := 0, cells := 0, slots := 0, locals := 0 } : Room) s m args below meth c D E (Aof (zS μ0 ν a Ad) [] s.heap.size) 3 (MQ below (cQ D E sz (zS μ0 ν a Ad) [] (pI (fun r u => r = r0.2 ∧ u = (zS r0.1 ν a Ad, [])))) args s 0 0 (Aof (zS μ0 ν a Ad) [] s.heap.size)) (zS μ ν a Ad) [] 0 0 0 [(0, .ref (Ad 3 i0)), (1, .int x1)] [] := by
  unfold f_X0_take at h
  refine g_iload_n C dX0_take_0 rfl 1 rfl ?_
  refine g_if_lt (tgt := 22) C dX0_take_1 (by decide) (fun c1 => ?_) (fun c1 => ?_)
  · replace h := (if_pos c1).symm.trans h
    refine g_iconst (v := (0 : Int32)) C dX0_take_22 (by decide) ?_
    obtain rfl := Option.some.inj h
    exact g_iret C hr rfl hz ⟨rfl, rfl, fun _ => rfl, fun _ => rfl⟩ ⟨rfl, rfl⟩ (fun j x h => by simp at h) dX0_take_23
  · replace h := (if_neg c1).symm.trans h
    refine g_iload_n C dX0_take_4 rfl 1 rfl ?_
    refine g_aload_n C dX0_take_5 rfl 0 rfl ?_
    obtain ⟨g1, h⟩ := of_guard h
    refine g_get (k := 3) (i := i0) (ref := "TradeLine$Back") (v := .ref (Ad 13 i0)) C rfl (lvZ g1 rfl) rfl rfl inGX0 0 (by decide) gw_103 (fun _ h => h) rfl dX0_take_6 ?_
    obtain ⟨g2, h⟩ := of_guard h
    refine g_alen (k := 13) (i := i0) (v := nI (ν.1 13 i0)) C rfl (lvZ g2 rfl) (by decide) rfl dX0_take_9 ?_
    refine g_icmp_ge (tgt := 22) C dX0_take_10 (by decide) (fun c10 => ?_) (fun c10 => ?_)
    · replace h := (if_pos c10).symm.trans h
      refine g_iconst (v := (0 : Int32)) C dX0_take_22 (by decide) ?_
      obtain rfl := Option.some.inj h
      exact g_iret C hr rfl hz ⟨rfl, rfl, fun _ => rfl, fun _ => rfl⟩ ⟨rfl, rfl⟩ (fun j x h => by simp at h) dX0_take_23
    · replace h := (if_neg c10).symm.trans h
      refine g_aload_n C dX0_take_13 rfl 0 rfl ?_
      refine g_get (k := 3) (i := i0) (ref := "TradeLine$Back") (v := .ref (Ad 13 i0)) C rfl (lvZ g1 rfl) rfl rfl inGX0 0 (by decide) gw_103 (fun _ h => h) rfl dX0_take_14 ?_
      refine g_iload_n C dX0_take_17 rfl 1 rfl ?_
      obtain ⟨g3, h⟩ := of_guard h
      refine z_iald (k := 13) (i := i0) C rfl g2 rfl rfl g3 dX0_take_18 ?_
      refine g_if_ne (tgt := 24) C dX0_take_19 (by decide) (fun c19 => ?_) (fun c19 => ?_)
      · replace h := (if_neg c19).symm.trans h
        refine g_aload_n C dX0_take_24 rfl 0 rfl ?_
        refine g_get (k := 3) (i := i0) (ref := "TradeLine$Back") (v := .ref (Ad 13 i0)) C rfl (lvZ g1 rfl) rfl rfl inGX0 0 (by decide) gw_103 (fun _ h => h) rfl dX0_take_25 ?_
        refine g_iload_n C dX0_take_28 rfl 1 rfl ?_
        refine z_iald (k := 13) (i := i0) C rfl g2 rfl rfl g3 dX0_take_29 ?_
        refine q_topi (fun t4 et4 => ?_)
        replace h := yl_of h et4
        refine g_istore_n (i := 2) (lv' := [(2, .int t4), (0, .ref (Ad 3 i0)), (1, .int x1)]) C dX0_take_30 rfl (by decide) rfl ?_
        refine g_aload_n C dX0_take_31 rfl 1 rfl ?_
        refine g_get (k := 3) (i := i0) (ref := "TradeLine$Back") (v := .ref (Ad 13 i0)) C rfl (lvZ g1 rfl) rfl rfl inGX0 0 (by decide) gw_103 (fun _ h => h) rfl dX0_take_32 ?_
        refine g_iload_n C dX0_take_35 rfl 2 rfl ?_
        refine g_iconst (v := (0 : Int32)) C dX0_take_36 (by decide) ?_
        refine z_iast (k := 13) (i := i0) C rfl g2 rfl rfl g3 dX0_take_37 (fun m5 em5 => ?_)
        replace h := yl_of h em5
        refine g_aload_n C dX0_take_38 rfl 1 rfl ?_
        refine g_dup C dX0_take_39 rfl ?_
        refine g_get (k := 3) (i := i0) (ref := "TradeLine$Back") (v := .int (m5.1 3 i0 1)) C rfl (lvZ g1 rfl) rfl rfl inGX0 1 (by decide) gw_104 (fun _ h => h) rfl dX0_take_40 ?_
        refine g_iconst (v := (1 : Int32)) C dX0_take_43 (by decide) ?_
        refine g_isub C dX0_take_44 ?_
        refine z_put (k := 3) (i := i0) (ref := "TradeLine$Back") C rfl g1 rfl rfl rfl inGX0 tyX0 tyX0_ok nmX0 1 (by decide) gw_104 (fun _ h => h) rfl (tyX0_ok 1 (by decide)) rfl rfl (by simp [fvs]) (by simp [fvs, up1]) dX0_take_45 (fun m6 em6 => ?_)
        replace h := yl_of h em6
        refine g_iload_n C dX0_take_48 rfl 0 rfl ?_
        obtain rfl := Option.some.inj h
        exact g_iret C hr rfl hz ⟨rfl, rfl, fun _ => rfl, fun _ => rfl⟩ ⟨rfl, rfl⟩ (fun j x h => by simp at h) dX0_take_49
      · replace h := (if_pos c19).symm.trans h
        refine g_iconst (v := (0 : Int32)) C dX0_take_22 (by decide) ?_
        obtain rfl := Option.some.inj h
        exact g_iret C hr rfl hz ⟨rfl, rfl, fun _ => rfl, fun _ => rfl⟩ ⟨rfl, rfl⟩ (fun j x h => by simp at h) dX0_take_23
theorem c_X0_take (l : Launch) (μ : MP) (ν : NC) (a : AS) (Ad : Nat → Nat → Nat) (w : Nat) (i0 : Nat) (x1 : Int32) (r0 : MP × Int32) (h : f_X0_take w μ ν i0 x1 = some r0) : ∀ D E sz, Met l yX0_take gwX0_take ({ frames := 0, cells := 0, slots := 0, locals := 0 } : Room) (cP D E sz (zS μ ν a Ad) [] [.ref (Ad 3 i0), .int x1]) (cQ D E sz (zS μ ν a Ad) [] (pI (fun r u => r = r0.2 ∧ u = (zS r0.1 ν a Ad, [])))) (0) (0) (Aof (zS μ ν a Ad) [] sz) := by
  intro D E sz
  refine g_of (cc := cX0_take) (maxL := 3) (ret := (some .int)) (own := "TradeLine$Back") (by decide) rfl rfl (Nat.le_of_ble_eq_true rfl) ?_
  intro p e s m args below meth c C hr hin hz ha hwr
  refine g_lv (lv' := [(0, .ref (Ad 3 i0)), (1, .int x1)]) [0, 1] rfl ?_
  exact lb_X0_take_0 C hr hz h
noncomputable def b_X0_dropBetween_2 (k2 : MP → Int32 → Int32 → Option (MP × Int32)) (w : Nat) (μ : MP) (ν : NC) (i0 : Nat) (x2 : Int32) (x3 : Int32) : Option (MP × Int32) := (if x2 ≤ x3 then (some (μ, (0 : Int32))) else (bif ltB i0 (ν.2 3) then (if (μ.1 3 i0 1) ≤ (0 : Int32) then (some (μ, (0 : Int32))) else ((f_X0_take w μ ν i0 x3).bind (fun v2 => yl (x3 + (1 : Int32)) (fun t3 => k2 v2.1 x2 t3)))) else none))
set_option maxHeartbeats 4000000 in
set_option maxRecDepth 100000 in
theorem lb_X0_dropBetween_2 {p : Program} {l : Launch} {e : Env} {s : State} {m : MethodId} {args : Array Value} {below : List Frame} {meth : Method} {c : Code} {D : va_G} {E : Nat → ClassId} {sz : Nat} {μ0 : MP} {ν : NC} {a : AS} {Ad : Nat → Nat → Nat} {i0 : Nat} {w : Nat} {r0 : MP × Int32} (C : cx p s m args meth c D E (Aof (zS μ0 ν a Ad) [] s.heap.size) cX0_dropBetween 4 "TradeLine$Back") (hr : meth.sig.returnType = none) (hz : s.heap.size = sz) {μ : MP} {x2 : Int32} {x3 : Int32} {k2 : MP → Int32 → Int32 → Option (MP × Int32)} (hk2 : ∀ (a1 : MP) (z2 : Int32) (z3 : Int32), k2 a1 z2 z3 = some r0 → G p l e ({ frames := 1, cells := 0, slots := 0, locals := 22 } : Room) s m args below meth c D E (Aof (zS μ0 ν a Ad) [] s.heap.size) 4 (MQ below (cQ D E sz (zS μ0 ν a Ad) [] (pV (fun u => u = (zS r0.1 ν a Ad, [])))) args s 0 0 (Aof (zS μ0 ν a Ad) [] s.heap.size)) (zS a1 ν a Ad) [] 0 0 2 [(0, .ref (Ad 3 i0)), (2, .int z2), (3, .int z3)] []) (h : b_X0_dropBetween_2 k2 w μ ν i0 x2 x3 = some r0) : G p l e ({ frames := 1, cells := 0, slots := 0, locals := 22 } : Room) s m args below meth c D E (Aof (zS μ0 ν a Ad) [] s.heap.size) 4 (MQ below (cQ D E sz (zS μ0 ν a Ad) [] (pV (fun u => u = (zS r0.1 ν a Ad, [])))) args s 0 0 (Aof (zS μ0 ν a Ad) [] s.heap.size)) (zS μ ν a Ad) [] 0 0 2 [(0, .ref (Ad 3 i0)), (2, .int x2), (3, .int x3)] [] := by
  unfold b_X0_dropBetween_2 at h
  refine g_iload_n C dX0_dropBetween_2 rfl 2 rfl ?_
  refine g_iload_n C dX0_dropBetween_3 rfl 1 rfl ?_
  refine g_icmp_ge (tgt := 26) C dX0_dropBetween_4 (by decide) (fun c4 => ?_) (fun c4 => ?_)
  · replace h := (if_pos c4).symm.trans h
    obtain rfl := Option.some.inj h
    exact g_vret C hr hz ⟨rfl, rfl, fun _ => rfl, fun _ => rfl⟩ rfl (fun j x h => by simp at h) dX0_dropBetween_26
  · replace h := (if_neg c4).symm.trans h
    refine g_aload_n C dX0_dropBetween_7 rfl 0 rfl ?_
    obtain ⟨g1, h⟩ := of_guard h
    refine g_get (k := 3) (i := i0) (ref := "TradeLine$Back") (v := .int (μ.1 3 i0 1)) C rfl (lvZ g1 rfl) rfl rfl inGX0 1 (by decide) gw_104 (fun _ h => h) rfl dX0_dropBetween_8 ?_
    refine g_if_le (tgt := 26) C dX0_dropBetween_11 (by decide) (fun c11 => ?_) (fun c11 => ?_)
    · replace h := (if_pos c11).symm.trans h
      obtain rfl := Option.some.inj h
      exact g_vret C hr hz ⟨rfl, rfl, fun _ => rfl, fun _ => rfl⟩ rfl (fun j x h => by simp at h) dX0_dropBetween_26
    · replace h := (if_neg c11).symm.trans h
      refine g_aload_n C dX0_dropBetween_14 rfl 0 rfl ?_
      refine g_iload_n C dX0_dropBetween_15 rfl 2 rfl ?_
      obtain ⟨v2, hv2, h⟩ := bind_of h
      refine g_cVi (n := 1) (exc := []) (exr := []) C [_] _ rfl rfl [] [] rfl rfl rfl rfl (fun _ h => absurd h (by simp)) (fun _ h => absurd h (by simp)) (fun _ h => absurd h (by simp)) (fun sz => c_X0_take l μ ν a Ad w i0 x3 _ hv2 D E sz) rfl gw_991 gw_7 gw_988 gw_989 gw_990 ⟨by decide +kernel, by decide +kernel, by decide +kernel⟩ ⟨rfl, rfl⟩ ⟨Nat.le_of_ble_eq_true rfl, Nat.le_of_ble_eq_true rfl⟩ (rcvT (lvZ g1 rfl) rfl rfl rfl) (Nat.le_of_ble_eq_true rfl) dX0_dropBetween_16 ⟨by decide, by decide⟩ (fun r u hp hx => ?_)
      obtain ⟨er, rfl⟩ := hp
      rw [er]
      try dsimp only [List.append_nil]
      refine g_pop C dX0_dropBetween_19 rfl ?_
      obtain ⟨t3, et3⟩ : ∃ y : Int32, x3 + (1 : Int32) = y := ⟨_, rfl⟩
      replace h := yl_of h et3
      refine g_iinc (v := t3) (lv' := [(3, .int t3), (0, .ref (Ad 3 i0)), (2, .int x2)]) C dX0_dropBetween_20 2 rfl (by rw [← et3]; rfl) (by decide) rfl ?_
      refine g_goto (tgt := 2) C dX0_dropBetween_23 (by decide) ?_
      refine g_lv [1, 2, 0] rfl ?_
      exact hk2 _ _ _ h
noncomputable def l_X0_dropBetween_2  (w : Nat) (ν : NC) (i0 : Nat) : Nat → MP → Int32 → Int32 → Option (MP × Int32)
  | 0 => fun _ _ _ => none
  | n + 1 => fun μ x2 x3 => b_X0_dropBetween_2  (l_X0_dropBetween_2  w ν i0 n) w μ ν i0 x2 x3
theorem ll_X0_dropBetween_2 {p : Program} {l : Launch} {e : Env} {s : State} {m : MethodId} {args : Array Value} {below : List Frame} {meth : Method} {c : Code} {D : va_G} {E : Nat → ClassId} {sz : Nat} {μ0 : MP} {ν : NC} {a : AS} {Ad : Nat → Nat → Nat} {i0 : Nat} {w : Nat} {r0 : MP × Int32} (C : cx p s m args meth c D E (Aof (zS μ0 ν a Ad) [] s.heap.size) cX0_dropBetween 4 "TradeLine$Back") (hr : meth.sig.returnType = none) (hz : s.heap.size = sz)   : ∀ (n : Nat) (μ : MP) (x2 : Int32) (x3 : Int32), l_X0_dropBetween_2  w ν i0 n μ x2 x3 = some r0 → G p l e ({ frames := 1, cells := 0, slots := 0, locals := 22 } : Room) s m args below meth c D E (Aof (zS μ0 ν a Ad) [] s.heap.size) 4 (MQ below (cQ D E sz (zS μ0 ν a Ad) [] (pV (fun u => u = (zS r0.1 ν a Ad, [])))) args s 0 0 (Aof (zS μ0 ν a Ad) [] s.heap.size)) (zS μ ν a Ad) [] 0 0 2 [(0, .ref (Ad 3 i0)), (2, .int x2), (3, .int x3)] [] := by
  intro n
  induction n with
  | zero => exact fun μ x2 x3 h => absurd (show (none : Option (MP × Int32)) = some r0 from h) (by simp)
  | succ n ih => exact fun μ x2 x3 h => lb_X0_dropBetween_2 (w := w) C hr hz  ih h
noncomputable def f_X0_dropBetween  (w : Nat) (μ : MP) (ν : NC) (i0 : Nat) (x1 : Int32) (x2 : Int32) : Option (MP × Int32) := l_X0_dropBetween_2  w ν i0 w μ x2 x1
set_option maxHeartbeats 4000000 in
set_option maxRecDepth 100000 in
theorem lb_X0_dropBetween_0 {p : Program} {l : Launch} {e : Env} {s : State} {m : MethodId} {args : Array Value} {below : List Frame} {meth : Method} {c : Code} {D : va_G} {E : Nat → ClassId} {sz : Nat} {μ0 : MP} {ν : NC} {a : AS} {Ad : Nat → Nat → Nat} {i0 : Nat} {w : Nat} {r0 : MP × Int32} (C : cx p s m args meth c D E (Aof (zS μ0 ν a Ad) [] s.heap.size) cX0_dropBetween 4 "TradeLine$Back") (hr : meth.sig.returnType = none) (hz : s.heap.size = sz) {μ : MP} {x1 : Int32} {x2 : Int32}   (h : f_X0_dropBetween  w μ ν i0 x1 x2 = some r0) : G p l e ({ frames := 1, cells := 0, slots := 0, locals := 22 } : Room) s m args below meth c D E (Aof (zS μ0 ν a Ad) [] s.heap.size) 4 (MQ below (cQ D E sz (zS μ0 ν a Ad) [] (pV (fun u => u = (zS r0.1 ν a Ad, [])))) args s 0 0 (Aof (zS μ0 ν a Ad) [] s.heap.size)) (zS μ ν a Ad) [] 0 0 0 [(0, .ref (Ad 3 i0)), (1, .int x1), (2, .int x2)] [] := by
  unfold f_X0_dropBetween at h
  refine g_iload_n C dX0_dropBetween_0 rfl 1 rfl ?_
  refine g_istore_n (i := 3) (lv' := [(3, .int x1), (0, .ref (Ad 3 i0)), (1, .int x1), (2, .int x2)]) C dX0_dropBetween_1 rfl (by decide) rfl ?_
  refine g_lv [1, 3, 0] rfl ?_
  exact ll_X0_dropBetween_2 C hr hz  w _ _ _ h
theorem c_X0_dropBetween (l : Launch) (μ : MP) (ν : NC) (a : AS) (Ad : Nat → Nat → Nat) (w : Nat) (i0 : Nat) (x1 : Int32) (x2 : Int32) (r0 : MP × Int32) (h : f_X0_dropBetween w μ ν i0 x1 x2 = some r0) : ∀ D E sz, Met l yX0_dropBetween gwX0_dropBetween ({ frames := 1, cells := 0, slots := 0, locals := 22 } : Room) (cP D E sz (zS μ ν a Ad) [] [.ref (Ad 3 i0), .int x1, .int x2]) (cQ D E sz (zS μ ν a Ad) [] (pV (fun u => u = (zS r0.1 ν a Ad, [])))) (0) (0) (Aof (zS μ ν a Ad) [] sz) := by
  intro D E sz
  refine g_of (cc := cX0_dropBetween) (maxL := 4) (ret := none) (own := "TradeLine$Back") (by decide) rfl rfl (Nat.le_of_ble_eq_true rfl) ?_
  intro p e s m args below meth c C hr hin hz ha hwr
  refine g_lv (lv' := [(0, .ref (Ad 3 i0)), (1, .int x1), (2, .int x2)]) [0, 1, 2] rfl ?_
  exact lb_X0_dropBetween_0 C hr hz h
