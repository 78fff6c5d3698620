noncomputable def f_X4_isInBook  (w : Nat) (μ : MP) (ν : NC) (i0 : Nat) (x1 : Int32) : Option (Int32) := (if x1 = (0 : Int32) then (some (1 : Int32)) else (bif ltB i0 (ν.2 20) then (if (μ.1 20 i0 6) = (0 : Int32) then (some (0 : Int32)) else (some (1 : Int32))) else none))
set_option maxHeartbeats 4000000 in
set_option maxRecDepth 100000 in
theorem lb_X4_isInBook_0 {p : Program} {l : Launch} {e : Env} {s : State} {m : MethodId} {args : Array Value} {below : List Frame} {meth : Method} {c : Code} {D : va_G} {E : Nat → ClassId} {sz : Nat} {μ : MP} {ν : NC} {a : AS} {Ad : Nat → Nat → Nat} {i0 : Nat} {w : Nat} {r0 : Int32} (C : cx p s m args meth c D E (Aof (zS μ ν a Ad) [] s.heap.size) cX4_isInBook 2 "TradeLine$Order") (hr : meth.sig.returnType = (some .boolean)) (hz : s.heap.size = sz) {x1 : Int32}   (h : f_X4_isInBook  w μ ν i0 x1 = some r0) : G p l e ({ frames := 0, cells := 0, slots := 0, locals := 0 } : Room) s m args below meth c D E (Aof (zS μ ν a Ad) [] s.heap.size) 2 (MQ below (cQ D E sz (zS μ ν a Ad) [] (pI (fun r u => r = r0 ∧ u = (zS μ ν a Ad, [])))) args s 0 0 (Aof (zS μ ν a Ad) [] s.heap.size)) (zS μ ν a Ad) [] 0 0 0 [(0, .ref (Ad 20 i0)), (1, .int x1)] [] := by
  unfold f_X4_isInBook at h
  refine g_iload_n C dX4_isInBook_0 rfl 1 rfl ?_
  refine g_if_eq (tgt := 11) C dX4_isInBook_1 (by decide) (fun c1 => ?_) (fun c1 => ?_)
  · replace h := (if_pos c1).symm.trans h
    refine g_iconst (v := (1 : Int32)) C dX4_isInBook_11 (by decide) ?_
    refine g_goto (tgt := 16) C dX4_isInBook_12 (by decide) ?_
    exact g_iret C hr rfl hz ⟨rfl, rfl, fun _ => rfl, fun _ => rfl⟩ ⟨Option.some.inj h, rfl⟩ (fun j x h => by simp at h) dX4_isInBook_16
  · replace h := (if_neg c1).symm.trans h
    refine g_aload_n C dX4_isInBook_4 rfl 0 rfl ?_
    obtain ⟨g1, h⟩ := of_guard h
    refine g_get (k := 20) (i := i0) (ref := "TradeLine$Order") (v := .int (μ.1 20 i0 6)) C rfl (lvZ g1 rfl) rfl rfl inGX4 6 (by decide) gw_1120 (fun _ h => h) rfl dX4_isInBook_5 ?_
    refine g_if_eq (tgt := 15) C dX4_isInBook_8 (by decide) (fun c8 => ?_) (fun c8 => ?_)
    · replace h := (if_pos c8).symm.trans h
      refine g_iconst (v := (0 : Int32)) C dX4_isInBook_15 (by decide) ?_
      exact g_iret C hr rfl hz ⟨rfl, rfl, fun _ => rfl, fun _ => rfl⟩ ⟨Option.some.inj h, rfl⟩ (fun j x h => by simp at h) dX4_isInBook_16
    · replace h := (if_neg c8).symm.trans h
      refine g_iconst (v := (1 : Int32)) C dX4_isInBook_11 (by decide) ?_
      refine g_goto (tgt := 16) C dX4_isInBook_12 (by decide) ?_
      exact g_iret C hr rfl hz ⟨rfl, rfl, fun _ => rfl, fun _ => rfl⟩ ⟨Option.some.inj h, rfl⟩ (fun j x h => by simp at h) dX4_isInBook_16
theorem c_X4_isInBook (l : Launch) (μ : MP) (ν : NC) (a : AS) (Ad : Nat → Nat → Nat) (w : Nat) (i0 : Nat) (x1 : Int32) (r0 : Int32) (h : f_X4_isInBook w μ ν i0 x1 = some r0) : ∀ D E sz, Met l yX4_isInBook gwX4_isInBook ({ frames := 0, cells := 0, slots := 0, locals := 0 } : Room) (cP D E sz (zS μ ν a Ad) [] [.ref (Ad 20 i0), .int x1]) (cQ D E sz (zS μ ν a Ad) [] (pI (fun r u => r = r0 ∧ u = (zS μ ν a Ad, [])))) (0) (0) (Aof (zS μ ν a Ad) [] sz) := by
  intro D E sz
  refine g_of (cc := cX4_isInBook) (maxL := 2) (ret := (some .boolean)) (own := "TradeLine$Order") (by decide) rfl rfl (Nat.le_of_ble_eq_true rfl) ?_
  intro p e s m args below meth c C hr hin hz ha hwr
  refine g_lv (lv' := [(0, .ref (Ad 20 i0)), (1, .int x1)]) [0, 1] rfl ?_
  exact lb_X4_isInBook_0 C hr hz h
noncomputable def f_X4_book  (w : Nat) (μ : MP) (ν : NC) (i0 : Nat) (x1 : Int32) : Option (Nat) := (if x1 = (1 : Int32) then (bif ltB i0 (ν.2 20) then some ((2 * i0 + 1) + 1) else none) else (bif ltB i0 (ν.2 20) then some ((2 * i0) + 1) else none))
set_option maxHeartbeats 4000000 in
set_option maxRecDepth 100000 in
theorem lb_X4_book_0 {p : Program} {l : Launch} {e : Env} {s : State} {m : MethodId} {args : Array Value} {below : List Frame} {meth : Method} {c : Code} {D : va_G} {E : Nat → ClassId} {sz : Nat} {μ : MP} {ν : NC} {a : AS} {Ad : Nat → Nat → Nat} {i0 : Nat} {w : Nat} {r0 : Nat} (C : cx p s m args meth c D E (Aof (zS μ ν a Ad) [] s.heap.size) cX4_book 2 "TradeLine$Order") (hr : meth.sig.returnType = (some (.object "TradeLine$Book"))) (hz : s.heap.size = sz) {x1 : Int32}   (h : f_X4_book  w μ ν i0 x1 = some r0) : G p l e ({ frames := 0, cells := 0, slots := 0, locals := 0 } : Room) s m args below meth c D E (Aof (zS μ ν a Ad) [] s.heap.size) 2 (MQ below (cQ D E sz (zS μ ν a Ad) [] (pQ (fun r u => r = nv (Ad 21) r0 ∧ u = (zS μ ν a Ad, [])))) args s 0 0 (Aof (zS μ ν a Ad) [] s.heap.size)) (zS μ ν a Ad) [] 0 0 0 [(0, .ref (Ad 20 i0)), (1, .int x1)] [] := by
  unfold f_X4_book at h
  refine g_iload_n C dX4_book_0 rfl 1 rfl ?_
  refine g_iconst (v := (1 : Int32)) C dX4_book_1 (by decide) ?_
  refine g_icmp_ne (tgt := 12) C dX4_book_2 (by decide) (fun c2 => ?_) (fun c2 => ?_)
  · replace h := (if_neg c2).symm.trans h
    refine g_aload_n C dX4_book_12 rfl 0 rfl ?_
    obtain ⟨g1, h⟩ := of_guard h
    refine g_get (k := 20) (i := i0) (ref := "TradeLine$Order") (v := .ref (Ad 21 (2 * i0))) C rfl (lvZ g1 rfl) rfl rfl inGX4 2 (by decide) gw_1113 (fun _ h => h) rfl dX4_book_13 ?_
    obtain rfl := Option.some.inj h
    exact g_aret C hr (Or.inl ⟨_, rfl⟩) (Or.inr ⟨_, rfl⟩) hz ⟨rfl, rfl, fun _ => rfl, fun _ => rfl⟩ ⟨rfl, rfl⟩ (fun j x h => by simp at h) dX4_book_16
  · replace h := (if_pos c2).symm.trans h
    refine g_aload_n C dX4_book_5 rfl 0 rfl ?_
    obtain ⟨g2, h⟩ := of_guard h
    refine g_get (k := 20) (i := i0) (ref := "TradeLine$Order") (v := .ref (Ad 21 (2 * i0 + 1))) C rfl (lvZ g2 rfl) rfl rfl inGX4 3 (by decide) gw_1115 (fun _ h => h) rfl dX4_book_6 ?_
    refine g_goto (tgt := 16) C dX4_book_9 (by decide) ?_
    obtain rfl := Option.some.inj h
    exact g_aret C hr (Or.inl ⟨_, rfl⟩) (Or.inr ⟨_, rfl⟩) hz ⟨rfl, rfl, fun _ => rfl, fun _ => rfl⟩ ⟨rfl, rfl⟩ (fun j x h => by simp at h) dX4_book_16
theorem c_X4_book (l : Launch) (μ : MP) (ν : NC) (a : AS) (Ad : Nat → Nat → Nat) (w : Nat) (i0 : Nat) (x1 : Int32) (r0 : Nat) (h : f_X4_book w μ ν i0 x1 = some r0) : ∀ D E sz, Met l yX4_book gwX4_book ({ frames := 0, cells := 0, slots := 0, locals := 0 } : Room) (cP D E sz (zS μ ν a Ad) [] [.ref (Ad 20 i0), .int x1]) (cQ D E sz (zS μ ν a Ad) [] (pQ (fun r u => r = nv (Ad 21) r0 ∧ u = (zS μ ν a Ad, [])))) (0) (0) (Aof (zS μ ν a Ad) [] sz) := by
  intro D E sz
  refine g_of (cc := cX4_book) (maxL := 2) (ret := (some (.object "TradeLine$Book"))) (own := "TradeLine$Order") (by decide) rfl rfl (Nat.le_of_ble_eq_true rfl) ?_
  intro p e s m args below meth c C hr hin hz ha hwr
  refine g_lv (lv' := [(0, .ref (Ad 20 i0)), (1, .int x1)]) [0, 1] rfl ?_
  exact lb_X4_book_0 C hr hz h
noncomputable def b_X4_leftFor_13  (w : Nat) (μ : MP) (ν : NC) (i0 : Nat) (x1 : Int32) : Option (Int32) := bif ltB i0 (ν.2 20) then (f_X4_book w μ ν i0 x1).bind (fun v2 => bif nzB v2 then bif ltB (v2 - 1) (ν.2 21) then (f_X1_rest w μ ν (v2 - 1) ).bind (fun v5 => some v5) else none else none) else none
set_option maxHeartbeats 4000000 in
set_option maxRecDepth 100000 in
theorem lb_X4_leftFor_13 {p : Program} {l : Launch} {e : Env} {s : State} {m : MethodId} {args : Array Value} {below : List Frame} {meth : Method} {c : Code} {D : va_G} {E : Nat → ClassId} {sz : Nat} {μ : MP} {ν : NC} {a : AS} {Ad : Nat → Nat → Nat} {i0 : Nat} {w : Nat} {r0 : Int32} (C : cx p s m args meth c D E (Aof (zS μ ν a Ad) [] s.heap.size) cX4_leftFor 2 "TradeLine$Order") (hr : meth.sig.returnType = (some .int)) (hz : s.heap.size = sz) {x1 : Int32}   (h : b_X4_leftFor_13  w μ ν i0 x1 = some r0) : G p l e ({ frames := 1, cells := 0, slots := 0, locals := 21 } : Room) s m args below meth c D E (Aof (zS μ ν a Ad) [] s.heap.size) 2 (MQ below (cQ D E sz (zS μ ν a Ad) [] (pI (fun r u => r = r0 ∧ u = (zS μ ν a Ad, [])))) args s 0 0 (Aof (zS μ ν a Ad) [] s.heap.size)) (zS μ ν a Ad) [] 0 0 13 [(0, .ref (Ad 20 i0)), (1, .int x1)] [] := by
  unfold b_X4_leftFor_13 at h
  refine g_aload_n C dX4_leftFor_13 rfl 0 rfl ?_
  refine g_iload_n C dX4_leftFor_14 rfl 1 rfl ?_
  obtain ⟨g1, h⟩ := of_guard h
  obtain ⟨v2, hv2, h⟩ := bind_of h
  refine g_cVq (n := 1) (exc := []) (exr := []) C [_] _ rfl rfl [] [] rfl rfl rfl rfl (fun _ h => absurd h (by simp)) (fun _ h => absurd h (by simp)) (fun _ h => absurd h (by simp)) (fun sz => c_X4_book l μ ν a Ad w i0 x1 _ hv2 D E sz) rfl gw_1342 gw_30 gw_1339 gw_1340 gw_1341 ⟨by decide +kernel, by decide +kernel, by decide +kernel⟩ ⟨rfl, rfl⟩ ⟨Nat.le_of_ble_eq_true rfl, Nat.le_of_ble_eq_true rfl⟩ (rcvT (lvZ g1 rfl) rfl rfl rfl) (Nat.le_of_ble_eq_true rfl) dX4_leftFor_15 ⟨by decide, by decide⟩ (fun r u hp hx => ?_)
  obtain ⟨er, rfl⟩ := hp
  rw [er]
  try dsimp only [List.append_nil]
  obtain ⟨g3, h⟩ := of_guard h
  rw [nzB_e g3]
  obtain ⟨g4, h⟩ := of_guard h
  obtain ⟨v5, hv5, h⟩ := bind_of h
  refine g_cVi (n := 0) (exc := []) (exr := []) C [] _ rfl rfl [] [] rfl rfl rfl rfl (fun _ h => absurd h (by simp)) (fun _ h => absurd h (by simp)) (fun _ h => absurd h (by simp)) (fun sz => c_X1_rest l μ ν a Ad w (v2 - 1)  _ hv5 D E sz) rfl gw_887 gw_31 gw_884 gw_885 gw_886 ⟨by decide +kernel, by decide +kernel, by decide +kernel⟩ ⟨rfl, rfl⟩ ⟨Nat.le_of_ble_eq_true rfl, Nat.le_of_ble_eq_true rfl⟩ (rcvT (lvZ g4 rfl) rfl rfl rfl) (Nat.le_of_ble_eq_true rfl) dX4_leftFor_18 ⟨by decide, by decide⟩ (fun r u hp hx => ?_)
  obtain ⟨er, rfl⟩ := hp
  rw [er]
  try dsimp only [List.append_nil]
  exact g_iret C hr rfl hz ⟨rfl, rfl, fun _ => rfl, fun _ => rfl⟩ ⟨Option.some.inj h, rfl⟩ (fun j x h => by simp at h) dX4_leftFor_21
noncomputable def f_X4_leftFor  (w : Nat) (μ : MP) (ν : NC) (i0 : Nat) (x1 : Int32) : Option (Int32) := (if x1 = (0 : Int32) then (bif ltB i0 (ν.2 20) then (if (μ.1 20 i0 4) = (0 : Int32) then (some (0 : Int32)) else (b_X4_leftFor_13  w μ ν i0 x1)) else none) else (b_X4_leftFor_13  w μ ν i0 x1))
set_option maxHeartbeats 4000000 in
set_option maxRecDepth 100000 in
theorem lb_X4_leftFor_0 {p : Program} {l : Launch} {e : Env} {s : State} {m : MethodId} {args : Array Value} {below : List Frame} {meth : Method} {c : Code} {D : va_G} {E : Nat → ClassId} {sz : Nat} {μ : MP} {ν : NC} {a : AS} {Ad : Nat → Nat → Nat} {i0 : Nat} {w : Nat} {r0 : Int32} (C : cx p s m args meth c D E (Aof (zS μ ν a Ad) [] s.heap.size) cX4_leftFor 2 "TradeLine$Order") (hr : meth.sig.returnType = (some .int)) (hz : s.heap.size = sz) {x1 : Int32}   (h : f_X4_leftFor  w μ ν i0 x1 = some r0) : G p l e ({ frames := 1, cells := 0, slots := 0, locals := 21 } : Room) s m args below meth c D E (Aof (zS μ ν a Ad) [] s.heap.size) 2 (MQ below (cQ D E sz (zS μ ν a Ad) [] (pI (fun r u => r = r0 ∧ u = (zS μ ν a Ad, [])))) args s 0 0 (Aof (zS μ ν a Ad) [] s.heap.size)) (zS μ ν a Ad) [] 0 0 0 [(0, .ref (Ad 20 i0)), (1, .int x1)] [] := by
  unfold f_X4_leftFor at h
  refine g_iload_n C dX4_leftFor_0 rfl 1 rfl ?_
  refine g_if_ne (tgt := 13) C dX4_leftFor_1 (by decide) (fun c1 => ?_) (fun c1 => ?_)
  · replace h := (if_neg c1).symm.trans h
    refine g_lv [0, 1] rfl ?_
    exact lb_X4_leftFor_13 C hr hz  h
  · replace h := (if_pos c1).symm.trans h
    refine g_aload_n C dX4_leftFor_4 rfl 0 rfl ?_
    obtain ⟨g6, h⟩ := of_guard h
    refine g_get (k := 20) (i := i0) (ref := "TradeLine$Order") (v := .int (μ.1 20 i0 4)) C rfl (lvZ g6 rfl) rfl rfl inGX4 4 (by decide) gw_1117 (fun _ h => h) rfl dX4_leftFor_5 ?_
    refine g_if_ne (tgt := 13) C dX4_leftFor_8 (by decide) (fun c8 => ?_) (fun c8 => ?_)
    · replace h := (if_neg c8).symm.trans h
      refine g_lv [0, 1] rfl ?_
      exact lb_X4_leftFor_13 C hr hz  h
    · replace h := (if_pos c8).symm.trans h
      refine g_iconst (v := (0 : Int32)) C dX4_leftFor_11 (by decide) ?_
      exact g_iret C hr rfl hz ⟨rfl, rfl, fun _ => rfl, fun _ => rfl⟩ ⟨Option.some.inj h, rfl⟩ (fun j x h => by simp at h) dX4_leftFor_12
theorem c_X4_leftFor (l : Launch) (μ : MP) (ν : NC) (a : AS) (Ad : Nat → Nat → Nat) (w : Nat) (i0 : Nat) (x1 : Int32) (r0 : Int32) (h : f_X4_leftFor w μ ν i0 x1 = some r0) : ∀ D E sz, Met l yX4_leftFor gwX4_leftFor ({ frames := 1, cells := 0, slots := 0, locals := 21 } : Room) (cP D E sz (zS μ ν a Ad) [] [.ref (Ad 20 i0), .int x1]) (cQ D E sz (zS μ ν a Ad) [] (pI (fun r u => r = r0 ∧ u = (zS μ ν a Ad, [])))) (0) (0) (Aof (zS μ ν a Ad) [] sz) := by
  intro D E sz
  refine g_of (cc := cX4_leftFor) (maxL := 2) (ret := (some .int)) (own := "TradeLine$Order") (by decide) rfl rfl (Nat.le_of_ble_eq_true rfl) ?_
  intro p e s m args below meth c C hr hin hz ha hwr
  refine g_lv (lv' := [(0, .ref (Ad 20 i0)), (1, .int x1)]) [0, 1] rfl ?_
  exact lb_X4_leftFor_0 C hr hz h
noncomputable def f_X4_state  (w : Nat) (μ : MP) (ν : NC) (i0 : Nat) : Option (Int32) := bif ltB i0 (ν.2 20) then (if (μ.1 20 i0 4) = (0 : Int32) then (some (0 : Int32)) else (bif ltB (2 * i0) (ν.2 21) then (f_X1_rest w μ ν (2 * i0) ).bind (fun v3 => (if v3 ≤ (0 : Int32) then (some (2 : Int32)) else (some (1 : Int32)))) else none)) else none
set_option maxHeartbeats 4000000 in
set_option maxRecDepth 100000 in
theorem lb_X4_state_0 {p : Program} {l : Launch} {e : Env} {s : State} {m : MethodId} {args : Array Value} {below : List Frame} {meth : Method} {c : Code} {D : va_G} {E : Nat → ClassId} {sz : Nat} {μ : MP} {ν : NC} {a : AS} {Ad : Nat → Nat → Nat} {i0 : Nat} {w : Nat} {r0 : Int32} (C : cx p s m args meth c D E (Aof (zS μ ν a Ad) [] s.heap.size) cX4_state 1 "TradeLine$Order") (hr : meth.sig.returnType = (some .int)) (hz : s.heap.size = sz)   (h : f_X4_state  w μ ν i0  = some r0) : G p l e ({ frames := 1, cells := 0, slots := 0, locals := 20 } : Room) s m args below meth c D E (Aof (zS μ ν a Ad) [] s.heap.size) 1 (MQ below (cQ D E sz (zS μ ν a Ad) [] (pI (fun r u => r = r0 ∧ u = (zS μ ν a Ad, [])))) args s 0 0 (Aof (zS μ ν a Ad) [] s.heap.size)) (zS μ ν a Ad) [] 0 0 0 [(0, .ref (Ad 20 i0))] [] := by
  unfold f_X4_state at h
  refine g_aload_n C dX4_state_0 rfl 0 rfl ?_
  obtain ⟨g1, h⟩ := of_guard h
  refine g_get (k := 20) (i := i0) (ref := "TradeLine$Order") (v := .int (μ.1 20 i0 4)) C rfl (lvZ g1 rfl) rfl rfl inGX4 4 (by decide) gw_1117 (fun _ h => h) rfl dX4_state_1 ?_
  refine g_if_ne (tgt := 9) C dX4_state_4 (by decide) (fun c4 => ?_) (fun c4 => ?_)
  · replace h := (if_neg c4).symm.trans h
    refine g_aload_n C dX4_state_9 rfl 0 rfl ?_
    refine g_get (k := 20) (i := i0) (ref := "TradeLine$Order") (v := .ref (Ad 21 (2 * i0))) C rfl (lvZ g1 rfl) rfl rfl inGX4 2 (by decide) gw_1113 (fun _ h => h) rfl dX4_state_10 ?_
    obtain ⟨g2, h⟩ := of_guard h
    obtain ⟨v3, hv3, h⟩ := bind_of h
    refine g_cVi (n := 0) (exc := []) (exr := []) C [] _ rfl rfl [] [] rfl rfl rfl rfl (fun _ h => absurd h (by simp)) (fun _ h => absurd h (by simp)) (fun _ h => absurd h (by simp)) (fun sz => c_X1_rest l μ ν a Ad w (2 * i0)  _ hv3 D E sz) rfl gw_887 gw_31 gw_884 gw_885 gw_886 ⟨by decide +kernel, by decide +kernel, by decide +kernel⟩ ⟨rfl, rfl⟩ ⟨Nat.le_of_ble_eq_true rfl, Nat.le_of_ble_eq_true rfl⟩ (rcvT (lvZ g2 rfl) rfl rfl rfl) (Nat.le_of_ble_eq_true rfl) dX4_state_13 ⟨by decide, by decide⟩ (fun r u hp hx => ?_)
    obtain ⟨er, rfl⟩ := hp
    rw [er]
    try dsimp only [List.append_nil]
    refine g_if_le (tgt := 23) C dX4_state_16 (by decide) (fun c16 => ?_) (fun c16 => ?_)
    · replace h := (if_pos c16).symm.trans h
      refine g_iconst (v := (2 : Int32)) C dX4_state_23 (by decide) ?_
      exact g_iret C hr rfl hz ⟨rfl, rfl, fun _ => rfl, fun _ => rfl⟩ ⟨Option.some.inj h, rfl⟩ (fun j x h => by simp at h) dX4_state_24
    · replace h := (if_neg c16).symm.trans h
      refine g_iconst (v := (1 : Int32)) C dX4_state_19 (by decide) ?_
      refine g_goto (tgt := 24) C dX4_state_20 (by decide) ?_
      exact g_iret C hr rfl hz ⟨rfl, rfl, fun _ => rfl, fun _ => rfl⟩ ⟨Option.some.inj h, rfl⟩ (fun j x h => by simp at h) dX4_state_24
  · replace h := (if_pos c4).symm.trans h
    refine g_iconst (v := (0 : Int32)) C dX4_state_7 (by decide) ?_
    exact g_iret C hr rfl hz ⟨rfl, rfl, fun _ => rfl, fun _ => rfl⟩ ⟨Option.some.inj h, rfl⟩ (fun j x h => by simp at h) dX4_state_8
theorem c_X4_state (l : Launch) (μ : MP) (ν : NC) (a : AS) (Ad : Nat → Nat → Nat) (w : Nat) (i0 : Nat) (r0 : Int32) (h : f_X4_state w μ ν i0  = some r0) : ∀ D E sz, Met l yX4_state gwX4_state ({ frames := 1, cells := 0, slots := 0, locals := 20 } : Room) (cP D E sz (zS μ ν a Ad) [] [.ref (Ad 20 i0)]) (cQ D E sz (zS μ ν a Ad) [] (pI (fun r u => r = r0 ∧ u = (zS μ ν a Ad, [])))) (0) (0) (Aof (zS μ ν a Ad) [] sz) := by
  intro D E sz
  refine g_of (cc := cX4_state) (maxL := 1) (ret := (some .int)) (own := "TradeLine$Order") (by decide) rfl rfl (Nat.le_of_ble_eq_true rfl) ?_
  intro p e s m args below meth c C hr hin hz ha hwr
  refine g_lv (lv' := [(0, .ref (Ad 20 i0))]) [0] rfl ?_
  exact lb_X4_state_0 C hr hz h
noncomputable def f_X4_booksAgree  (w : Nat) (μ : MP) (ν : NC) (i0 : Nat) : Option (Int32) := bif ltB i0 (ν.2 20) then (f_X4_leftFor w μ ν i0 (0 : Int32)).bind (fun v2 => (f_X4_leftFor w μ ν i0 (1 : Int32)).bind (fun v3 => (if v2 = v3 then (bif ltB (2 * i0) (ν.2 21) then bif ltB (2 * i0 + 1) (ν.2 21) then (if (μ.1 21 (2 * i0) 2) = (μ.1 21 (2 * i0 + 1) 2) then ((if (μ.1 21 (2 * i0) 3) = (μ.1 21 (2 * i0 + 1) 3) then (some (1 : Int32)) else (some (0 : Int32)))) else (some (0 : Int32))) else none else none) else (some (0 : Int32))))) else none
set_option maxHeartbeats 4000000 in
set_option maxRecDepth 100000 in
theorem lb_X4_booksAgree_0 {p : Program} {l : Launch} {e : Env} {s : State} {m : MethodId} {args : Array Value} {below : List Frame} {meth : Method} {c : Code} {D : va_G} {E : Nat → ClassId} {sz : Nat} {μ : MP} {ν : NC} {a : AS} {Ad : Nat → Nat → Nat} {i0 : Nat} {w : Nat} {r0 : Int32} (C : cx p s m args meth c D E (Aof (zS μ ν a Ad) [] s.heap.size) cX4_booksAgree 1 "TradeLine$Order") (hr : meth.sig.returnType = (some .boolean)) (hz : s.heap.size = sz)   (h : f_X4_booksAgree  w μ ν i0  = some r0) : G p l e ({ frames := 2, cells := 0, slots := 0, locals := 42 } : Room) s m args below meth c D E (Aof (zS μ ν a Ad) [] s.heap.size) 1 (MQ below (cQ D E sz (zS μ ν a Ad) [] (pI (fun r u => r = r0 ∧ u = (zS μ ν a Ad, [])))) args s 0 0 (Aof (zS μ ν a Ad) [] s.heap.size)) (zS μ ν a Ad) [] 0 0 0 [(0, .ref (Ad 20 i0))] [] := by
  unfold f_X4_booksAgree at h
  refine g_aload_n C dX4_booksAgree_0 rfl 0 rfl ?_
  refine g_iconst (v := (0 : Int32)) C dX4_booksAgree_1 (by decide) ?_
  obtain ⟨g1, h⟩ := of_guard h
  obtain ⟨v2, hv2, h⟩ := bind_of h
  refine g_cVi (n := 1) (exc := []) (exr := []) C [_] _ rfl rfl [] [] rfl rfl rfl rfl (fun _ h => absurd h (by simp)) (fun _ h => absurd h (by simp)) (fun _ h => absurd h (by simp)) (fun sz => c_X4_leftFor l μ ν a Ad w i0 (0 : Int32) _ hv2 D E sz) rfl gw_1338 gw_30 gw_1396 gw_1336 gw_1337 ⟨by decide +kernel, by decide +kernel, by decide +kernel⟩ ⟨rfl, rfl⟩ ⟨Nat.le_of_ble_eq_true rfl, Nat.le_of_ble_eq_true rfl⟩ (rcvT (lvZ g1 rfl) rfl rfl rfl) (Nat.le_of_ble_eq_true rfl) dX4_booksAgree_2 ⟨by decide, by decide⟩ (fun r u hp hx => ?_)
  obtain ⟨er, rfl⟩ := hp
  rw [er]
  try dsimp only [List.append_nil]
  refine g_aload_n C dX4_booksAgree_5 rfl 0 rfl ?_
  refine g_iconst (v := (1 : Int32)) C dX4_booksAgree_6 (by decide) ?_
  obtain ⟨v3, hv3, h⟩ := bind_of h
  refine g_cVi (n := 1) (exc := []) (exr := []) C [_] _ rfl rfl [] [] rfl rfl rfl rfl (fun _ h => absurd h (by simp)) (fun _ h => absurd h (by simp)) (fun _ h => absurd h (by simp)) (fun sz => c_X4_leftFor l μ ν a Ad w i0 (1 : Int32) _ hv3 D E sz) rfl gw_1338 gw_30 gw_1396 gw_1336 gw_1337 ⟨by decide +kernel, by decide +kernel, by decide +kernel⟩ ⟨rfl, rfl⟩ ⟨Nat.le_of_ble_eq_true rfl, Nat.le_of_ble_eq_true rfl⟩ (rcvT (lvZ g1 rfl) rfl rfl rfl) (Nat.le_of_ble_eq_true rfl) dX4_booksAgree_7 ⟨by decide, by decide⟩ (fun r u hp hx => ?_)
  obtain ⟨er, rfl⟩ := hp
  rw [er]
  try dsimp only [List.append_nil]
  refine g_icmp_ne (tgt := 51) C dX4_booksAgree_10 (by decide) (fun c10 => ?_) (fun c10 => ?_)
  · replace h := (if_neg c10).symm.trans h
    refine g_iconst (v := (0 : Int32)) C dX4_booksAgree_51 (by decide) ?_
    exact g_iret C hr rfl hz ⟨rfl, rfl, fun _ => rfl, fun _ => rfl⟩ ⟨Option.some.inj h, rfl⟩ (fun j x h => by simp at h) dX4_booksAgree_52
  · replace h := (if_pos c10).symm.trans h
    refine g_aload_n C dX4_booksAgree_13 rfl 0 rfl ?_
    refine g_get (k := 20) (i := i0) (ref := "TradeLine$Order") (v := .ref (Ad 21 (2 * i0))) C rfl (lvZ g1 rfl) rfl rfl inGX4 2 (by decide) gw_1113 (fun _ h => h) rfl dX4_booksAgree_14 ?_
    obtain ⟨g4, h⟩ := of_guard h
    refine g_get (k := 21) (i := (2 * i0)) (ref := "TradeLine$Book") (v := .int (μ.1 21 (2 * i0) 2)) C rfl (lvZ g4 rfl) rfl rfl inGX1 2 (by decide) gw_1095 (fun _ h => h) rfl dX4_booksAgree_17 ?_
    refine g_aload_n C dX4_booksAgree_20 rfl 0 rfl ?_
    refine g_get (k := 20) (i := i0) (ref := "TradeLine$Order") (v := .ref (Ad 21 (2 * i0 + 1))) C rfl (lvZ g1 rfl) rfl rfl inGX4 3 (by decide) gw_1115 (fun _ h => h) rfl dX4_booksAgree_21 ?_
    obtain ⟨g5, h⟩ := of_guard h
    refine g_get (k := 21) (i := (2 * i0 + 1)) (ref := "TradeLine$Book") (v := .int (μ.1 21 (2 * i0 + 1) 2)) C rfl (lvZ g5 rfl) rfl rfl inGX1 2 (by decide) gw_1095 (fun _ h => h) rfl dX4_booksAgree_24 ?_
    refine g_icmp_ne (tgt := 51) C dX4_booksAgree_27 (by decide) (fun c27 => ?_) (fun c27 => ?_)
    · replace h := (if_neg c27).symm.trans h
      refine g_iconst (v := (0 : Int32)) C dX4_booksAgree_51 (by decide) ?_
      exact g_iret C hr rfl hz ⟨rfl, rfl, fun _ => rfl, fun _ => rfl⟩ ⟨Option.some.inj h, rfl⟩ (fun j x h => by simp at h) dX4_booksAgree_52
    · replace h := (if_pos c27).symm.trans h
      refine g_aload_n C dX4_booksAgree_30 rfl 0 rfl ?_
      refine g_get (k := 20) (i := i0) (ref := "TradeLine$Order") (v := .ref (Ad 21 (2 * i0))) C rfl (lvZ g1 rfl) rfl rfl inGX4 2 (by decide) gw_1113 (fun _ h => h) rfl dX4_booksAgree_31 ?_
      refine g_get (k := 21) (i := (2 * i0)) (ref := "TradeLine$Book") (v := .int (μ.1 21 (2 * i0) 3)) C rfl (lvZ g4 rfl) rfl rfl inGX1 3 (by decide) gw_1098 (fun _ h => h) rfl dX4_booksAgree_34 ?_
      refine g_aload_n C dX4_booksAgree_37 rfl 0 rfl ?_
      refine g_get (k := 20) (i := i0) (ref := "TradeLine$Order") (v := .ref (Ad 21 (2 * i0 + 1))) C rfl (lvZ g1 rfl) rfl rfl inGX4 3 (by decide) gw_1115 (fun _ h => h) rfl dX4_booksAgree_38 ?_
      refine g_get (k := 21) (i := (2 * i0 + 1)) (ref := "TradeLine$Book") (v := .int (μ.1 21 (2 * i0 + 1) 3)) C rfl (lvZ g5 rfl) rfl rfl inGX1 3 (by decide) gw_1098 (fun _ h => h) rfl dX4_booksAgree_41 ?_
      refine g_icmp_ne (tgt := 51) C dX4_booksAgree_44 (by decide) (fun c44 => ?_) (fun c44 => ?_)
      · replace h := (if_neg c44).symm.trans h
        refine g_iconst (v := (0 : Int32)) C dX4_booksAgree_51 (by decide) ?_
        exact g_iret C hr rfl hz ⟨rfl, rfl, fun _ => rfl, fun _ => rfl⟩ ⟨Option.some.inj h, rfl⟩ (fun j x h => by simp at h) dX4_booksAgree_52
      · replace h := (if_pos c44).symm.trans h
        refine g_iconst (v := (1 : Int32)) C dX4_booksAgree_47 (by decide) ?_
        refine g_goto (tgt := 52) C dX4_booksAgree_48 (by decide) ?_
        exact g_iret C hr rfl hz ⟨rfl, rfl, fun _ => rfl, fun _ => rfl⟩ ⟨Option.some.inj h, rfl⟩ (fun j x h => by simp at h) dX4_booksAgree_52
theorem c_X4_booksAgree (l : Launch) (μ : MP) (ν : NC) (a : AS) (Ad : Nat → Nat → Nat) (w : Nat) (i0 : Nat) (r0 : Int32) (h : f_X4_booksAgree w μ ν i0  = some r0) : ∀ D E sz, Met l yX4_booksAgree gwX4_booksAgree ({ frames := 2, cells := 0, slots := 0, locals := 42 } : Room) (cP D E sz (zS μ ν a Ad) [] [.ref (Ad 20 i0)]) (cQ D E sz (zS μ ν a Ad) [] (pI (fun r u => r = r0 ∧ u = (zS μ ν a Ad, [])))) (0) (0) (Aof (zS μ ν a Ad) [] sz) := by
  intro D E sz
  refine g_of (cc := cX4_booksAgree) (maxL := 1) (ret := (some .boolean)) (own := "TradeLine$Order") (by decide) rfl rfl (Nat.le_of_ble_eq_true rfl) ?_
  intro p e s m args below meth c C hr hin hz ha hwr
  refine g_lv (lv' := [(0, .ref (Ad 20 i0))]) [0] rfl ?_
  exact lb_X4_booksAgree_0 C hr hz h
noncomputable def f_X4_canTradeWith  (w : Nat) (μ : MP) (ν : NC) (i0 : Nat) (p1 : Nat) : Option (Int32) := bif ltB i0 (ν.2 20) then bif ltB (2 * i0 + 1) (ν.2 21) then (f_X1_rest w μ ν (2 * i0 + 1) ).bind (fun v3 => (if v3 ≤ (0 : Int32) then (some (0 : Int32)) else (bif nzB p1 then bif ltB (p1 - 1) (ν.2 25) then (if (0 : Int32) < (μ.1 25 (p1 - 1) 2) then ((if (μ.1 20 i0 1) = (0 : Int32) then ((if (μ.1 21 (2 * i0 + 1) 0) < (μ.1 25 (p1 - 1) 1) then (some (0 : Int32)) else (some (1 : Int32)))) else ((if (μ.1 25 (p1 - 1) 1) < (μ.1 21 (2 * i0 + 1) 0) then (some (0 : Int32)) else (some (1 : Int32)))))) else (some (0 : Int32))) else none else none))) else none else none
set_option maxHeartbeats 4000000 in
set_option maxRecDepth 100000 in
theorem lb_X4_canTradeWith_0 {p : Program} {l : Launch} {e : Env} {s : State} {m : MethodId} {args : Array Value} {below : List Frame} {meth : Method} {c : Code} {D : va_G} {E : Nat → ClassId} {sz : Nat} {μ : MP} {ν : NC} {a : AS} {Ad : Nat → Nat → Nat} {i0 : Nat} {w : Nat} {r0 : Int32} (C : cx p s m args meth c D E (Aof (zS μ ν a Ad) [] s.heap.size) cX4_canTradeWith 2 "TradeLine$Order") (hr : meth.sig.returnType = (some .boolean)) (hz : s.heap.size = sz) {p1 : Nat}   (h : f_X4_canTradeWith  w μ ν i0 p1 = some r0) : G p l e ({ frames := 1, cells := 0, slots := 0, locals := 20 } : Room) s m args below meth c D E (Aof (zS μ ν a Ad) [] s.heap.size) 2 (MQ below (cQ D E sz (zS μ ν a Ad) [] (pI (fun r u => r = r0 ∧ u = (zS μ ν a Ad, [])))) args s 0 0 (Aof (zS μ ν a Ad) [] s.heap.size)) (zS μ ν a Ad) [] 0 0 0 [(0, .ref (Ad 20 i0)), (1, nv (Ad 25) p1)] [] := by
  unfold f_X4_canTradeWith at h
  refine g_aload_n C dX4_canTradeWith_0 rfl 0 rfl ?_
  obtain ⟨g1, h⟩ := of_guard h
  refine g_get (k := 20) (i := i0) (ref := "TradeLine$Order") (v := .ref (Ad 21 (2 * i0 + 1))) C rfl (lvZ g1 rfl) rfl rfl inGX4 3 (by decide) gw_1115 (fun _ h => h) rfl dX4_canTradeWith_1 ?_
  obtain ⟨g2, h⟩ := of_guard h
  obtain ⟨v3, hv3, h⟩ := bind_of h
  refine g_cVi (n := 0) (exc := []) (exr := []) C [] _ rfl rfl [] [] rfl rfl rfl rfl (fun _ h => absurd h (by simp)) (fun _ h => absurd h (by simp)) (fun _ h => absurd h (by simp)) (fun sz => c_X1_rest l μ ν a Ad w (2 * i0 + 1)  _ hv3 D E sz) rfl gw_887 gw_31 gw_884 gw_885 gw_886 ⟨by decide +kernel, by decide +kernel, by decide +kernel⟩ ⟨rfl, rfl⟩ ⟨Nat.le_of_ble_eq_true rfl, Nat.le_of_ble_eq_true rfl⟩ (rcvT (lvZ g2 rfl) rfl rfl rfl) (Nat.le_of_ble_eq_true rfl) dX4_canTradeWith_4 ⟨by decide, by decide⟩ (fun r u hp hx => ?_)
  obtain ⟨er, rfl⟩ := hp
  rw [er]
  try dsimp only [List.append_nil]
  refine g_if_le (tgt := 17) C dX4_canTradeWith_7 (by decide) (fun c7 => ?_) (fun c7 => ?_)
  · replace h := (if_pos c7).symm.trans h
    refine g_iconst (v := (0 : Int32)) C dX4_canTradeWith_17 (by decide) ?_
    exact g_iret C hr rfl hz ⟨rfl, rfl, fun _ => rfl, fun _ => rfl⟩ ⟨Option.some.inj h, rfl⟩ (fun j x h => by simp at h) dX4_canTradeWith_18
  · replace h := (if_neg c7).symm.trans h
    refine z_aload_n C dX4_canTradeWith_10 rfl 1 rfl (nv_or _ _) ?_
    obtain ⟨g4, h⟩ := of_guard h
    rw [nzB_e g4]
    obtain ⟨g5, h⟩ := of_guard h
    refine g_get (k := 25) (i := (p1 - 1)) (ref := "TradeLine$Quote") (v := .int (μ.1 25 (p1 - 1) 2)) C rfl (lvZ g5 rfl) rfl rfl inGX6 2 (by decide) gw_161 (fun _ h => h) rfl dX4_canTradeWith_11 ?_
    refine g_if_gt (tgt := 19) C dX4_canTradeWith_14 (by decide) (fun c14 => ?_) (fun c14 => ?_)
    · replace h := (if_pos c14).symm.trans h
      refine g_aload_n C dX4_canTradeWith_19 rfl 0 rfl ?_
      refine g_get (k := 20) (i := i0) (ref := "TradeLine$Order") (v := .int (μ.1 20 i0 1)) C rfl (lvZ g1 rfl) rfl rfl inGX4 1 (by decide) gw_1111 (fun _ h => h) rfl dX4_canTradeWith_20 ?_
      refine g_if_eq (tgt := 48) C dX4_canTradeWith_23 (by decide) (fun c23 => ?_) (fun c23 => ?_)
      · replace h := (if_pos c23).symm.trans h
        refine g_aload_n C dX4_canTradeWith_48 rfl 1 rfl ?_
        refine g_get (k := 25) (i := (p1 - 1)) (ref := "TradeLine$Quote") (v := .int (μ.1 25 (p1 - 1) 1)) C rfl (lvZ g5 rfl) rfl rfl inGX6 1 (by decide) gw_158 (fun _ h => h) rfl dX4_canTradeWith_49 ?_
        refine g_aload_n C dX4_canTradeWith_52 rfl 0 rfl ?_
        refine g_get (k := 20) (i := i0) (ref := "TradeLine$Order") (v := .ref (Ad 21 (2 * i0 + 1))) C rfl (lvZ g1 rfl) rfl rfl inGX4 3 (by decide) gw_1115 (fun _ h => h) rfl dX4_canTradeWith_53 ?_
        refine g_get (k := 21) (i := (2 * i0 + 1)) (ref := "TradeLine$Book") (v := .int (μ.1 21 (2 * i0 + 1) 0)) C rfl (lvZ g2 rfl) rfl rfl inGX1 0 (by decide) gw_1090 (fun _ h => h) rfl dX4_canTradeWith_56 ?_
        refine g_icmp_gt (tgt := 66) C dX4_canTradeWith_59 (by decide) (fun c59 => ?_) (fun c59 => ?_)
        · replace h := (if_pos c59).symm.trans h
          refine g_iconst (v := (0 : Int32)) C dX4_canTradeWith_66 (by decide) ?_
          exact g_iret C hr rfl hz ⟨rfl, rfl, fun _ => rfl, fun _ => rfl⟩ ⟨Option.some.inj h, rfl⟩ (fun j x h => by simp at h) dX4_canTradeWith_67
        · replace h := (if_neg c59).symm.trans h
          refine g_iconst (v := (1 : Int32)) C dX4_canTradeWith_62 (by decide) ?_
          refine g_goto (tgt := 67) C dX4_canTradeWith_63 (by decide) ?_
          exact g_iret C hr rfl hz ⟨rfl, rfl, fun _ => rfl, fun _ => rfl⟩ ⟨Option.some.inj h, rfl⟩ (fun j x h => by simp at h) dX4_canTradeWith_67
      · replace h := (if_neg c23).symm.trans h
        refine g_aload_n C dX4_canTradeWith_26 rfl 1 rfl ?_
        refine g_get (k := 25) (i := (p1 - 1)) (ref := "TradeLine$Quote") (v := .int (μ.1 25 (p1 - 1) 1)) C rfl (lvZ g5 rfl) rfl rfl inGX6 1 (by decide) gw_158 (fun _ h => h) rfl dX4_canTradeWith_27 ?_
        refine g_aload_n C dX4_canTradeWith_30 rfl 0 rfl ?_
        refine g_get (k := 20) (i := i0) (ref := "TradeLine$Order") (v := .ref (Ad 21 (2 * i0 + 1))) C rfl (lvZ g1 rfl) rfl rfl inGX4 3 (by decide) gw_1115 (fun _ h => h) rfl dX4_canTradeWith_31 ?_
        refine g_get (k := 21) (i := (2 * i0 + 1)) (ref := "TradeLine$Book") (v := .int (μ.1 21 (2 * i0 + 1) 0)) C rfl (lvZ g2 rfl) rfl rfl inGX1 0 (by decide) gw_1090 (fun _ h => h) rfl dX4_canTradeWith_34 ?_
        refine g_icmp_lt (tgt := 44) C dX4_canTradeWith_37 (by decide) (fun c37 => ?_) (fun c37 => ?_)
        · replace h := (if_pos c37).symm.trans h
          refine g_iconst (v := (0 : Int32)) C dX4_canTradeWith_44 (by decide) ?_
          refine g_goto (tgt := 67) C dX4_canTradeWith_45 (by decide) ?_
          exact g_iret C hr rfl hz ⟨rfl, rfl, fun _ => rfl, fun _ => rfl⟩ ⟨Option.some.inj h, rfl⟩ (fun j x h => by simp at h) dX4_canTradeWith_67
        · replace h := (if_neg c37).symm.trans h
          refine g_iconst (v := (1 : Int32)) C dX4_canTradeWith_40 (by decide) ?_
          refine g_goto (tgt := 67) C dX4_canTradeWith_41 (by decide) ?_
          exact g_iret C hr rfl hz ⟨rfl, rfl, fun _ => rfl, fun _ => rfl⟩ ⟨Option.some.inj h, rfl⟩ (fun j x h => by simp at h) dX4_canTradeWith_67
    · replace h := (if_neg c14).symm.trans h
      refine g_iconst (v := (0 : Int32)) C dX4_canTradeWith_17 (by decide) ?_
      exact g_iret C hr rfl hz ⟨rfl, rfl, fun _ => rfl, fun _ => rfl⟩ ⟨Option.some.inj h, rfl⟩ (fun j x h => by simp at h) dX4_canTradeWith_18
theorem c_X4_canTradeWith (l : Launch) (μ : MP) (ν : NC) (a : AS) (Ad : Nat → Nat → Nat) (w : Nat) (i0 : Nat) (p1 : Nat) (r0 : Int32) (h : f_X4_canTradeWith w μ ν i0 p1 = some r0) : ∀ D E sz, Met l yX4_canTradeWith gwX4_canTradeWith ({ frames := 1, cells := 0, slots := 0, locals := 20 } : Room) (cP D E sz (zS μ ν a Ad) [] [.ref (Ad 20 i0), nv (Ad 25) p1]) (cQ D E sz (zS μ ν a Ad) [] (pI (fun r u => r = r0 ∧ u = (zS μ ν a Ad, [])))) (0) (0) (Aof (zS μ ν a Ad) [] sz) := by
  intro D E sz
  refine g_of (cc := cX4_canTradeWith) (maxL := 2) (ret := (some .boolean)) (own := "TradeLine$Order") (by decide) rfl rfl (by cases p1 <;> exact Nat.le_of_ble_eq_true rfl) ?_
  intro p e s m args below meth c C hr hin hz ha hwr
  refine g_lv (lv' := [(0, .ref (Ad 20 i0)), (1, nv (Ad 25) p1)]) [0, 1] (by cases p1 <;> rfl) ?_
  exact lb_X4_canTradeWith_0 C hr hz h
noncomputable def f_X4_hasBetterPriceThan  (w : Nat) (μ : MP) (ν : NC) (i0 : Nat) (p1 : Nat) : Option (Int32) := bif ltB i0 (ν.2 20) then (if (μ.1 20 i0 1) = (0 : Int32) then (bif ltB (2 * i0 + 1) (ν.2 21) then bif nzB p1 then bif ltB (p1 - 1) (ν.2 20) then bif ltB (2 * (p1 - 1) + 1) (ν.2 21) then (if (μ.1 21 (2 * i0 + 1) 0) ≤ (μ.1 21 (2 * (p1 - 1) + 1) 0) then (some (0 : Int32)) else (some (1 : Int32))) else none else none else none else none) else (bif ltB (2 * i0 + 1) (ν.2 21) then bif nzB p1 then bif ltB (p1 - 1) (ν.2 20) then bif ltB (2 * (p1 - 1) + 1) (ν.2 21) then (if (μ.1 21 (2 * (p1 - 1) + 1) 0) ≤ (μ.1 21 (2 * i0 + 1) 0) then (some (0 : Int32)) else (some (1 : Int32))) else none else none else none else none)) else none
set_option maxHeartbeats 4000000 in
set_option maxRecDepth 100000 in
theorem lb_X4_hasBetterPriceThan_0 {p : Program} {l : Launch} {e : Env} {s : State} {m : MethodId} {args : Array Value} {below : List Frame} {meth : Method} {c : Code} {D : va_G} {E : Nat → ClassId} {sz : Nat} {μ : MP} {ν : NC} {a : AS} {Ad : Nat → Nat → Nat} {i0 : Nat} {w : Nat} {r0 : Int32} (C : cx p s m args meth c D E (Aof (zS μ ν a Ad) [] s.heap.size) cX4_hasBetterPriceThan 2 "TradeLine$Order") (hr : meth.sig.returnType = (some .boolean)) (hz : s.heap.size = sz) {p1 : Nat}   (h : f_X4_hasBetterPriceThan  w μ ν i0 p1 = some r0) : G p l e ({ frames := 0, cells := 0, slots := 0, locals := 0 } : Room) s m args below meth c D E (Aof (zS μ ν a Ad) [] s.heap.size) 2 (MQ below (cQ D E sz (zS μ ν a Ad) [] (pI (fun r u => r = r0 ∧ u = (zS μ ν a Ad, [])))) args s 0 0 (Aof (zS μ ν a Ad) [] s.heap.size)) (zS μ ν a Ad) [] 0 0 0 [(0, .ref (Ad 20 i0)), (1, nv (Ad 20) p1)] [] := by
  unfold f_X4_hasBetterPriceThan at h
  refine g_aload_n C dX4_hasBetterPriceThan_0 rfl 0 rfl ?_
  obtain ⟨g1, h⟩ := of_guard h
  refine g_get (k := 20) (i := i0) (ref := "TradeLine$Order") (v := .int (μ.1 20 i0 1)) C rfl (lvZ g1 rfl) rfl rfl inGX4 1 (by decide) gw_1111 (fun _ h => h) rfl dX4_hasBetterPriceThan_1 ?_
  refine g_if_eq (tgt := 32) C dX4_hasBetterPriceThan_4 (by decide) (fun c4 => ?_) (fun c4 => ?_)
  · replace h := (if_pos c4).symm.trans h
    refine g_aload_n C dX4_hasBetterPriceThan_32 rfl 0 rfl ?_
    refine g_get (k := 20) (i := i0) (ref := "TradeLine$Order") (v := .ref (Ad 21 (2 * i0 + 1))) C rfl (lvZ g1 rfl) rfl rfl inGX4 3 (by decide) gw_1115 (fun _ h => h) rfl dX4_hasBetterPriceThan_33 ?_
    obtain ⟨g2, h⟩ := of_guard h
    refine g_get (k := 21) (i := (2 * i0 + 1)) (ref := "TradeLine$Book") (v := .int (μ.1 21 (2 * i0 + 1) 0)) C rfl (lvZ g2 rfl) rfl rfl inGX1 0 (by decide) gw_1090 (fun _ h => h) rfl dX4_hasBetterPriceThan_36 ?_
    refine z_aload_n C dX4_hasBetterPriceThan_39 rfl 1 rfl (nv_or _ _) ?_
    obtain ⟨g3, h⟩ := of_guard h
    rw [nzB_e g3]
    obtain ⟨g4, h⟩ := of_guard h
    refine g_get (k := 20) (i := (p1 - 1)) (ref := "TradeLine$Order") (v := .ref (Ad 21 (2 * (p1 - 1) + 1))) C rfl (lvZ g4 rfl) rfl rfl inGX4 3 (by decide) gw_1115 (fun _ h => h) rfl dX4_hasBetterPriceThan_40 ?_
    obtain ⟨g5, h⟩ := of_guard h
    refine g_get (k := 21) (i := (2 * (p1 - 1) + 1)) (ref := "TradeLine$Book") (v := .int (μ.1 21 (2 * (p1 - 1) + 1) 0)) C rfl (lvZ g5 rfl) rfl rfl inGX1 0 (by decide) gw_1090 (fun _ h => h) rfl dX4_hasBetterPriceThan_43 ?_
    refine g_icmp_le (tgt := 53) C dX4_hasBetterPriceThan_46 (by decide) (fun c46 => ?_) (fun c46 => ?_)
    · replace h := (if_pos c46).symm.trans h
      refine g_iconst (v := (0 : Int32)) C dX4_hasBetterPriceThan_53 (by decide) ?_
      exact g_iret C hr rfl hz ⟨rfl, rfl, fun _ => rfl, fun _ => rfl⟩ ⟨Option.some.inj h, rfl⟩ (fun j x h => by simp at h) dX4_hasBetterPriceThan_54
    · replace h := (if_neg c46).symm.trans h
      refine g_iconst (v := (1 : Int32)) C dX4_hasBetterPriceThan_49 (by decide) ?_
      refine g_goto (tgt := 54) C dX4_hasBetterPriceThan_50 (by decide) ?_
      exact g_iret C hr rfl hz ⟨rfl, rfl, fun _ => rfl, fun _ => rfl⟩ ⟨Option.some.inj h, rfl⟩ (fun j x h => by simp at h) dX4_hasBetterPriceThan_54
  · replace h := (if_neg c4).symm.trans h
    refine g_aload_n C dX4_hasBetterPriceThan_7 rfl 0 rfl ?_
    refine g_get (k := 20) (i := i0) (ref := "TradeLine$Order") (v := .ref (Ad 21 (2 * i0 + 1))) C rfl (lvZ g1 rfl) rfl rfl inGX4 3 (by decide) gw_1115 (fun _ h => h) rfl dX4_hasBetterPriceThan_8 ?_
    obtain ⟨g6, h⟩ := of_guard h
    refine g_get (k := 21) (i := (2 * i0 + 1)) (ref := "TradeLine$Book") (v := .int (μ.1 21 (2 * i0 + 1) 0)) C rfl (lvZ g6 rfl) rfl rfl inGX1 0 (by decide) gw_1090 (fun _ h => h) rfl dX4_hasBetterPriceThan_11 ?_
    refine z_aload_n C dX4_hasBetterPriceThan_14 rfl 1 rfl (nv_or _ _) ?_
    obtain ⟨g7, h⟩ := of_guard h
    rw [nzB_e g7]
    obtain ⟨g8, h⟩ := of_guard h
    refine g_get (k := 20) (i := (p1 - 1)) (ref := "TradeLine$Order") (v := .ref (Ad 21 (2 * (p1 - 1) + 1))) C rfl (lvZ g8 rfl) rfl rfl inGX4 3 (by decide) gw_1115 (fun _ h => h) rfl dX4_hasBetterPriceThan_15 ?_
    obtain ⟨g9, h⟩ := of_guard h
    refine g_get (k := 21) (i := (2 * (p1 - 1) + 1)) (ref := "TradeLine$Book") (v := .int (μ.1 21 (2 * (p1 - 1) + 1) 0)) C rfl (lvZ g9 rfl) rfl rfl inGX1 0 (by decide) gw_1090 (fun _ h => h) rfl dX4_hasBetterPriceThan_18 ?_
    refine g_icmp_ge (tgt := 28) C dX4_hasBetterPriceThan_21 (by decide) (fun c21 => ?_) (fun c21 => ?_)
    · replace h := (if_pos c21).symm.trans h
      refine g_iconst (v := (0 : Int32)) C dX4_hasBetterPriceThan_28 (by decide) ?_
      refine g_goto (tgt := 54) C dX4_hasBetterPriceThan_29 (by decide) ?_
      exact g_iret C hr rfl hz ⟨rfl, rfl, fun _ => rfl, fun _ => rfl⟩ ⟨Option.some.inj h, rfl⟩ (fun j x h => by simp at h) dX4_hasBetterPriceThan_54
    · replace h := (if_neg c21).symm.trans h
      refine g_iconst (v := (1 : Int32)) C dX4_hasBetterPriceThan_24 (by decide) ?_
      refine g_goto (tgt := 54) C dX4_hasBetterPriceThan_25 (by decide) ?_
      exact g_iret C hr rfl hz ⟨rfl, rfl, fun _ => rfl, fun _ => rfl⟩ ⟨Option.some.inj h, rfl⟩ (fun j x h => by simp at h) dX4_hasBetterPriceThan_54
theorem c_X4_hasBetterPriceThan (l : Launch) (μ : MP) (ν : NC) (a : AS) (Ad : Nat → Nat → Nat) (w : Nat) (i0 : Nat) (p1 : Nat) (r0 : Int32) (h : f_X4_hasBetterPriceThan w μ ν i0 p1 = some r0) : ∀ D E sz, Met l yX4_hasBetterPriceThan gwX4_hasBetterPriceThan ({ frames := 0, cells := 0, slots := 0, locals := 0 } : Room) (cP D E sz (zS μ ν a Ad) [] [.ref (Ad 20 i0), nv (Ad 20) p1]) (cQ D E sz (zS μ ν a Ad) [] (pI (fun r u => r = r0 ∧ u = (zS μ ν a Ad, [])))) (0) (0) (Aof (zS μ ν a Ad) [] sz) := by
  intro D E sz
  refine g_of (cc := cX4_hasBetterPriceThan) (maxL := 2) (ret := (some .boolean)) (own := "TradeLine$Order") (by decide) rfl rfl (by cases p1 <;> exact Nat.le_of_ble_eq_true rfl) ?_
  intro p e s m args below meth c C hr hin hz ha hwr
  refine g_lv (lv' := [(0, .ref (Ad 20 i0)), (1, nv (Ad 20) p1)]) [0, 1] (by cases p1 <;> rfl) ?_
  exact lb_X4_hasBetterPriceThan_0 C hr hz h
noncomputable def f_X4_endRequest  (w : Nat) (μ : MP) (ν : NC) (i0 : Nat) : Option (MP × Int32) := bif ltB i0 (ν.2 20) then (if (μ.1 20 i0 7) ≤ (0 : Int32) then (some (μ, (0 : Int32))) else (yl (uM μ 20 i0 7 ((μ.1 20 i0 7) - (1 : Int32))) (fun m2 => some (m2, (0 : Int32))))) else none
set_option maxHeartbeats 4000000 in
set_option maxRecDepth 100000 in
theorem lb_X4_endRequest_0 {p : Program} {l : Launch} {e : Env} {s : State} {m : MethodId} {args : Array Value} {below : List Frame} {meth : Method} {c : Code} {D : va_G} {E : Nat → ClassId} {sz : Nat} {μ0 : MP} {ν : NC} {a : AS} {Ad : Nat → Nat → Nat} {i0 : Nat} {w : Nat} {r0 : MP × Int32} (C : cx p s m args meth c D E (Aof (zS μ0 ν a Ad) [] s.heap.size) cX4_endRequest 1 "TradeLine$Order") (hr : meth.sig.returnType = none) (hz : s.heap.size = sz) {μ : MP}   (h : f_X4_endRequest  w μ ν i0  = some r0) : G p l e ({ frames := 0, cells := 0, slots := 0, locals := 0 } : Room) s m args below meth c D E (Aof (zS μ0 ν a Ad) [] s.heap.size) 1 (MQ below (cQ D E sz (zS μ0 ν a Ad) [] (pV (fun u => u = (zS r0.1 ν a Ad, [])))) args s 0 0 (Aof (zS μ0 ν a Ad) [] s.heap.size)) (zS μ ν a Ad) [] 0 0 0 [(0, .ref (Ad 20 i0))] [] := by
  unfold f_X4_endRequest at h
  refine g_aload_n C dX4_endRequest_0 rfl 0 rfl ?_
  obtain ⟨g1, h⟩ := of_guard h
  refine g_get (k := 20) (i := i0) (ref := "TradeLine$Order") (v := .int (μ.1 20 i0 7)) C rfl (lvZ g1 rfl) rfl rfl inGX4 7 (by decide) gw_1122 (fun _ h => h) rfl dX4_endRequest_1 ?_
  refine g_if_le (tgt := 17) C dX4_endRequest_4 (by decide) (fun c4 => ?_) (fun c4 => ?_)
  · replace h := (if_pos c4).symm.trans h
    obtain rfl := Option.some.inj h
    exact g_vret C hr hz ⟨rfl, rfl, fun _ => rfl, fun _ => rfl⟩ rfl (fun j x h => by simp at h) dX4_endRequest_17
  · replace h := (if_neg c4).symm.trans h
    refine g_aload_n C dX4_endRequest_7 rfl 0 rfl ?_
    refine g_dup C dX4_endRequest_8 rfl ?_
    refine g_get (k := 20) (i := i0) (ref := "TradeLine$Order") (v := .int (μ.1 20 i0 7)) C rfl (lvZ g1 rfl) rfl rfl inGX4 7 (by decide) gw_1122 (fun _ h => h) rfl dX4_endRequest_9 ?_
    refine g_iconst (v := (1 : Int32)) C dX4_endRequest_12 (by decide) ?_
    refine g_isub C dX4_endRequest_13 ?_
    refine z_put (k := 20) (i := i0) (ref := "TradeLine$Order") C rfl g1 rfl rfl rfl inGX4 tyX4 tyX4_ok nmX4 7 (by decide) gw_1122 (fun _ h => h) rfl (tyX4_ok 7 (by decide)) rfl rfl (by simp [fvs]) (by simp [fvs, up1]) dX4_endRequest_14 (fun m2 em2 => ?_)
    replace h := yl_of h em2
    obtain rfl := Option.some.inj h
    exact g_vret C hr hz ⟨rfl, rfl, fun _ => rfl, fun _ => rfl⟩ rfl (fun j x h => by simp at h) dX4_endRequest_17
theorem c_X4_endRequest (l : Launch) (μ : MP) (ν : NC) (a : AS) (Ad : Nat → Nat → Nat) (w : Nat) (i0 : Nat) (r0 : MP × Int32) (h : f_X4_endRequest w μ ν i0  = some r0) : ∀ D E sz, Met l yX4_endRequest gwX4_endRequest ({ frames := 0, cells := 0, slots := 0, locals := 0 } : Room) (cP D E sz (zS μ ν a Ad) [] [.ref (Ad 20 i0)]) (cQ D E sz (zS μ ν a Ad) [] (pV (fun u => u = (zS r0.1 ν a Ad, [])))) (0) (0) (Aof (zS μ ν a Ad) [] sz) := by
  intro D E sz
  refine g_of (cc := cX4_endRequest) (maxL := 1) (ret := none) (own := "TradeLine$Order") (by decide) rfl rfl (Nat.le_of_ble_eq_true rfl) ?_
  intro p e s m args below meth c C hr hin hz ha hwr
  refine g_lv (lv' := [(0, .ref (Ad 20 i0))]) [0] rfl ?_
  exact lb_X4_endRequest_0 C hr hz h
noncomputable def b_X5_message_32  (w : Nat) (μ : MP) (ν : NC) (i0 : Nat) : Option (Nat) := some 0
set_option maxHeartbeats 4000000 in
set_option maxRecDepth 100000 in
theorem lb_X5_message_32 {p : Program} {l : Launch} {e : Env} {s : State} {m : MethodId} {args : Array Value} {below : List Frame} {meth : Method} {c : Code} {D : va_G} {E : Nat → ClassId} {sz : Nat} {μ : MP} {ν : NC} {a : AS} {Ad : Nat → Nat → Nat} {i0 : Nat} {w : Nat} {r0 : Nat} (C : cx p s m args meth c D E (Aof (zS μ ν a Ad) [] s.heap.size) cX5_message 2 "TradeLine$Party") (hr : meth.sig.returnType = (some (.object "TradeLine$Message"))) (hz : s.heap.size = sz)   (h : b_X5_message_32  w μ ν i0  = some r0) : G p l e ({ frames := 3, cells := 0, slots := 0, locals := 81 } : Room) s m args below meth c D E (Aof (zS μ ν a Ad) [] s.heap.size) 2 (MQ below (cQ D E sz (zS μ ν a Ad) [] (pQ (fun r u => r = nv (Ad 6) r0 ∧ u = (zS μ ν a Ad, [])))) args s 0 0 (Aof (zS μ ν a Ad) [] s.heap.size)) (zS μ ν a Ad) [] 0 0 32 [(0, .ref (Ad 1 i0))] [] := by
  unfold b_X5_message_32 at h
  refine g_null C dX5_message_32 ?_
  obtain rfl := Option.some.inj h
  exact g_aret C hr (Or.inl ⟨_, rfl⟩) (Or.inl rfl) hz ⟨rfl, rfl, fun _ => rfl, fun _ => rfl⟩ ⟨rfl, rfl⟩ (fun j x h => by simp at h) dX5_message_33
noncomputable def f_X5_message  (w : Nat) (μ : MP) (ν : NC) (i0 : Nat) (x1 : Int32) : Option (Nat) := (if x1 < (1 : Int32) then (b_X5_message_32  w μ ν i0 ) else (bif ltB i0 (ν.2 1) then bif ltB i0 (ν.2 4) then (if (μ.1 4 i0 2) < x1 then (b_X5_message_32  w μ ν i0 ) else ((ls_get μ ν i0 (x1 - (1 : Int32))).bind (fun v3 => bif eqB (eK 5 i0) 6 then bif ltB v3 (ν.2 6) then some (v3 + 1) else none else none))) else none else none))
set_option maxHeartbeats 4000000 in
set_option maxRecDepth 100000 in
theorem lb_X5_message_0 {p : Program} {l : Launch} {e : Env} {s : State} {m : MethodId} {args : Array Value} {below : List Frame} {meth : Method} {c : Code} {D : va_G} {E : Nat → ClassId} {sz : Nat} {μ : MP} {ν : NC} {a : AS} {Ad : Nat → Nat → Nat} {i0 : Nat} {w : Nat} {r0 : Nat} (C : cx p s m args meth c D E (Aof (zS μ ν a Ad) [] s.heap.size) cX5_message 2 "TradeLine$Party") (hr : meth.sig.returnType = (some (.object "TradeLine$Message"))) (hz : s.heap.size = sz) {x1 : Int32}   (h : f_X5_message  w μ ν i0 x1 = some r0) : G p l e ({ frames := 3, cells := 0, slots := 0, locals := 81 } : Room) s m args below meth c D E (Aof (zS μ ν a Ad) [] s.heap.size) 2 (MQ below (cQ D E sz (zS μ ν a Ad) [] (pQ (fun r u => r = nv (Ad 6) r0 ∧ u = (zS μ ν a Ad, [])))) args s 0 0 (Aof (zS μ ν a Ad) [] s.heap.size)) (zS μ ν a Ad) [] 0 0 0 [(0, .ref (Ad 1 i0)), (1, .int x1)] [] := by
  unfold f_X5_message at h
  refine g_iload_n C dX5_message_0 rfl 1 rfl ?_
  refine g_iconst (v := (1 : Int32)) C dX5_message_1 (by decide) ?_
  refine g_icmp_lt (tgt := 32) C dX5_message_2 (by decide) (fun c2 => ?_) (fun c2 => ?_)
  · replace h := (if_pos c2).symm.trans h
    refine g_lv [0] rfl ?_
    exact lb_X5_message_32 C hr hz  h
  · replace h := (if_neg c2).symm.trans h
    refine g_iload_n C dX5_message_5 rfl 1 rfl ?_
    refine g_aload_n C dX5_message_6 rfl 0 rfl ?_
    obtain ⟨g1, h⟩ := of_guard h
    refine g_get (k := 1) (i := i0) (ref := "TradeLine$Party") (v := .ref (Ad 4 i0)) C rfl (lvZ g1 rfl) rfl rfl inGX5 0 (by decide) gw_111 (fun _ h => h) rfl dX5_message_7 ?_
    obtain ⟨g2, h⟩ := of_guard h
    refine g_cVi (n := 0) (exc := []) (exr := []) C [] _ rfl rfl [] [] rfl rfl rfl rfl (fun _ h => absurd h (by simp)) (fun _ h => absurd h (by simp)) (fun _ h => absurd h (by simp)) (fun sz => c_Jx4a65c_size_8abf5 l μ ν a Ad _ g2 D E sz) rfl gw_308 gw_5 gw_539 gw_306 gw_307 ⟨by decide +kernel, by decide +kernel, by decide +kernel⟩ ⟨rfl, rfl⟩ ⟨Nat.le_of_ble_eq_true rfl, Nat.le_of_ble_eq_true rfl⟩ (rcvT (lvZ g2 rfl) rfl rfl rfl) (Nat.le_of_ble_eq_true rfl) dX5_message_10 ⟨by decide, by decide⟩ (fun r u hp hx => ?_)
    obtain ⟨er, rfl⟩ := hp
    rw [er]
    try dsimp only [List.append_nil]
    refine g_icmp_gt (tgt := 32) C dX5_message_13 (by decide) (fun c13 => ?_) (fun c13 => ?_)
    · replace h := (if_pos c13).symm.trans h
      refine g_lv [0] rfl ?_
      exact lb_X5_message_32 C hr hz  h
    · replace h := (if_neg c13).symm.trans h
      refine g_aload_n C dX5_message_16 rfl 0 rfl ?_
      refine g_get (k := 1) (i := i0) (ref := "TradeLine$Party") (v := .ref (Ad 4 i0)) C rfl (lvZ g1 rfl) rfl rfl inGX5 0 (by decide) gw_111 (fun _ h => h) rfl dX5_message_17 ?_
      refine g_iload_n C dX5_message_20 rfl 1 rfl ?_
      refine g_iconst (v := (1 : Int32)) C dX5_message_21 (by decide) ?_
      refine g_isub C dX5_message_22 ?_
      obtain ⟨v3, hv3, h⟩ := bind_of h
      refine g_cVq (n := 1) (exc := []) (exr := []) C [_] _ rfl rfl [] [] rfl rfl rfl rfl (fun _ h => absurd h (by simp)) (fun _ h => absurd h (by simp)) (fun _ h => absurd h (by simp)) (fun sz => c_Jx4a65c_get_915e3 l μ ν a Ad _ _ _ hv3 D E sz) rfl gw_543 gw_5 gw_540 gw_541 gw_542 ⟨by decide +kernel, by decide +kernel, by decide +kernel⟩ ⟨rfl, rfl⟩ ⟨Nat.le_of_ble_eq_true rfl, Nat.le_of_ble_eq_true rfl⟩ (rcvT (lvZ g2 rfl) rfl rfl rfl) (Nat.le_of_ble_eq_true rfl) dX5_message_23 ⟨by decide, by decide⟩ (fun r u hp hx => ?_)
      obtain ⟨er, rfl⟩ := hp
      rw [er]
      try dsimp only [List.append_nil]
      obtain ⟨g4, h⟩ := of_guard h
      rw [eqB_e g4]
      obtain ⟨g5, h⟩ := of_guard h
      refine z_cast (k := 6) (i := v3) C (lvZ g5 rfl) rfl rfl gw_554 dX5_message_26 ?_
      refine g_goto (tgt := 33) C dX5_message_29 (by decide) ?_
      obtain rfl := Option.some.inj h
      exact g_aret C hr (Or.inl ⟨_, rfl⟩) (Or.inr ⟨_, rfl⟩) hz ⟨rfl, rfl, fun _ => rfl, fun _ => rfl⟩ ⟨rfl, rfl⟩ (fun j x h => by simp at h) dX5_message_33
theorem c_X5_message (l : Launch) (μ : MP) (ν : NC) (a : AS) (Ad : Nat → Nat → Nat) (w : Nat) (i0 : Nat) (x1 : Int32) (r0 : Nat) (h : f_X5_message w μ ν i0 x1 = some r0) : ∀ D E sz, Met l yX5_message gwX5_message ({ frames := 3, cells := 0, slots := 0, locals := 81 } : Room) (cP D E sz (zS μ ν a Ad) [] [.ref (Ad 1 i0), .int x1]) (cQ D E sz (zS μ ν a Ad) [] (pQ (fun r u => r = nv (Ad 6) r0 ∧ u = (zS μ ν a Ad, [])))) (0) (0) (Aof (zS μ ν a Ad) [] sz) := by
  intro D E sz
  refine g_of (cc := cX5_message) (maxL := 2) (ret := (some (.object "TradeLine$Message"))) (own := "TradeLine$Party") (by decide) rfl rfl (Nat.le_of_ble_eq_true rfl) ?_
  intro p e s m args below meth c C hr hin hz ha hwr
  refine g_lv (lv' := [(0, .ref (Ad 1 i0)), (1, .int x1)]) [0, 1] rfl ?_
  exact lb_X5_message_0 C hr hz h
noncomputable def f_X5_numberAnew  (w : Nat) (μ : MP) (ν : NC) (i0 : Nat) : Option (MP × Int32) := bif ltB i0 (ν.2 1) then bif ltB i0 (ν.2 4) then (ls_clear μ ν i0).bind (fun v3 => yl (uM v3.1 1 i0 4 (1 : Int32)) (fun m4 => some (m4, (0 : Int32)))) else none else none
set_option maxHeartbeats 4000000 in
set_option maxRecDepth 100000 in
theorem lb_X5_numberAnew_0 {p : Program} {l : Launch} {e : Env} {s : State} {m : MethodId} {args : Array Value} {below : List Frame} {meth : Method} {c : Code} {D : va_G} {E : Nat → ClassId} {sz : Nat} {μ0 : MP} {ν : NC} {a : AS} {Ad : Nat → Nat → Nat} {i0 : Nat} {w : Nat} {r0 : MP × Int32} (C : cx p s m args meth c D E (Aof (zS μ0 ν a Ad) [] s.heap.size) cX5_numberAnew 1 "TradeLine$Party") (hr : meth.sig.returnType = none) (hz : s.heap.size = sz) {μ : MP}   (h : f_X5_numberAnew  w μ ν i0  = some r0) : G p l e ({ frames := 1, cells := 0, slots := 0, locals := 23 } : Room) s m args below meth c D E (Aof (zS μ0 ν a Ad) [] s.heap.size) 1 (MQ below (cQ D E sz (zS μ0 ν a Ad) [] (pV (fun u => u = (zS r0.1 ν a Ad, [])))) args s 0 0 (Aof (zS μ0 ν a Ad) [] s.heap.size)) (zS μ ν a Ad) [] 0 0 0 [(0, .ref (Ad 1 i0))] [] := by
  unfold f_X5_numberAnew at h
  refine g_aload_n C dX5_numberAnew_0 rfl 0 rfl ?_
  obtain ⟨g1, h⟩ := of_guard h
  refine g_get (k := 1) (i := i0) (ref := "TradeLine$Party") (v := .ref (Ad 4 i0)) C rfl (lvZ g1 rfl) rfl rfl inGX5 0 (by decide) gw_111 (fun _ h => h) rfl dX5_numberAnew_1 ?_
  obtain ⟨g2, h⟩ := of_guard h
  obtain ⟨v3, hv3, h⟩ := bind_of h
  refine g_cVv (n := 0) (exc := []) (exr := []) C [] _ rfl rfl [] [] rfl rfl rfl rfl (fun _ h => absurd h (by simp)) (fun _ h => absurd h (by simp)) (fun _ h => absurd h (by simp)) (fun sz => c_Jx4a65c_clear_da8c8 l μ ν a Ad _ _ hv3 D E sz) rfl gw_294 gw_5 gw_291 gw_292 gw_293 ⟨by decide +kernel, by decide +kernel, by decide +kernel⟩ ⟨rfl, rfl⟩ ⟨Nat.le_of_ble_eq_true rfl, Nat.le_of_ble_eq_true rfl⟩ (rcvT (lvZ g2 rfl) rfl rfl rfl) (Nat.le_of_ble_eq_true rfl) dX5_numberAnew_4 ⟨by decide, by decide⟩ (fun u hp hx => ?_)
  obtain rfl := hp
  try dsimp only [List.append_nil]
  refine g_aload_n C dX5_numberAnew_7 rfl 0 rfl ?_
  refine g_iconst (v := (1 : Int32)) C dX5_numberAnew_8 (by decide) ?_
  refine z_put (k := 1) (i := i0) (ref := "TradeLine$Party") C rfl g1 rfl rfl rfl inGX5 tyX5 tyX5_ok nmX5 4 (by decide) gw_119 (fun _ h => h) rfl (tyX5_ok 4 (by decide)) rfl rfl (by simp [fvs]) (by simp [fvs, up1]) dX5_numberAnew_9 (fun m4 em4 => ?_)
  replace h := yl_of h em4
  obtain rfl := Option.some.inj h
  exact g_vret C hr hz ⟨rfl, rfl, fun _ => rfl, fun _ => rfl⟩ rfl (fun j x h => by simp at h) dX5_numberAnew_12
theorem c_X5_numberAnew (l : Launch) (μ : MP) (ν : NC) (a : AS) (Ad : Nat → Nat → Nat) (w : Nat) (i0 : Nat) (r0 : MP × Int32) (h : f_X5_numberAnew w μ ν i0  = some r0) : ∀ D E sz, Met l yX5_numberAnew gwX5_numberAnew ({ frames := 1, cells := 0, slots := 0, locals := 23 } : Room) (cP D E sz (zS μ ν a Ad) [] [.ref (Ad 1 i0)]) (cQ D E sz (zS μ ν a Ad) [] (pV (fun u => u = (zS r0.1 ν a Ad, [])))) (0) (0) (Aof (zS μ ν a Ad) [] sz) := by
  intro D E sz
  refine g_of (cc := cX5_numberAnew) (maxL := 1) (ret := none) (own := "TradeLine$Party") (by decide) rfl rfl (Nat.le_of_ble_eq_true rfl) ?_
  intro p e s m args below meth c C hr hin hz ha hwr
  refine g_lv (lv' := [(0, .ref (Ad 1 i0))]) [0] rfl ?_
  exact lb_X5_numberAnew_0 C hr hz h
