noncomputable def f_X5_leaveLine  (w : Nat) (μ : MP) (ν : NC) (i0 : Nat) : Option (MP × Int32) := bif ltB i0 (ν.2 1) then yl (uM μ 1 i0 3 (0 : Int32)) (fun m2 => yl (uM m2 1 i0 5 (0 : Int32)) (fun m3 => bif ltB i0 (ν.2 2) then (f_X7_clear w m3 ν i0 ).bind (fun v5 => bif ltB i0 (ν.2 3) then (f_X0_clear w v5.1 ν i0 ).bind (fun v7 => some (v7.1, (0 : Int32))) else none) else none)) else none
set_option maxHeartbeats 4000000 in
set_option maxRecDepth 100000 in
theorem lb_X5_leaveLine_0 {p : Program} {l : Launch} {e : Env} {s : State} {m : MethodId} {args : Array Value} {below : List Frame} {meth : Method} {c : Code} {D : va_G} {E : Nat → ClassId} {sz : Nat} {μ0 : MP} {ν : NC} {a : AS} {Ad : Nat → Nat → Nat} {i0 : Nat} {w : Nat} {r0 : MP × Int32} (C : cx p s m args meth c D E (Aof (zS μ0 ν a Ad) [] s.heap.size) cX5_leaveLine 1 "TradeLine$Party") (hr : meth.sig.returnType = none) (hz : s.heap.size = sz) {μ : MP}   (h : f_X5_leaveLine  w μ ν i0  = some r0) : G p l e ({ frames := 2, cells := 0, slots := 0, locals := 43 } : Room) s m args below meth c D E (Aof (zS μ0 ν a Ad) [] s.heap.size) 1 (MQ below (cQ D E sz (zS μ0 ν a Ad) [] (pV (fun u => u = (zS r0.1 ν a Ad, [])))) args s 0 0 (Aof (zS μ0 ν a Ad) [] s.heap.size)) (zS μ ν a Ad) [] 0 0 0 [(0, .ref (Ad 1 i0))] [] := by
  unfold f_X5_leaveLine at h
  refine g_aload_n C dX5_leaveLine_0 rfl 0 rfl ?_
  refine g_iconst (v := (0 : Int32)) C dX5_leaveLine_1 (by decide) ?_
  obtain ⟨g1, h⟩ := of_guard h
  refine z_put (k := 1) (i := i0) (ref := "TradeLine$Party") C rfl g1 rfl rfl rfl inGX5 tyX5 tyX5_ok nmX5 3 (by decide) gw_117 (fun _ h => h) rfl (tyX5_ok 3 (by decide)) rfl rfl (by simp [fvs]) (by simp [fvs, up1]) dX5_leaveLine_2 (fun m2 em2 => ?_)
  replace h := yl_of h em2
  refine g_aload_n C dX5_leaveLine_5 rfl 0 rfl ?_
  refine g_iconst (v := (0 : Int32)) C dX5_leaveLine_6 (by decide) ?_
  refine z_put (k := 1) (i := i0) (ref := "TradeLine$Party") C rfl g1 rfl rfl rfl inGX5 tyX5 tyX5_ok nmX5 5 (by decide) gw_121 (fun _ h => h) rfl (tyX5_ok 5 (by decide)) rfl rfl (by simp [fvs]) (by simp [fvs, up1]) dX5_leaveLine_7 (fun m3 em3 => ?_)
  replace h := yl_of h em3
  refine g_aload_n C dX5_leaveLine_10 rfl 0 rfl ?_
  refine g_get (k := 1) (i := i0) (ref := "TradeLine$Party") (v := .ref (Ad 2 i0)) C rfl (lvZ g1 rfl) rfl rfl inGX5 1 (by decide) gw_113 (fun _ h => h) rfl dX5_leaveLine_11 ?_
  obtain ⟨g4, h⟩ := of_guard h
  obtain ⟨v5, hv5, h⟩ := bind_of h
  refine g_cVv (n := 0) (exc := []) (exr := []) C [] _ rfl rfl [] [] rfl rfl rfl rfl (fun _ h => absurd h (by simp)) (fun _ h => absurd h (by simp)) (fun _ h => absurd h (by simp)) (fun sz => c_X7_clear l m3 ν a Ad w i0  _ hv5 D E sz) rfl gw_442 gw_6 gw_439 gw_440 gw_441 ⟨by decide +kernel, by decide +kernel, by decide +kernel⟩ ⟨rfl, rfl⟩ ⟨Nat.le_of_ble_eq_true rfl, Nat.le_of_ble_eq_true rfl⟩ (rcvT (lvZ g4 rfl) rfl rfl rfl) (Nat.le_of_ble_eq_true rfl) dX5_leaveLine_14 ⟨by decide, by decide⟩ (fun u hp hx => ?_)
  obtain rfl := hp
  try dsimp only [List.append_nil]
  refine g_aload_n C dX5_leaveLine_17 rfl 0 rfl ?_
  refine g_get (k := 1) (i := i0) (ref := "TradeLine$Party") (v := .ref (Ad 3 i0)) C rfl (lvZ g1 rfl) rfl rfl inGX5 2 (by decide) gw_115 (fun _ h => h) rfl dX5_leaveLine_18 ?_
  obtain ⟨g6, h⟩ := of_guard h
  obtain ⟨v7, hv7, h⟩ := bind_of h
  refine g_cVv (n := 0) (exc := []) (exr := []) C [] _ rfl rfl [] [] rfl rfl rfl rfl (fun _ h => absurd h (by simp)) (fun _ h => absurd h (by simp)) (fun _ h => absurd h (by simp)) (fun sz => c_X0_clear l v5.1 ν a Ad w i0  _ hv7 D E sz) rfl gw_446 gw_7 gw_443 gw_444 gw_445 ⟨by decide +kernel, by decide +kernel, by decide +kernel⟩ ⟨rfl, rfl⟩ ⟨Nat.le_of_ble_eq_true rfl, Nat.le_of_ble_eq_true rfl⟩ (rcvT (lvZ g6 rfl) rfl rfl rfl) (Nat.le_of_ble_eq_true rfl) dX5_leaveLine_21 ⟨by decide, by decide⟩ (fun u hp hx => ?_)
  obtain rfl := hp
  try dsimp only [List.append_nil]
  obtain rfl := Option.some.inj h
  exact g_vret C hr hz ⟨rfl, rfl, fun _ => rfl, fun _ => rfl⟩ rfl (fun j x h => by simp at h) dX5_leaveLine_24
theorem c_X5_leaveLine (l : Launch) (μ : MP) (ν : NC) (a : AS) (Ad : Nat → Nat → Nat) (w : Nat) (i0 : Nat) (r0 : MP × Int32) (h : f_X5_leaveLine w μ ν i0  = some r0) : ∀ D E sz, Met l yX5_leaveLine gwX5_leaveLine ({ frames := 2, cells := 0, slots := 0, locals := 43 } : Room) (cP D E sz (zS μ ν a Ad) [] [.ref (Ad 1 i0)]) (cQ D E sz (zS μ ν a Ad) [] (pV (fun u => u = (zS r0.1 ν a Ad, [])))) (0) (0) (Aof (zS μ ν a Ad) [] sz) := by
  intro D E sz
  refine g_of (cc := cX5_leaveLine) (maxL := 1) (ret := none) (own := "TradeLine$Party") (by decide) rfl rfl (Nat.le_of_ble_eq_true rfl) ?_
  intro p e s m args below meth c C hr hin hz ha hwr
  refine g_lv (lv' := [(0, .ref (Ad 1 i0))]) [0] rfl ?_
  exact lb_X5_leaveLine_0 C hr hz h
noncomputable def f_X8_goDown  (w : Nat) (μ : MP) (ν : NC) : Option (MP × Int32) := bif ltB 0 (ν.2 0) then yl (uM μ 0 0 8 (0 : Int32)) (fun m2 => bif ltB 0 (ν.2 1) then (f_X5_leaveLine w m2 ν 0 ).bind (fun v4 => bif ltB 1 (ν.2 1) then (f_X5_leaveLine w v4.1 ν 1 ).bind (fun v6 => some (v6.1, (0 : Int32))) else none) else none) else none
set_option maxHeartbeats 4000000 in
set_option maxRecDepth 100000 in
theorem lb_X8_goDown_0 {p : Program} {l : Launch} {e : Env} {s : State} {m : MethodId} {args : Array Value} {below : List Frame} {meth : Method} {c : Code} {D : va_G} {E : Nat → ClassId} {sz : Nat} {μ0 : MP} {ν : NC} {a : AS} {Ad : Nat → Nat → Nat} {w : Nat} {r0 : MP × Int32} (C : cx p s m args meth c D E (Aof (zS μ0 ν a Ad) [] s.heap.size) cX8_goDown 1 "TradeLine") (hr : meth.sig.returnType = none) (hz : s.heap.size = sz) {μ : MP}   (h : f_X8_goDown  w μ ν  = some r0) : G p l e ({ frames := 3, cells := 0, slots := 0, locals := 63 } : Room) s m args below meth c D E (Aof (zS μ0 ν a Ad) [] s.heap.size) 1 (MQ below (cQ D E sz (zS μ0 ν a Ad) [] (pV (fun u => u = (zS r0.1 ν a Ad, [])))) args s 0 0 (Aof (zS μ0 ν a Ad) [] s.heap.size)) (zS μ ν a Ad) [] 0 0 0 [(0, .ref (Ad 0 0))] [] := by
  unfold f_X8_goDown at h
  refine g_aload_n C dX8_goDown_0 rfl 0 rfl ?_
  refine g_iconst (v := (0 : Int32)) C dX8_goDown_1 (by decide) ?_
  obtain ⟨g1, h⟩ := of_guard h
  refine z_put (k := 0) (i := 0) (ref := "TradeLine") C rfl g1 rfl rfl rfl inGX8 tyX8 tyX8_ok nmX8 8 (by decide) gw_178 (fun _ h => h) rfl (tyX8_ok 8 (by decide)) rfl rfl (by simp [fvs]) (by simp [fvs, up1]) dX8_goDown_2 (fun m2 em2 => ?_)
  replace h := yl_of h em2
  refine g_aload_n C dX8_goDown_5 rfl 0 rfl ?_
  refine g_get (k := 0) (i := 0) (ref := "TradeLine") (v := .ref (Ad 1 0)) C rfl (lvZ g1 rfl) rfl rfl inGX8 0 (by decide) gw_170 (fun _ h => h) rfl dX8_goDown_6 ?_
  obtain ⟨g3, h⟩ := of_guard h
  obtain ⟨v4, hv4, h⟩ := bind_of h
  refine g_cVv (n := 0) (exc := []) (exr := []) C [] _ rfl rfl [] [] rfl rfl rfl rfl (fun _ h => absurd h (by simp)) (fun _ h => absurd h (by simp)) (fun _ h => absurd h (by simp)) (fun sz => c_X5_leaveLine l m2 ν a Ad w 0  _ hv4 D E sz) rfl gw_438 gw_2 gw_435 gw_436 gw_437 ⟨by decide +kernel, by decide +kernel, by decide +kernel⟩ ⟨rfl, rfl⟩ ⟨Nat.le_of_ble_eq_true rfl, Nat.le_of_ble_eq_true rfl⟩ (rcvT (lvZ g3 rfl) rfl rfl rfl) (Nat.le_of_ble_eq_true rfl) dX8_goDown_9 ⟨by decide, by decide⟩ (fun u hp hx => ?_)
  obtain rfl := hp
  try dsimp only [List.append_nil]
  refine g_aload_n C dX8_goDown_12 rfl 0 rfl ?_
  refine g_get (k := 0) (i := 0) (ref := "TradeLine") (v := .ref (Ad 1 1)) C rfl (lvZ g1 rfl) rfl rfl inGX8 1 (by decide) gw_171 (fun _ h => h) rfl dX8_goDown_13 ?_
  obtain ⟨g5, h⟩ := of_guard h
  obtain ⟨v6, hv6, h⟩ := bind_of h
  refine g_cVv (n := 0) (exc := []) (exr := []) C [] _ rfl rfl [] [] rfl rfl rfl rfl (fun _ h => absurd h (by simp)) (fun _ h => absurd h (by simp)) (fun _ h => absurd h (by simp)) (fun sz => c_X5_leaveLine l v4.1 ν a Ad w 1  _ hv6 D E sz) rfl gw_438 gw_2 gw_435 gw_436 gw_437 ⟨by decide +kernel, by decide +kernel, by decide +kernel⟩ ⟨rfl, rfl⟩ ⟨Nat.le_of_ble_eq_true rfl, Nat.le_of_ble_eq_true rfl⟩ (rcvT (lvZ g5 rfl) rfl rfl rfl) (Nat.le_of_ble_eq_true rfl) dX8_goDown_16 ⟨by decide, by decide⟩ (fun u hp hx => ?_)
  obtain rfl := hp
  try dsimp only [List.append_nil]
  obtain rfl := Option.some.inj h
  exact g_vret C hr hz ⟨rfl, rfl, fun _ => rfl, fun _ => rfl⟩ rfl (fun j x h => by simp at h) dX8_goDown_19
theorem c_X8_goDown (l : Launch) (μ : MP) (ν : NC) (a : AS) (Ad : Nat → Nat → Nat) (w : Nat) (r0 : MP × Int32) (h : f_X8_goDown w μ ν  = some r0) : ∀ D E sz, Met l yX8_goDown gwX8_goDown ({ frames := 3, cells := 0, slots := 0, locals := 63 } : Room) (cP D E sz (zS μ ν a Ad) [] [.ref (Ad 0 0)]) (cQ D E sz (zS μ ν a Ad) [] (pV (fun u => u = (zS r0.1 ν a Ad, [])))) (0) (0) (Aof (zS μ ν a Ad) [] sz) := by
  intro D E sz
  refine g_of (cc := cX8_goDown) (maxL := 1) (ret := none) (own := "TradeLine") (by decide) rfl rfl (Nat.le_of_ble_eq_true rfl) ?_
  intro p e s m args below meth c C hr hin hz ha hwr
  refine g_lv (lv' := [(0, .ref (Ad 0 0))]) [0] rfl ?_
  exact lb_X8_goDown_0 C hr hz h
