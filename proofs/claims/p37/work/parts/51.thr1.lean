noncomputable def f_X8_sent  (w : Nat) (μ : MP) (ν : NC) (x1 : Int32) : Option (Nat × (Int32)) := (f_X8_requireSide w μ ν x1).bind (fun v1 => bif eqB v1.1 0 then bif ltB 0 (ν.2 0) then (f_X8_party w μ ν x1).bind (fun v3 => bif nzB v3 then bif ltB (v3 - 1) (ν.2 1) then bif ltB (v3 - 1) (ν.2 4) then some ((0 : Nat), (μ.1 4 (v3 - 1) 2)) else none else none else none) else none else some (v1.1, (0 : Int32)))
set_option maxHeartbeats 4000000 in
set_option maxRecDepth 100000 in
theorem lb_X8_sent_0 {p : Program} {l : Launch} {e : Env} {s : State} {m : MethodId} {args : Array Value} {below : List Frame} {meth : Method} {c : Code} {D : va_G} {E : Nat → ClassId} {sz : Nat} {μ : MP} {ν : NC} {a : AS} {Ad : Nat → Nat → Nat} {w : Nat} {r0 : Int32} (C : cx p s m args meth c D E (Aof (zS μ ν a Ad) [] s.heap.size) cX8_sent 2 "TradeLine") (hr : meth.sig.returnType = (some .int)) (hz : s.heap.size = sz) {x1 : Int32}   (h : f_X8_sent  w μ ν x1 = some (0, r0)) : G p l e ({ frames := 1, cells := 0, slots := 0, locals := 21 } : Room) s m args below meth c D E (Aof (zS μ ν a Ad) [] s.heap.size) 2 (MQ below (cQ D E sz (zS μ ν a Ad) [] (pI (fun r u => r = r0 ∧ u = (zS μ ν a Ad, [])))) args s 0 0 (Aof (zS μ ν a Ad) [] s.heap.size)) (zS μ ν a Ad) [] 0 0 0 [(0, .ref (Ad 0 0)), (1, .int x1)] [] := by
  unfold f_X8_sent at h
  refine g_iload_n C dX8_sent_0 rfl 1 rfl ?_
  obtain ⟨v1, hv1, h⟩ := bind_of h
  obtain ⟨nv1, h⟩ := of_thr h
  refine g_cSv (n := 1) (exc := []) (exr := []) C [_] _ rfl rfl [] [] rfl rfl rfl rfl (fun _ h => absurd h (by simp)) (fun _ h => absurd h (by simp)) (fun _ h => absurd h (by simp)) (fun sz => c_X8_requireSide l μ ν a Ad w x1 _ (thr0 hv1 nv1) D E sz) rfl gw_481 gw_1 gw_479 gw_480 ⟨by decide +kernel, by decide +kernel, by decide +kernel⟩ ⟨rfl, rfl⟩ ⟨Nat.le_of_ble_eq_true rfl, Nat.le_of_ble_eq_true rfl⟩ (Nat.le_of_ble_eq_true rfl) dX8_sent_1 ⟨by decide, by decide⟩ (fun u hp hx => ?_)
  obtain rfl := hp
  try dsimp only [List.append_nil]
  refine g_aload_n C dX8_sent_4 rfl 0 rfl ?_
  refine g_iload_n C dX8_sent_5 rfl 1 rfl ?_
  obtain ⟨g2, h⟩ := of_guard h
  obtain ⟨v3, hv3, h⟩ := bind_of h
  refine g_cVq (n := 1) (exc := []) (exr := []) C [_] _ rfl rfl [] [] rfl rfl rfl rfl (fun _ h => absurd h (by simp)) (fun _ h => absurd h (by simp)) (fun _ h => absurd h (by simp)) (fun sz => c_X8_party l μ ν a Ad w x1 _ hv3 D E sz) rfl gw_304 gw_1 gw_301 gw_303 gs_2 ⟨by decide +kernel, by decide +kernel, by decide +kernel⟩ ⟨rfl, rfl⟩ ⟨Nat.le_of_ble_eq_true rfl, Nat.le_of_ble_eq_true rfl⟩ (rcvT (lvZ g2 rfl) rfl rfl rfl) (Nat.le_of_ble_eq_true rfl) dX8_sent_6 ⟨by decide, by decide⟩ (fun r u hp hx => ?_)
  obtain ⟨er, rfl⟩ := hp
  rw [er]
  try dsimp only [List.append_nil]
  obtain ⟨g4, h⟩ := of_guard h
  rw [nzB_e g4]
  obtain ⟨g5, h⟩ := of_guard h
  refine g_get (k := 1) (i := (v3 - 1)) (ref := "TradeLine$Party") (v := .ref (Ad 4 (v3 - 1))) C rfl (lvZ g5 rfl) rfl rfl inGX5 0 (by decide) gw_112 (fun _ h => h) rfl dX8_sent_9 ?_
  obtain ⟨g6, h⟩ := of_guard h
  refine g_cVi (n := 0) (exc := []) (exr := []) C [] _ rfl rfl [] [] rfl rfl rfl rfl (fun _ h => absurd h (by simp)) (fun _ h => absurd h (by simp)) (fun _ h => absurd h (by simp)) (fun sz => c_Jx4a65c_size_8abf5 l μ ν a Ad _ g6 D E sz) rfl gw_308 gw_5 gw_305 gw_306 gw_307 ⟨by decide +kernel, by decide +kernel, by decide +kernel⟩ ⟨rfl, rfl⟩ ⟨Nat.le_of_ble_eq_true rfl, Nat.le_of_ble_eq_true rfl⟩ (rcvT (lvZ g6 rfl) rfl rfl rfl) (Nat.le_of_ble_eq_true rfl) dX8_sent_12 ⟨by decide, by decide⟩ (fun r u hp hx => ?_)
  obtain ⟨er, rfl⟩ := hp
  rw [er]
  try dsimp only [List.append_nil]
  obtain rfl := congrArg Prod.snd (Option.some.inj h)
  exact g_iret C hr rfl hz ⟨rfl, rfl, fun _ => rfl, fun _ => rfl⟩ ⟨rfl, rfl⟩ (fun j x h => by simp at h) dX8_sent_15
theorem c_X8_sent (l : Launch) (μ : MP) (ν : NC) (a : AS) (Ad : Nat → Nat → Nat) (w : Nat) (x1 : Int32) (r0 : Int32) (h : f_X8_sent w μ ν x1 = some (0, r0)) : ∀ D E sz, Met l yX8_sent gwX8_sent ({ frames := 1, cells := 0, slots := 0, locals := 21 } : Room) (cP D E sz (zS μ ν a Ad) [] [.ref (Ad 0 0), .int x1]) (cQ D E sz (zS μ ν a Ad) [] (pI (fun r u => r = r0 ∧ u = (zS μ ν a Ad, [])))) (0) (0) (Aof (zS μ ν a Ad) [] sz) := by
  intro D E sz
  refine g_of (cc := cX8_sent) (maxL := 2) (ret := (some .int)) (own := "TradeLine") (by decide) rfl rfl (Nat.le_of_ble_eq_true rfl) ?_
  intro p e s m args below meth c C hr hin hz ha hwr
  refine g_lv (lv' := [(0, .ref (Ad 0 0)), (1, .int x1)]) [0, 1] rfl ?_
  exact lb_X8_sent_0 C hr hz h
set_option maxHeartbeats 4000000 in
set_option maxRecDepth 100000 in
theorem lx_X8_sent_0 {p : Program} {l : Launch} {e : Env} {s : State} {m : MethodId} {args : Array Value} {below : List Frame} {meth : Method} {c : Code} {D : va_G} {E : Nat → ClassId} {sz : Nat} {μ : MP} {ν : NC} {a : AS} {Ad : Nat → Nat → Nat} {w nx : Nat} {B : Nat × (Nat → Nat)} {r0 : Int32} (C : cx p s m args meth c D E (Aof (zS μ ν a Ad) [] s.heap.size) cX8_sent 2 "TradeLine") (hEv : eV (Ad 30 0) (Ad 31 0) B (Aof (zS μ ν a Ad) [] s.heap.size) s s.heap) (hl : l.stackTraces = false) (hT : ∀ x ∈ c.exceptionTable.toList, False) (hz : s.heap.size = sz) {x1 : Int32}   (h : f_X8_sent  w μ ν x1 = some (nx + 1, r0)) : G p l e ({ frames := 7, cells := 1, slots := 6, locals := 120 } : Room) s m args below meth c D E (Aof (zS μ ν a Ad) [] s.heap.size) 2 (vx_MQ below (fun _ _ _ _ => False) (cX D E sz (zS μ ν a Ad) (nx + 1)) args s 1 6 (Aof (zS μ ν a Ad) [] s.heap.size)) (zS μ ν a Ad) [] 0 0 0 [(0, .ref (Ad 0 0)), (1, .int x1)] [] := by
  unfold f_X8_sent at h
  refine g_iload_n C dX8_sent_0 rfl 1 rfl ?_
  obtain ⟨v1, hv1, h⟩ := bind_of h
  rcases of_thx h with ⟨nv1, h⟩ | nv1
  · refine g_cSv (n := 1) (exc := []) (exr := []) C [_] _ rfl rfl [] [] rfl rfl rfl rfl (fun _ h => absurd h (by simp)) (fun _ h => absurd h (by simp)) (fun _ h => absurd h (by simp)) (fun sz => c_X8_requireSide l μ ν a Ad w x1 _ (thr0 hv1 nv1) D E sz) rfl gw_481 gw_1 gw_479 gw_480 ⟨by decide +kernel, by decide +kernel, by decide +kernel⟩ ⟨rfl, rfl⟩ ⟨Nat.le_of_ble_eq_true rfl, Nat.le_of_ble_eq_true rfl⟩ (Nat.le_of_ble_eq_true rfl) dX8_sent_1 ⟨by decide, by decide⟩ (fun u hp hx => ?_)
    obtain rfl := hp
    try dsimp only [List.append_nil]
    refine g_aload_n C dX8_sent_4 rfl 0 rfl ?_
    refine g_iload_n C dX8_sent_5 rfl 1 rfl ?_
    obtain ⟨g2, h⟩ := of_guard h
    obtain ⟨v3, hv3, h⟩ := bind_of h
    refine g_cVq (n := 1) (exc := []) (exr := []) C [_] _ rfl rfl [] [] rfl rfl rfl rfl (fun _ h => absurd h (by simp)) (fun _ h => absurd h (by simp)) (fun _ h => absurd h (by simp)) (fun sz => c_X8_party l μ ν a Ad w x1 _ hv3 D E sz) rfl gw_304 gw_1 gw_301 gw_303 gs_2 ⟨by decide +kernel, by decide +kernel, by decide +kernel⟩ ⟨rfl, rfl⟩ ⟨Nat.le_of_ble_eq_true rfl, Nat.le_of_ble_eq_true rfl⟩ (rcvT (lvZ g2 rfl) rfl rfl rfl) (Nat.le_of_ble_eq_true rfl) dX8_sent_6 ⟨by decide, by decide⟩ (fun r u hp hx => ?_)
    obtain ⟨er, rfl⟩ := hp
    rw [er]
    try dsimp only [List.append_nil]
    obtain ⟨g4, h⟩ := of_guard h
    rw [nzB_e g4]
    obtain ⟨g5, h⟩ := of_guard h
    refine g_get (k := 1) (i := (v3 - 1)) (ref := "TradeLine$Party") (v := .ref (Ad 4 (v3 - 1))) C rfl (lvZ g5 rfl) rfl rfl inGX5 0 (by decide) gw_112 (fun _ h => h) rfl dX8_sent_9 ?_
    obtain ⟨g6, h⟩ := of_guard h
    refine g_cVi (n := 0) (exc := []) (exr := []) C [] _ rfl rfl [] [] rfl rfl rfl rfl (fun _ h => absurd h (by simp)) (fun _ h => absurd h (by simp)) (fun _ h => absurd h (by simp)) (fun sz => c_Jx4a65c_size_8abf5 l μ ν a Ad _ g6 D E sz) rfl gw_308 gw_5 gw_305 gw_306 gw_307 ⟨by decide +kernel, by decide +kernel, by decide +kernel⟩ ⟨rfl, rfl⟩ ⟨Nat.le_of_ble_eq_true rfl, Nat.le_of_ble_eq_true rfl⟩ (rcvT (lvZ g6 rfl) rfl rfl rfl) (Nat.le_of_ble_eq_true rfl) dX8_sent_12 ⟨by decide, by decide⟩ (fun r u hp hx => ?_)
    obtain ⟨er, rfl⟩ := hp
    rw [er]
    try dsimp only [List.append_nil]
    exact absurd (congrArg Prod.fst (Option.some.inj h)) (by simp)
  · exact g_xS (index := 1) C hEv ⟨rfl, rfl⟩ hT hz [_] _ rfl rfl (fun sz => x_X8_requireSide l hl B μ ν a Ad w x1 _ _ (thrS hv1 nv1) D E sz) rfl gw_481 gw_1 gw_479 gw_480 ⟨by decide +kernel, by decide +kernel, by decide +kernel⟩ ⟨rfl, rfl⟩ ⟨Nat.le_of_ble_eq_true rfl, Nat.le_of_ble_eq_true rfl⟩ (Nat.le_of_ble_eq_true rfl) dX8_sent_1 ⟨by decide, by decide⟩
theorem x_X8_sent (l : Launch) (hl : l.stackTraces = false) (B : Nat × (Nat → Nat)) (μ : MP) (ν : NC) (a : AS) (Ad : Nat → Nat → Nat) (w : Nat) (x1 : Int32) (nx : Nat) (r0 : Int32) (h : f_X8_sent w μ ν x1 = some (nx + 1, r0)) : ∀ D E sz, vx_Met l yX8_sent gwX8_sent ({ frames := 7, cells := 1, slots := 6, locals := 120 } : Room) (cPe D E sz B (zS μ ν a Ad) [] [] [.ref (Ad 0 0), .int x1]) (fun _ _ _ _ => False) (cX D E sz (zS μ ν a Ad) (nx + 1)) 1 6 (Aof (zS μ ν a Ad) [] sz) := by
  intro D E sz
  refine g_ofx (cc := cX8_sent) (maxL := 2) (ret := (some .int)) (own := "TradeLine") (by decide) rfl rfl (Nat.le_of_ble_eq_true rfl) ?_
  intro p e s m args below meth c C hT hz ha hEv
  refine g_lv (lv' := [(0, .ref (Ad 0 0)), (1, .int x1)]) [0, 1] rfl ?_
  exact lx_X8_sent_0 C hEv hl hT hz h
noncomputable def f_X8_expected  (w : Nat) (μ : MP) (ν : NC) (x1 : Int32) : Option (Nat × (Int32)) := (f_X8_requireSide w μ ν x1).bind (fun v1 => bif eqB v1.1 0 then bif ltB 0 (ν.2 0) then (f_X8_party w μ ν x1).bind (fun v3 => bif nzB v3 then bif ltB (v3 - 1) (ν.2 1) then some ((0 : Nat), (μ.1 1 (v3 - 1) 4)) else none else none) else none else some (v1.1, (0 : Int32)))
set_option maxHeartbeats 4000000 in
set_option maxRecDepth 100000 in
theorem lb_X8_expected_0 {p : Program} {l : Launch} {e : Env} {s : State} {m : MethodId} {args : Array Value} {below : List Frame} {meth : Method} {c : Code} {D : va_G} {E : Nat → ClassId} {sz : Nat} {μ : MP} {ν : NC} {a : AS} {Ad : Nat → Nat → Nat} {w : Nat} {r0 : Int32} (C : cx p s m args meth c D E (Aof (zS μ ν a Ad) [] s.heap.size) cX8_expected 2 "TradeLine") (hr : meth.sig.returnType = (some .int)) (hz : s.heap.size = sz) {x1 : Int32}   (h : f_X8_expected  w μ ν x1 = some (0, r0)) : G p l e ({ frames := 1, cells := 0, slots := 0, locals := 21 } : Room) s m args below meth c D E (Aof (zS μ ν a Ad) [] s.heap.size) 2 (MQ below (cQ D E sz (zS μ ν a Ad) [] (pI (fun r u => r = r0 ∧ u = (zS μ ν a Ad, [])))) args s 0 0 (Aof (zS μ ν a Ad) [] s.heap.size)) (zS μ ν a Ad) [] 0 0 0 [(0, .ref (Ad 0 0)), (1, .int x1)] [] := by
  unfold f_X8_expected at h
  refine g_iload_n C dX8_expected_0 rfl 1 rfl ?_
  obtain ⟨v1, hv1, h⟩ := bind_of h
  obtain ⟨nv1, h⟩ := of_thr h
  refine g_cSv (n := 1) (exc := []) (exr := []) C [_] _ rfl rfl [] [] rfl rfl rfl rfl (fun _ h => absurd h (by simp)) (fun _ h => absurd h (by simp)) (fun _ h => absurd h (by simp)) (fun sz => c_X8_requireSide l μ ν a Ad w x1 _ (thr0 hv1 nv1) D E sz) rfl gw_481 gw_1 gw_479 gw_480 ⟨by decide +kernel, by decide +kernel, by decide +kernel⟩ ⟨rfl, rfl⟩ ⟨Nat.le_of_ble_eq_true rfl, Nat.le_of_ble_eq_true rfl⟩ (Nat.le_of_ble_eq_true rfl) dX8_expected_1 ⟨by decide, by decide⟩ (fun u hp hx => ?_)
  obtain rfl := hp
  try dsimp only [List.append_nil]
  refine g_aload_n C dX8_expected_4 rfl 0 rfl ?_
  refine g_iload_n C dX8_expected_5 rfl 1 rfl ?_
  obtain ⟨g2, h⟩ := of_guard h
  obtain ⟨v3, hv3, h⟩ := bind_of h
  refine g_cVq (n := 1) (exc := []) (exr := []) C [_] _ rfl rfl [] [] rfl rfl rfl rfl (fun _ h => absurd h (by simp)) (fun _ h => absurd h (by simp)) (fun _ h => absurd h (by simp)) (fun sz => c_X8_party l μ ν a Ad w x1 _ hv3 D E sz) rfl gw_304 gw_1 gw_301 gw_303 gs_2 ⟨by decide +kernel, by decide +kernel, by decide +kernel⟩ ⟨rfl, rfl⟩ ⟨Nat.le_of_ble_eq_true rfl, Nat.le_of_ble_eq_true rfl⟩ (rcvT (lvZ g2 rfl) rfl rfl rfl) (Nat.le_of_ble_eq_true rfl) dX8_expected_6 ⟨by decide, by decide⟩ (fun r u hp hx => ?_)
  obtain ⟨er, rfl⟩ := hp
  rw [er]
  try dsimp only [List.append_nil]
  obtain ⟨g4, h⟩ := of_guard h
  rw [nzB_e g4]
  obtain ⟨g5, h⟩ := of_guard h
  refine g_get (k := 1) (i := (v3 - 1)) (ref := "TradeLine$Party") (v := .int (μ.1 1 (v3 - 1) 4)) C rfl (lvZ g5 rfl) rfl rfl inGX5 4 (by decide) gw_120 (fun _ h => h) rfl dX8_expected_9 ?_
  obtain rfl := congrArg Prod.snd (Option.some.inj h)
  exact g_iret C hr rfl hz ⟨rfl, rfl, fun _ => rfl, fun _ => rfl⟩ ⟨rfl, rfl⟩ (fun j x h => by simp at h) dX8_expected_12
theorem c_X8_expected (l : Launch) (μ : MP) (ν : NC) (a : AS) (Ad : Nat → Nat → Nat) (w : Nat) (x1 : Int32) (r0 : Int32) (h : f_X8_expected w μ ν x1 = some (0, r0)) : ∀ D E sz, Met l yX8_expected gwX8_expected ({ frames := 1, cells := 0, slots := 0, locals := 21 } : Room) (cP D E sz (zS μ ν a Ad) [] [.ref (Ad 0 0), .int x1]) (cQ D E sz (zS μ ν a Ad) [] (pI (fun r u => r = r0 ∧ u = (zS μ ν a Ad, [])))) (0) (0) (Aof (zS μ ν a Ad) [] sz) := by
  intro D E sz
  refine g_of (cc := cX8_expected) (maxL := 2) (ret := (some .int)) (own := "TradeLine") (by decide) rfl rfl (Nat.le_of_ble_eq_true rfl) ?_
  intro p e s m args below meth c C hr hin hz ha hwr
  refine g_lv (lv' := [(0, .ref (Ad 0 0)), (1, .int x1)]) [0, 1] rfl ?_
  exact lb_X8_expected_0 C hr hz h
set_option maxHeartbeats 4000000 in
set_option maxRecDepth 100000 in
theorem lx_X8_expected_0 {p : Program} {l : Launch} {e : Env} {s : State} {m : MethodId} {args : Array Value} {below : List Frame} {meth : Method} {c : Code} {D : va_G} {E : Nat → ClassId} {sz : Nat} {μ : MP} {ν : NC} {a : AS} {Ad : Nat → Nat → Nat} {w nx : Nat} {B : Nat × (Nat → Nat)} {r0 : Int32} (C : cx p s m args meth c D E (Aof (zS μ ν a Ad) [] s.heap.size) cX8_expected 2 "TradeLine") (hEv : eV (Ad 30 0) (Ad 31 0) B (Aof (zS μ ν a Ad) [] s.heap.size) s s.heap) (hl : l.stackTraces = false) (hT : ∀ x ∈ c.exceptionTable.toList, False) (hz : s.heap.size = sz) {x1 : Int32}   (h : f_X8_expected  w μ ν x1 = some (nx + 1, r0)) : G p l e ({ frames := 7, cells := 1, slots := 6, locals := 120 } : Room) s m args below meth c D E (Aof (zS μ ν a Ad) [] s.heap.size) 2 (vx_MQ below (fun _ _ _ _ => False) (cX D E sz (zS μ ν a Ad) (nx + 1)) args s 1 6 (Aof (zS μ ν a Ad) [] s.heap.size)) (zS μ ν a Ad) [] 0 0 0 [(0, .ref (Ad 0 0)), (1, .int x1)] [] := by
  unfold f_X8_expected at h
  refine g_iload_n C dX8_expected_0 rfl 1 rfl ?_
  obtain ⟨v1, hv1, h⟩ := bind_of h
  rcases of_thx h with ⟨nv1, h⟩ | nv1
  · refine g_cSv (n := 1) (exc := []) (exr := []) C [_] _ rfl rfl [] [] rfl rfl rfl rfl (fun _ h => absurd h (by simp)) (fun _ h => absurd h (by simp)) (fun _ h => absurd h (by simp)) (fun sz => c_X8_requireSide l μ ν a Ad w x1 _ (thr0 hv1 nv1) D E sz) rfl gw_481 gw_1 gw_479 gw_480 ⟨by decide +kernel, by decide +kernel, by decide +kernel⟩ ⟨rfl, rfl⟩ ⟨Nat.le_of_ble_eq_true rfl, Nat.le_of_ble_eq_true rfl⟩ (Nat.le_of_ble_eq_true rfl) dX8_expected_1 ⟨by decide, by decide⟩ (fun u hp hx => ?_)
    obtain rfl := hp
    try dsimp only [List.append_nil]
    refine g_aload_n C dX8_expected_4 rfl 0 rfl ?_
    refine g_iload_n C dX8_expected_5 rfl 1 rfl ?_
    obtain ⟨g2, h⟩ := of_guard h
    obtain ⟨v3, hv3, h⟩ := bind_of h
    refine g_cVq (n := 1) (exc := []) (exr := []) C [_] _ rfl rfl [] [] rfl rfl rfl rfl (fun _ h => absurd h (by simp)) (fun _ h => absurd h (by simp)) (fun _ h => absurd h (by simp)) (fun sz => c_X8_party l μ ν a Ad w x1 _ hv3 D E sz) rfl gw_304 gw_1 gw_301 gw_303 gs_2 ⟨by decide +kernel, by decide +kernel, by decide +kernel⟩ ⟨rfl, rfl⟩ ⟨Nat.le_of_ble_eq_true rfl, Nat.le_of_ble_eq_true rfl⟩ (rcvT (lvZ g2 rfl) rfl rfl rfl) (Nat.le_of_ble_eq_true rfl) dX8_expected_6 ⟨by decide, by decide⟩ (fun r u hp hx => ?_)
    obtain ⟨er, rfl⟩ := hp
    rw [er]
    try dsimp only [List.append_nil]
    obtain ⟨g4, h⟩ := of_guard h
    rw [nzB_e g4]
    obtain ⟨g5, h⟩ := of_guard h
    refine g_get (k := 1) (i := (v3 - 1)) (ref := "TradeLine$Party") (v := .int (μ.1 1 (v3 - 1) 4)) C rfl (lvZ g5 rfl) rfl rfl inGX5 4 (by decide) gw_120 (fun _ h => h) rfl dX8_expected_9 ?_
    exact absurd (congrArg Prod.fst (Option.some.inj h)) (by simp)
  · exact g_xS (index := 1) C hEv ⟨rfl, rfl⟩ hT hz [_] _ rfl rfl (fun sz => x_X8_requireSide l hl B μ ν a Ad w x1 _ _ (thrS hv1 nv1) D E sz) rfl gw_481 gw_1 gw_479 gw_480 ⟨by decide +kernel, by decide +kernel, by decide +kernel⟩ ⟨rfl, rfl⟩ ⟨Nat.le_of_ble_eq_true rfl, Nat.le_of_ble_eq_true rfl⟩ (Nat.le_of_ble_eq_true rfl) dX8_expected_1 ⟨by decide, by decide⟩
theorem x_X8_expected (l : Launch) (hl : l.stackTraces = false) (B : Nat × (Nat → Nat)) (μ : MP) (ν : NC) (a : AS) (Ad : Nat → Nat → Nat) (w : Nat) (x1 : Int32) (nx : Nat) (r0 : Int32) (h : f_X8_expected w μ ν x1 = some (nx + 1, r0)) : ∀ D E sz, vx_Met l yX8_expected gwX8_expected ({ frames := 7, cells := 1, slots := 6, locals := 120 } : Room) (cPe D E sz B (zS μ ν a Ad) [] [] [.ref (Ad 0 0), .int x1]) (fun _ _ _ _ => False) (cX D E sz (zS μ ν a Ad) (nx + 1)) 1 6 (Aof (zS μ ν a Ad) [] sz) := by
  intro D E sz
  refine g_ofx (cc := cX8_expected) (maxL := 2) (ret := (some .int)) (own := "TradeLine") (by decide) rfl rfl (Nat.le_of_ble_eq_true rfl) ?_
  intro p e s m args below meth c C hT hz ha hEv
  refine g_lv (lv' := [(0, .ref (Ad 0 0)), (1, .int x1)]) [0, 1] rfl ?_
  exact lx_X8_expected_0 C hEv hl hT hz h
noncomputable def f_X8_held  (w : Nat) (μ : MP) (ν : NC) (x1 : Int32) : Option (Nat × (Int32)) := (f_X8_requireSide w μ ν x1).bind (fun v1 => bif eqB v1.1 0 then bif ltB 0 (ν.2 0) then (f_X8_party w μ ν x1).bind (fun v3 => bif nzB v3 then bif ltB (v3 - 1) (ν.2 1) then bif ltB (v3 - 1) (ν.2 3) then some ((0 : Nat), (μ.1 3 (v3 - 1) 1)) else none else none else none) else none else some (v1.1, (0 : Int32)))
set_option maxHeartbeats 4000000 in
set_option maxRecDepth 100000 in
theorem lb_X8_held_0 {p : Program} {l : Launch} {e : Env} {s : State} {m : MethodId} {args : Array Value} {below : List Frame} {meth : Method} {c : Code} {D : va_G} {E : Nat → ClassId} {sz : Nat} {μ : MP} {ν : NC} {a : AS} {Ad : Nat → Nat → Nat} {w : Nat} {r0 : Int32} (C : cx p s m args meth c D E (Aof (zS μ ν a Ad) [] s.heap.size) cX8_held 2 "TradeLine") (hr : meth.sig.returnType = (some .int)) (hz : s.heap.size = sz) {x1 : Int32}   (h : f_X8_held  w μ ν x1 = some (0, r0)) : G p l e ({ frames := 1, cells := 0, slots := 0, locals := 21 } : Room) s m args below meth c D E (Aof (zS μ ν a Ad) [] s.heap.size) 2 (MQ below (cQ D E sz (zS μ ν a Ad) [] (pI (fun r u => r = r0 ∧ u = (zS μ ν a Ad, [])))) args s 0 0 (Aof (zS μ ν a Ad) [] s.heap.size)) (zS μ ν a Ad) [] 0 0 0 [(0, .ref (Ad 0 0)), (1, .int x1)] [] := by
  unfold f_X8_held at h
  refine g_iload_n C dX8_held_0 rfl 1 rfl ?_
  obtain ⟨v1, hv1, h⟩ := bind_of h
  obtain ⟨nv1, h⟩ := of_thr h
  refine g_cSv (n := 1) (exc := []) (exr := []) C [_] _ rfl rfl [] [] rfl rfl rfl rfl (fun _ h => absurd h (by simp)) (fun _ h => absurd h (by simp)) (fun _ h => absurd h (by simp)) (fun sz => c_X8_requireSide l μ ν a Ad w x1 _ (thr0 hv1 nv1) D E sz) rfl gw_481 gw_1 gw_479 gw_480 ⟨by decide +kernel, by decide +kernel, by decide +kernel⟩ ⟨rfl, rfl⟩ ⟨Nat.le_of_ble_eq_true rfl, Nat.le_of_ble_eq_true rfl⟩ (Nat.le_of_ble_eq_true rfl) dX8_held_1 ⟨by decide, by decide⟩ (fun u hp hx => ?_)
  obtain rfl := hp
  try dsimp only [List.append_nil]
  refine g_aload_n C dX8_held_4 rfl 0 rfl ?_
  refine g_iload_n C dX8_held_5 rfl 1 rfl ?_
  obtain ⟨g2, h⟩ := of_guard h
  obtain ⟨v3, hv3, h⟩ := bind_of h
  refine g_cVq (n := 1) (exc := []) (exr := []) C [_] _ rfl rfl [] [] rfl rfl rfl rfl (fun _ h => absurd h (by simp)) (fun _ h => absurd h (by simp)) (fun _ h => absurd h (by simp)) (fun sz => c_X8_party l μ ν a Ad w x1 _ hv3 D E sz) rfl gw_304 gw_1 gw_301 gw_303 gs_2 ⟨by decide +kernel, by decide +kernel, by decide +kernel⟩ ⟨rfl, rfl⟩ ⟨Nat.le_of_ble_eq_true rfl, Nat.le_of_ble_eq_true rfl⟩ (rcvT (lvZ g2 rfl) rfl rfl rfl) (Nat.le_of_ble_eq_true rfl) dX8_held_6 ⟨by decide, by decide⟩ (fun r u hp hx => ?_)
  obtain ⟨er, rfl⟩ := hp
  rw [er]
  try dsimp only [List.append_nil]
  obtain ⟨g4, h⟩ := of_guard h
  rw [nzB_e g4]
  obtain ⟨g5, h⟩ := of_guard h
  refine g_get (k := 1) (i := (v3 - 1)) (ref := "TradeLine$Party") (v := .ref (Ad 3 (v3 - 1))) C rfl (lvZ g5 rfl) rfl rfl inGX5 2 (by decide) gw_116 (fun _ h => h) rfl dX8_held_9 ?_
  obtain ⟨g6, h⟩ := of_guard h
  refine g_get (k := 3) (i := (v3 - 1)) (ref := "TradeLine$Back") (v := .int (μ.1 3 (v3 - 1) 1)) C rfl (lvZ g6 rfl) rfl rfl inGX0 1 (by decide) gw_105 (fun _ h => h) rfl dX8_held_12 ?_
  obtain rfl := congrArg Prod.snd (Option.some.inj h)
  exact g_iret C hr rfl hz ⟨rfl, rfl, fun _ => rfl, fun _ => rfl⟩ ⟨rfl, rfl⟩ (fun j x h => by simp at h) dX8_held_15
theorem c_X8_held (l : Launch) (μ : MP) (ν : NC) (a : AS) (Ad : Nat → Nat → Nat) (w : Nat) (x1 : Int32) (r0 : Int32) (h : f_X8_held w μ ν x1 = some (0, r0)) : ∀ D E sz, Met l yX8_held gwX8_held ({ frames := 1, cells := 0, slots := 0, locals := 21 } : Room) (cP D E sz (zS μ ν a Ad) [] [.ref (Ad 0 0), .int x1]) (cQ D E sz (zS μ ν a Ad) [] (pI (fun r u => r = r0 ∧ u = (zS μ ν a Ad, [])))) (0) (0) (Aof (zS μ ν a Ad) [] sz) := by
  intro D E sz
  refine g_of (cc := cX8_held) (maxL := 2) (ret := (some .int)) (own := "TradeLine") (by decide) rfl rfl (Nat.le_of_ble_eq_true rfl) ?_
  intro p e s m args below meth c C hr hin hz ha hwr
  refine g_lv (lv' := [(0, .ref (Ad 0 0)), (1, .int x1)]) [0, 1] rfl ?_
  exact lb_X8_held_0 C hr hz h
set_option maxHeartbeats 4000000 in
set_option maxRecDepth 100000 in
theorem lx_X8_held_0 {p : Program} {l : Launch} {e : Env} {s : State} {m : MethodId} {args : Array Value} {below : List Frame} {meth : Method} {c : Code} {D : va_G} {E : Nat → ClassId} {sz : Nat} {μ : MP} {ν : NC} {a : AS} {Ad : Nat → Nat → Nat} {w nx : Nat} {B : Nat × (Nat → Nat)} {r0 : Int32} (C : cx p s m args meth c D E (Aof (zS μ ν a Ad) [] s.heap.size) cX8_held 2 "TradeLine") (hEv : eV (Ad 30 0) (Ad 31 0) B (Aof (zS μ ν a Ad) [] s.heap.size) s s.heap) (hl : l.stackTraces = false) (hT : ∀ x ∈ c.exceptionTable.toList, False) (hz : s.heap.size = sz) {x1 : Int32}   (h : f_X8_held  w μ ν x1 = some (nx + 1, r0)) : G p l e ({ frames := 7, cells := 1, slots := 6, locals := 120 } : Room) s m args below meth c D E (Aof (zS μ ν a Ad) [] s.heap.size) 2 (vx_MQ below (fun _ _ _ _ => False) (cX D E sz (zS μ ν a Ad) (nx + 1)) args s 1 6 (Aof (zS μ ν a Ad) [] s.heap.size)) (zS μ ν a Ad) [] 0 0 0 [(0, .ref (Ad 0 0)), (1, .int x1)] [] := by
  unfold f_X8_held at h
  refine g_iload_n C dX8_held_0 rfl 1 rfl ?_
  obtain ⟨v1, hv1, h⟩ := bind_of h
  rcases of_thx h with ⟨nv1, h⟩ | nv1
  · refine g_cSv (n := 1) (exc := []) (exr := []) C [_] _ rfl rfl [] [] rfl rfl rfl rfl (fun _ h => absurd h (by simp)) (fun _ h => absurd h (by simp)) (fun _ h => absurd h (by simp)) (fun sz => c_X8_requireSide l μ ν a Ad w x1 _ (thr0 hv1 nv1) D E sz) rfl gw_481 gw_1 gw_479 gw_480 ⟨by decide +kernel, by decide +kernel, by decide +kernel⟩ ⟨rfl, rfl⟩ ⟨Nat.le_of_ble_eq_true rfl, Nat.le_of_ble_eq_true rfl⟩ (Nat.le_of_ble_eq_true rfl) dX8_held_1 ⟨by decide, by decide⟩ (fun u hp hx => ?_)
    obtain rfl := hp
    try dsimp only [List.append_nil]
    refine g_aload_n C dX8_held_4 rfl 0 rfl ?_
    refine g_iload_n C dX8_held_5 rfl 1 rfl ?_
    obtain ⟨g2, h⟩ := of_guard h
    obtain ⟨v3, hv3, h⟩ := bind_of h
    refine g_cVq (n := 1) (exc := []) (exr := []) C [_] _ rfl rfl [] [] rfl rfl rfl rfl (fun _ h => absurd h (by simp)) (fun _ h => absurd h (by simp)) (fun _ h => absurd h (by simp)) (fun sz => c_X8_party l μ ν a Ad w x1 _ hv3 D E sz) rfl gw_304 gw_1 gw_301 gw_303 gs_2 ⟨by decide +kernel, by decide +kernel, by decide +kernel⟩ ⟨rfl, rfl⟩ ⟨Nat.le_of_ble_eq_true rfl, Nat.le_of_ble_eq_true rfl⟩ (rcvT (lvZ g2 rfl) rfl rfl rfl) (Nat.le_of_ble_eq_true rfl) dX8_held_6 ⟨by decide, by decide⟩ (fun r u hp hx => ?_)
    obtain ⟨er, rfl⟩ := hp
    rw [er]
    try dsimp only [List.append_nil]
    obtain ⟨g4, h⟩ := of_guard h
    rw [nzB_e g4]
    obtain ⟨g5, h⟩ := of_guard h
    refine g_get (k := 1) (i := (v3 - 1)) (ref := "TradeLine$Party") (v := .ref (Ad 3 (v3 - 1))) C rfl (lvZ g5 rfl) rfl rfl inGX5 2 (by decide) gw_116 (fun _ h => h) rfl dX8_held_9 ?_
    obtain ⟨g6, h⟩ := of_guard h
    refine g_get (k := 3) (i := (v3 - 1)) (ref := "TradeLine$Back") (v := .int (μ.1 3 (v3 - 1) 1)) C rfl (lvZ g6 rfl) rfl rfl inGX0 1 (by decide) gw_105 (fun _ h => h) rfl dX8_held_12 ?_
    exact absurd (congrArg Prod.fst (Option.some.inj h)) (by simp)
  · exact g_xS (index := 1) C hEv ⟨rfl, rfl⟩ hT hz [_] _ rfl rfl (fun sz => x_X8_requireSide l hl B μ ν a Ad w x1 _ _ (thrS hv1 nv1) D E sz) rfl gw_481 gw_1 gw_479 gw_480 ⟨by decide +kernel, by decide +kernel, by decide +kernel⟩ ⟨rfl, rfl⟩ ⟨Nat.le_of_ble_eq_true rfl, Nat.le_of_ble_eq_true rfl⟩ (Nat.le_of_ble_eq_true rfl) dX8_held_1 ⟨by decide, by decide⟩
theorem x_X8_held (l : Launch) (hl : l.stackTraces = false) (B : Nat × (Nat → Nat)) (μ : MP) (ν : NC) (a : AS) (Ad : Nat → Nat → Nat) (w : Nat) (x1 : Int32) (nx : Nat) (r0 : Int32) (h : f_X8_held w μ ν x1 = some (nx + 1, r0)) : ∀ D E sz, vx_Met l yX8_held gwX8_held ({ frames := 7, cells := 1, slots := 6, locals := 120 } : Room) (cPe D E sz B (zS μ ν a Ad) [] [] [.ref (Ad 0 0), .int x1]) (fun _ _ _ _ => False) (cX D E sz (zS μ ν a Ad) (nx + 1)) 1 6 (Aof (zS μ ν a Ad) [] sz) := by
  intro D E sz
  refine g_ofx (cc := cX8_held) (maxL := 2) (ret := (some .int)) (own := "TradeLine") (by decide) rfl rfl (Nat.le_of_ble_eq_true rfl) ?_
  intro p e s m args below meth c C hT hz ha hEv
  refine g_lv (lv' := [(0, .ref (Ad 0 0)), (1, .int x1)]) [0, 1] rfl ?_
  exact lx_X8_held_0 C hEv hl hT hz h
noncomputable def f_X8_fields  (w : Nat) (μ : MP) (ν : NC) (x1 : Int32) (x2 : Int32) : Option (Nat × (Int32)) := bif ltB 0 (ν.2 0) then (f_X8_requireMessage w μ ν x1 x2).bind (fun v2 => bif eqB v2.1 0 then bif nzB v2.2 then bif ltB (v2.2 - 1) (ν.2 6) then (f_X3_fieldCount w μ ν (v2.2 - 1) ).bind (fun v5 => some ((0 : Nat), v5)) else none else none else some (v2.1, (0 : Int32))) else none
set_option maxHeartbeats 4000000 in
set_option maxRecDepth 100000 in
theorem lb_X8_fields_0 {p : Program} {l : Launch} {e : Env} {s : State} {m : MethodId} {args : Array Value} {below : List Frame} {meth : Method} {c : Code} {D : va_G} {E : Nat → ClassId} {sz : Nat} {μ : MP} {ν : NC} {a : AS} {Ad : Nat → Nat → Nat} {w : Nat} {r0 : Int32} (C : cx p s m args meth c D E (Aof (zS μ ν a Ad) [] s.heap.size) cX8_fields 3 "TradeLine") (hr : meth.sig.returnType = (some .int)) (hz : s.heap.size = sz) {x1 : Int32} {x2 : Int32}   (h : f_X8_fields  w μ ν x1 x2 = some (0, r0)) : G p l e ({ frames := 5, cells := 0, slots := 0, locals := 125 } : Room) s m args below meth c D E (Aof (zS μ ν a Ad) [] s.heap.size) 3 (MQ below (cQ D E sz (zS μ ν a Ad) [] (pI (fun r u => r = r0 ∧ u = (zS μ ν a Ad, [])))) args s 0 0 (Aof (zS μ ν a Ad) [] s.heap.size)) (zS μ ν a Ad) [] 0 0 0 [(0, .ref (Ad 0 0)), (1, .int x1), (2, .int x2)] [] := by
  unfold f_X8_fields at h
  refine g_aload_n C dX8_fields_0 rfl 0 rfl ?_
  refine g_iload_n C dX8_fields_1 rfl 1 rfl ?_
  refine g_iload_n C dX8_fields_2 rfl 2 rfl ?_
  obtain ⟨g1, h⟩ := of_guard h
  obtain ⟨v2, hv2, h⟩ := bind_of h
  obtain ⟨nv2, h⟩ := of_thr h
  refine g_cVq (n := 2) (exc := []) (exr := []) C [_, _] _ rfl rfl [] [] rfl rfl rfl rfl (fun _ h => absurd h (by simp)) (fun _ h => absurd h (by simp)) (fun _ h => absurd h (by simp)) (fun sz => c_X8_requireMessage l μ ν a Ad w x1 x2 _ (thr0 hv2 nv2) D E sz) rfl gw_1262 gw_1 gw_1259 gw_1261 gs_39 ⟨by decide +kernel, by decide +kernel, by decide +kernel⟩ ⟨rfl, rfl⟩ ⟨Nat.le_of_ble_eq_true rfl, Nat.le_of_ble_eq_true rfl⟩ (rcvT (lvZ g1 rfl) rfl rfl rfl) (Nat.le_of_ble_eq_true rfl) dX8_fields_3 ⟨by decide, by decide⟩ (fun r u hp hx => ?_)
  obtain ⟨er, rfl⟩ := hp
  rw [er]
  try dsimp only [List.append_nil]
  obtain ⟨g3, h⟩ := of_guard h
  rw [nzB_e g3]
  obtain ⟨g4, h⟩ := of_guard h
  obtain ⟨v5, hv5, h⟩ := bind_of h
  refine g_cVi (n := 0) (exc := []) (exr := []) C [] _ rfl rfl [] [] rfl rfl rfl rfl (fun _ h => absurd h (by simp)) (fun _ h => absurd h (by simp)) (fun _ h => absurd h (by simp)) (fun sz => c_X3_fieldCount l μ ν a Ad w (v2.2 - 1)  _ hv5 D E sz) rfl gw_1267 gw_18 gw_1264 gw_1265 gw_1266 ⟨by decide +kernel, by decide +kernel, by decide +kernel⟩ ⟨rfl, rfl⟩ ⟨Nat.le_of_ble_eq_true rfl, Nat.le_of_ble_eq_true rfl⟩ (rcvT (lvZ g4 rfl) rfl rfl rfl) (Nat.le_of_ble_eq_true rfl) dX8_fields_6 ⟨by decide, by decide⟩ (fun r u hp hx => ?_)
  obtain ⟨er, rfl⟩ := hp
  rw [er]
  try dsimp only [List.append_nil]
  obtain rfl := congrArg Prod.snd (Option.some.inj h)
  exact g_iret C hr rfl hz ⟨rfl, rfl, fun _ => rfl, fun _ => rfl⟩ ⟨rfl, rfl⟩ (fun j x h => by simp at h) dX8_fields_9
theorem c_X8_fields (l : Launch) (μ : MP) (ν : NC) (a : AS) (Ad : Nat → Nat → Nat) (w : Nat) (x1 : Int32) (x2 : Int32) (r0 : Int32) (h : f_X8_fields w μ ν x1 x2 = some (0, r0)) : ∀ D E sz, Met l yX8_fields gwX8_fields ({ frames := 5, cells := 0, slots := 0, locals := 125 } : Room) (cP D E sz (zS μ ν a Ad) [] [.ref (Ad 0 0), .int x1, .int x2]) (cQ D E sz (zS μ ν a Ad) [] (pI (fun r u => r = r0 ∧ u = (zS μ ν a Ad, [])))) (0) (0) (Aof (zS μ ν a Ad) [] sz) := by
  intro D E sz
  refine g_of (cc := cX8_fields) (maxL := 3) (ret := (some .int)) (own := "TradeLine") (by decide) rfl rfl (Nat.le_of_ble_eq_true rfl) ?_
  intro p e s m args below meth c C hr hin hz ha hwr
  refine g_lv (lv' := [(0, .ref (Ad 0 0)), (1, .int x1), (2, .int x2)]) [0, 1, 2] rfl ?_
  exact lb_X8_fields_0 C hr hz h
set_option maxHeartbeats 4000000 in
set_option maxRecDepth 100000 in
theorem lx_X8_fields_0 {p : Program} {l : Launch} {e : Env} {s : State} {m : MethodId} {args : Array Value} {below : List Frame} {meth : Method} {c : Code} {D : va_G} {E : Nat → ClassId} {sz : Nat} {μ : MP} {ν : NC} {a : AS} {Ad : Nat → Nat → Nat} {w nx : Nat} {B : Nat × (Nat → Nat)} {r0 : Int32} (C : cx p s m args meth c D E (Aof (zS μ ν a Ad) [] s.heap.size) cX8_fields 3 "TradeLine") (hEv : eV (Ad 30 0) (Ad 31 0) B (Aof (zS μ ν a Ad) [] s.heap.size) s s.heap) (hl : l.stackTraces = false) (hT : ∀ x ∈ c.exceptionTable.toList, False) (hz : s.heap.size = sz) {x1 : Int32} {x2 : Int32}   (h : f_X8_fields  w μ ν x1 x2 = some (nx + 1, r0)) : G p l e ({ frames := 8, cells := 1, slots := 6, locals := 143 } : Room) s m args below meth c D E (Aof (zS μ ν a Ad) [] s.heap.size) 3 (vx_MQ below (fun _ _ _ _ => False) (cX D E sz (zS μ ν a Ad) (nx + 1)) args s 1 6 (Aof (zS μ ν a Ad) [] s.heap.size)) (zS μ ν a Ad) [] 0 0 0 [(0, .ref (Ad 0 0)), (1, .int x1), (2, .int x2)] [] := by
  unfold f_X8_fields at h
  refine g_aload_n C dX8_fields_0 rfl 0 rfl ?_
  refine g_iload_n C dX8_fields_1 rfl 1 rfl ?_
  refine g_iload_n C dX8_fields_2 rfl 2 rfl ?_
  obtain ⟨g1, h⟩ := of_guard h
  obtain ⟨v2, hv2, h⟩ := bind_of h
  rcases of_thx h with ⟨nv2, h⟩ | nv2
  · refine g_cVq (n := 2) (exc := []) (exr := []) C [_, _] _ rfl rfl [] [] rfl rfl rfl rfl (fun _ h => absurd h (by simp)) (fun _ h => absurd h (by simp)) (fun _ h => absurd h (by simp)) (fun sz => c_X8_requireMessage l μ ν a Ad w x1 x2 _ (thr0 hv2 nv2) D E sz) rfl gw_1262 gw_1 gw_1259 gw_1261 gs_39 ⟨by decide +kernel, by decide +kernel, by decide +kernel⟩ ⟨rfl, rfl⟩ ⟨Nat.le_of_ble_eq_true rfl, Nat.le_of_ble_eq_true rfl⟩ (rcvT (lvZ g1 rfl) rfl rfl rfl) (Nat.le_of_ble_eq_true rfl) dX8_fields_3 ⟨by decide, by decide⟩ (fun r u hp hx => ?_)
    obtain ⟨er, rfl⟩ := hp
    rw [er]
    try dsimp only [List.append_nil]
    obtain ⟨g3, h⟩ := of_guard h
    rw [nzB_e g3]
    obtain ⟨g4, h⟩ := of_guard h
    obtain ⟨v5, hv5, h⟩ := bind_of h
    refine g_cVi (n := 0) (exc := []) (exr := []) C [] _ rfl rfl [] [] rfl rfl rfl rfl (fun _ h => absurd h (by simp)) (fun _ h => absurd h (by simp)) (fun _ h => absurd h (by simp)) (fun sz => c_X3_fieldCount l μ ν a Ad w (v2.2 - 1)  _ hv5 D E sz) rfl gw_1267 gw_18 gw_1264 gw_1265 gw_1266 ⟨by decide +kernel, by decide +kernel, by decide +kernel⟩ ⟨rfl, rfl⟩ ⟨Nat.le_of_ble_eq_true rfl, Nat.le_of_ble_eq_true rfl⟩ (rcvT (lvZ g4 rfl) rfl rfl rfl) (Nat.le_of_ble_eq_true rfl) dX8_fields_6 ⟨by decide, by decide⟩ (fun r u hp hx => ?_)
    obtain ⟨er, rfl⟩ := hp
    rw [er]
    try dsimp only [List.append_nil]
    exact absurd (congrArg Prod.fst (Option.some.inj h)) (by simp)
  · exact g_xV (index := 2) C hEv ⟨rfl, rfl⟩ hT hz [_, _] _ rfl rfl (fun sz => x_X8_requireMessage l hl B μ ν a Ad w x1 x2 _ _ (thrS hv2 nv2) D E sz) rfl gw_1262 gw_1 gw_1259 gw_1261 gs_39 ⟨by decide +kernel, by decide +kernel, by decide +kernel⟩ ⟨rfl, rfl⟩ ⟨Nat.le_of_ble_eq_true rfl, Nat.le_of_ble_eq_true rfl⟩ (rcvT (lvZ g1 rfl) rfl rfl rfl) (Nat.le_of_ble_eq_true rfl) dX8_fields_3 ⟨by decide, by decide⟩
theorem x_X8_fields (l : Launch) (hl : l.stackTraces = false) (B : Nat × (Nat → Nat)) (μ : MP) (ν : NC) (a : AS) (Ad : Nat → Nat → Nat) (w : Nat) (x1 : Int32) (x2 : Int32) (nx : Nat) (r0 : Int32) (h : f_X8_fields w μ ν x1 x2 = some (nx + 1, r0)) : ∀ D E sz, vx_Met l yX8_fields gwX8_fields ({ frames := 8, cells := 1, slots := 6, locals := 143 } : Room) (cPe D E sz B (zS μ ν a Ad) [] [] [.ref (Ad 0 0), .int x1, .int x2]) (fun _ _ _ _ => False) (cX D E sz (zS μ ν a Ad) (nx + 1)) 1 6 (Aof (zS μ ν a Ad) [] sz) := by
  intro D E sz
  refine g_ofx (cc := cX8_fields) (maxL := 3) (ret := (some .int)) (own := "TradeLine") (by decide) rfl rfl (Nat.le_of_ble_eq_true rfl) ?_
  intro p e s m args below meth c C hT hz ha hEv
  refine g_lv (lv' := [(0, .ref (Ad 0 0)), (1, .int x1), (2, .int x2)]) [0, 1, 2] rfl ?_
  exact lx_X8_fields_0 C hEv hl hT hz h
noncomputable def f_X8_tagAt  (w : Nat) (μ : MP) (ν : NC) (x1 : Int32) (x2 : Int32) (x3 : Int32) : Option (Nat × (Int32)) := bif ltB 0 (ν.2 0) then (f_X8_requireMessage w μ ν x1 x2).bind (fun v2 => bif eqB v2.1 0 then bif nzB v2.2 then bif ltB (v2.2 - 1) (ν.2 6) then (f_X3_hasPlace w μ ν (v2.2 - 1) x3).bind (fun v5 => (if v5 = (0 : Int32) then (some ((1 : Nat), (0 : Int32))) else ((f_X3_tagOfPlace w μ ν (v2.2 - 1) x3).bind (fun v6 => some ((0 : Nat), v6))))) else none else none else some (v2.1, (0 : Int32))) else none
set_option maxHeartbeats 4000000 in
set_option maxRecDepth 100000 in
theorem lb_X8_tagAt_0 {p : Program} {l : Launch} {e : Env} {s : State} {m : MethodId} {args : Array Value} {below : List Frame} {meth : Method} {c : Code} {D : va_G} {E : Nat → ClassId} {sz : Nat} {μ : MP} {ν : NC} {a : AS} {Ad : Nat → Nat → Nat} {w : Nat} {r0 : Int32} (C : cx p s m args meth c D E (Aof (zS μ ν a Ad) [] s.heap.size) cX8_tagAt 5 "TradeLine") (hr : meth.sig.returnType = (some .int)) (hz : s.heap.size = sz) {x1 : Int32} {x2 : Int32} {x3 : Int32}   (h : f_X8_tagAt  w μ ν x1 x2 x3 = some (0, r0)) : G p l e ({ frames := 5, cells := 0, slots := 0, locals := 125 } : Room) s m args below meth c D E (Aof (zS μ ν a Ad) [] s.heap.size) 5 (MQ below (cQ D E sz (zS μ ν a Ad) [] (pI (fun r u => r = r0 ∧ u = (zS μ ν a Ad, [])))) args s 0 0 (Aof (zS μ ν a Ad) [] s.heap.size)) (zS μ ν a Ad) [] 0 0 0 [(0, .ref (Ad 0 0)), (1, .int x1), (2, .int x2), (3, .int x3)] [] := by
  unfold f_X8_tagAt at h
  refine g_aload_n C dX8_tagAt_0 rfl 0 rfl ?_
  refine g_iload_n C dX8_tagAt_1 rfl 1 rfl ?_
  refine g_iload_n C dX8_tagAt_2 rfl 2 rfl ?_
  obtain ⟨g1, h⟩ := of_guard h
  obtain ⟨v2, hv2, h⟩ := bind_of h
  obtain ⟨nv2, h⟩ := of_thr h
  refine g_cVq (n := 2) (exc := []) (exr := []) C [_, _] _ rfl rfl [] [] rfl rfl rfl rfl (fun _ h => absurd h (by simp)) (fun _ h => absurd h (by simp)) (fun _ h => absurd h (by simp)) (fun sz => c_X8_requireMessage l μ ν a Ad w x1 x2 _ (thr0 hv2 nv2) D E sz) rfl gw_1262 gw_1 gw_1259 gw_1261 gs_39 ⟨by decide +kernel, by decide +kernel, by decide +kernel⟩ ⟨rfl, rfl⟩ ⟨Nat.le_of_ble_eq_true rfl, Nat.le_of_ble_eq_true rfl⟩ (rcvT (lvZ g1 rfl) rfl rfl rfl) (Nat.le_of_ble_eq_true rfl) dX8_tagAt_3 ⟨by decide, by decide⟩ (fun r u hp hx => ?_)
  obtain ⟨er, rfl⟩ := hp
  rw [er]
  try dsimp only [List.append_nil]
  refine z_astore (lv' := [(4, nv (Ad 6) v2.2), (0, .ref (Ad 0 0)), (1, .int x1), (2, .int x2), (3, .int x3)]) C dX8_tagAt_6 (nv_or _ _) (by decide) (by simp [nv_cat, cat_i, cat_r, cat_n]) ?_
  refine z_aload C dX8_tagAt_8 0 rfl (nv_or _ _) ?_
  refine g_iload_n C dX8_tagAt_10 rfl 4 rfl ?_
  obtain ⟨g3, h⟩ := of_guard h
  rw [nzB_e g3]
  obtain ⟨g4, h⟩ := of_guard h
  obtain ⟨v5, hv5, h⟩ := bind_of h
  refine g_cVi (n := 1) (exc := []) (exr := []) C [_] _ rfl rfl [] [] rfl rfl rfl rfl (fun _ h => absurd h (by simp)) (fun _ h => absurd h (by simp)) (fun _ h => absurd h (by simp)) (fun sz => c_X3_hasPlace l μ ν a Ad w (v2.2 - 1) x3 _ hv5 D E sz) rfl gw_964 gw_18 gw_1278 gw_962 gw_963 ⟨by decide +kernel, by decide +kernel, by decide +kernel⟩ ⟨rfl, rfl⟩ ⟨Nat.le_of_ble_eq_true rfl, Nat.le_of_ble_eq_true rfl⟩ (rcvT (lvZ g4 rfl) rfl rfl rfl) (Nat.le_of_ble_eq_true rfl) dX8_tagAt_11 ⟨by decide, by decide⟩ (fun r u hp hx => ?_)
  obtain ⟨er, rfl⟩ := hp
  rw [er]
  try dsimp only [List.append_nil]
  refine g_if_ne (tgt := 27) C dX8_tagAt_14 (by decide) (fun c14 => ?_) (fun c14 => ?_)
  · replace h := (if_neg c14).symm.trans h
    refine g_aload C dX8_tagAt_27 0 rfl ?_
    refine g_iload_n C dX8_tagAt_29 rfl 4 rfl ?_
    obtain ⟨v6, hv6, h⟩ := bind_of h
    refine g_cVi (n := 1) (exc := []) (exr := []) C [_] _ rfl rfl [] [] rfl rfl rfl rfl (fun _ h => absurd h (by simp)) (fun _ h => absurd h (by simp)) (fun _ h => absurd h (by simp)) (fun sz => c_X3_tagOfPlace l μ ν a Ad w (v2.2 - 1) x3 _ hv6 D E sz) rfl gw_1283 gw_18 gw_1280 gw_1281 gw_1282 ⟨by decide +kernel, by decide +kernel, by decide +kernel⟩ ⟨rfl, rfl⟩ ⟨Nat.le_of_ble_eq_true rfl, Nat.le_of_ble_eq_true rfl⟩ (rcvT (lvZ g4 rfl) rfl rfl rfl) (Nat.le_of_ble_eq_true rfl) dX8_tagAt_30 ⟨by decide, by decide⟩ (fun r u hp hx => ?_)
    obtain ⟨er, rfl⟩ := hp
    rw [er]
    try dsimp only [List.append_nil]
    obtain rfl := congrArg Prod.snd (Option.some.inj h)
    exact g_iret C hr rfl hz ⟨rfl, rfl, fun _ => rfl, fun _ => rfl⟩ ⟨rfl, rfl⟩ (fun j x h => by simp at h) dX8_tagAt_33
  · replace h := (if_pos c14).symm.trans h
    exact absurd (congrArg Prod.fst (Option.some.inj h)) (by simp)
theorem c_X8_tagAt (l : Launch) (μ : MP) (ν : NC) (a : AS) (Ad : Nat → Nat → Nat) (w : Nat) (x1 : Int32) (x2 : Int32) (x3 : Int32) (r0 : Int32) (h : f_X8_tagAt w μ ν x1 x2 x3 = some (0, r0)) : ∀ D E sz, Met l yX8_tagAt gwX8_tagAt ({ frames := 5, cells := 0, slots := 0, locals := 125 } : Room) (cP D E sz (zS μ ν a Ad) [] [.ref (Ad 0 0), .int x1, .int x2, .int x3]) (cQ D E sz (zS μ ν a Ad) [] (pI (fun r u => r = r0 ∧ u = (zS μ ν a Ad, [])))) (0) (0) (Aof (zS μ ν a Ad) [] sz) := by
  intro D E sz
  refine g_of (cc := cX8_tagAt) (maxL := 5) (ret := (some .int)) (own := "TradeLine") (by decide) rfl rfl (Nat.le_of_ble_eq_true rfl) ?_
  intro p e s m args below meth c C hr hin hz ha hwr
  refine g_lv (lv' := [(0, .ref (Ad 0 0)), (1, .int x1), (2, .int x2), (3, .int x3)]) [0, 1, 2, 3] rfl ?_
  exact lb_X8_tagAt_0 C hr hz h
set_option maxHeartbeats 4000000 in
set_option maxRecDepth 100000 in
theorem lx_X8_tagAt_0 {p : Program} {l : Launch} {e : Env} {s : State} {m : MethodId} {args : Array Value} {below : List Frame} {meth : Method} {c : Code} {D : va_G} {E : Nat → ClassId} {sz : Nat} {μ : MP} {ν : NC} {a : AS} {Ad : Nat → Nat → Nat} {w nx : Nat} {B : Nat × (Nat → Nat)} {r0 : Int32} (C : cx p s m args meth c D E (Aof (zS μ ν a Ad) [] s.heap.size) cX8_tagAt 5 "TradeLine") (hEv : eV (Ad 30 0) (Ad 31 0) B (Aof (zS μ ν a Ad) [] s.heap.size) s s.heap) (hl : l.stackTraces = false) (hT : ∀ x ∈ c.exceptionTable.toList, False) (hz : s.heap.size = sz) {x1 : Int32} {x2 : Int32} {x3 : Int32}   (h : f_X8_tagAt  w μ ν x1 x2 x3 = some (nx + 1, r0)) : G p l e ({ frames := 8, cells := 1, slots := 6, locals := 143 } : Room) s m args below meth c D E (Aof (zS μ ν a Ad) [] s.heap.size) 5 (vx_MQ below (fun _ _ _ _ => False) (cX D E sz (zS μ ν a Ad) (nx + 1)) args s 1 6 (Aof (zS μ ν a Ad) [] s.heap.size)) (zS μ ν a Ad) [] 0 0 0 [(0, .ref (Ad 0 0)), (1, .int x1), (2, .int x2), (3, .int x3)] [] := by
  unfold f_X8_tagAt at h
  refine g_aload_n C dX8_tagAt_0 rfl 0 rfl ?_
  refine g_iload_n C dX8_tagAt_1 rfl 1 rfl ?_
  refine g_iload_n C dX8_tagAt_2 rfl 2 rfl ?_
  obtain ⟨g1, h⟩ := of_guard h
  obtain ⟨v2, hv2, h⟩ := bind_of h
  rcases of_thx h with ⟨nv2, h⟩ | nv2
  · refine g_cVq (n := 2) (exc := []) (exr := []) C [_, _] _ rfl rfl [] [] rfl rfl rfl rfl (fun _ h => absurd h (by simp)) (fun _ h => absurd h (by simp)) (fun _ h => absurd h (by simp)) (fun sz => c_X8_requireMessage l μ ν a Ad w x1 x2 _ (thr0 hv2 nv2) D E sz) rfl gw_1262 gw_1 gw_1259 gw_1261 gs_39 ⟨by decide +kernel, by decide +kernel, by decide +kernel⟩ ⟨rfl, rfl⟩ ⟨Nat.le_of_ble_eq_true rfl, Nat.le_of_ble_eq_true rfl⟩ (rcvT (lvZ g1 rfl) rfl rfl rfl) (Nat.le_of_ble_eq_true rfl) dX8_tagAt_3 ⟨by decide, by decide⟩ (fun r u hp hx => ?_)
    obtain ⟨er, rfl⟩ := hp
    rw [er]
    try dsimp only [List.append_nil]
    refine z_astore (lv' := [(4, nv (Ad 6) v2.2), (0, .ref (Ad 0 0)), (1, .int x1), (2, .int x2), (3, .int x3)]) C dX8_tagAt_6 (nv_or _ _) (by decide) (by simp [nv_cat, cat_i, cat_r, cat_n]) ?_
    refine z_aload C dX8_tagAt_8 0 rfl (nv_or _ _) ?_
    refine g_iload_n C dX8_tagAt_10 rfl 4 rfl ?_
    obtain ⟨g3, h⟩ := of_guard h
    rw [nzB_e g3]
    obtain ⟨g4, h⟩ := of_guard h
    obtain ⟨v5, hv5, h⟩ := bind_of h
    refine g_cVi (n := 1) (exc := []) (exr := []) C [_] _ rfl rfl [] [] rfl rfl rfl rfl (fun _ h => absurd h (by simp)) (fun _ h => absurd h (by simp)) (fun _ h => absurd h (by simp)) (fun sz => c_X3_hasPlace l μ ν a Ad w (v2.2 - 1) x3 _ hv5 D E sz) rfl gw_964 gw_18 gw_1278 gw_962 gw_963 ⟨by decide +kernel, by decide +kernel, by decide +kernel⟩ ⟨rfl, rfl⟩ ⟨Nat.le_of_ble_eq_true rfl, Nat.le_of_ble_eq_true rfl⟩ (rcvT (lvZ g4 rfl) rfl rfl rfl) (Nat.le_of_ble_eq_true rfl) dX8_tagAt_11 ⟨by decide, by decide⟩ (fun r u hp hx => ?_)
    obtain ⟨er, rfl⟩ := hp
    rw [er]
    try dsimp only [List.append_nil]
    refine g_if_ne (tgt := 27) C dX8_tagAt_14 (by decide) (fun c14 => ?_) (fun c14 => ?_)
    · replace h := (if_neg c14).symm.trans h
      refine g_aload C dX8_tagAt_27 0 rfl ?_
      refine g_iload_n C dX8_tagAt_29 rfl 4 rfl ?_
      obtain ⟨v6, hv6, h⟩ := bind_of h
      refine g_cVi (n := 1) (exc := []) (exr := []) C [_] _ rfl rfl [] [] rfl rfl rfl rfl (fun _ h => absurd h (by simp)) (fun _ h => absurd h (by simp)) (fun _ h => absurd h (by simp)) (fun sz => c_X3_tagOfPlace l μ ν a Ad w (v2.2 - 1) x3 _ hv6 D E sz) rfl gw_1283 gw_18 gw_1280 gw_1281 gw_1282 ⟨by decide +kernel, by decide +kernel, by decide +kernel⟩ ⟨rfl, rfl⟩ ⟨Nat.le_of_ble_eq_true rfl, Nat.le_of_ble_eq_true rfl⟩ (rcvT (lvZ g4 rfl) rfl rfl rfl) (Nat.le_of_ble_eq_true rfl) dX8_tagAt_30 ⟨by decide, by decide⟩ (fun r u hp hx => ?_)
      obtain ⟨er, rfl⟩ := hp
      rw [er]
      try dsimp only [List.append_nil]
      exact absurd (congrArg Prod.fst (Option.some.inj h)) (by simp)
    · replace h := (if_pos c14).symm.trans h
      obtain rfl : nx = 0 := by have := congrArg Prod.fst (Option.some.inj h); simp at this; omega
      exact g_thS (n := 1) (ic := 134) (text := "no such field") C hEv hl hT hz (by decide) gw_482 gw_12 (by decide +kernel) exA_1 (by decide) exG_1 dX8_tagAt_17 dX8_tagAt_20 dX8_tagAt_21 dX8_tagAt_23 dX8_tagAt_26 (by decide) (Nat.le_of_ble_eq_true rfl) (by decide) (by decide)
  · exact g_xV (index := 2) C hEv ⟨rfl, rfl⟩ hT hz [_, _] _ rfl rfl (fun sz => x_X8_requireMessage l hl B μ ν a Ad w x1 x2 _ _ (thrS hv2 nv2) D E sz) rfl gw_1262 gw_1 gw_1259 gw_1261 gs_39 ⟨by decide +kernel, by decide +kernel, by decide +kernel⟩ ⟨rfl, rfl⟩ ⟨Nat.le_of_ble_eq_true rfl, Nat.le_of_ble_eq_true rfl⟩ (rcvT (lvZ g1 rfl) rfl rfl rfl) (Nat.le_of_ble_eq_true rfl) dX8_tagAt_3 ⟨by decide, by decide⟩
theorem x_X8_tagAt (l : Launch) (hl : l.stackTraces = false) (B : Nat × (Nat → Nat)) (μ : MP) (ν : NC) (a : AS) (Ad : Nat → Nat → Nat) (w : Nat) (x1 : Int32) (x2 : Int32) (x3 : Int32) (nx : Nat) (r0 : Int32) (h : f_X8_tagAt w μ ν x1 x2 x3 = some (nx + 1, r0)) : ∀ D E sz, vx_Met l yX8_tagAt gwX8_tagAt ({ frames := 8, cells := 1, slots := 6, locals := 143 } : Room) (cPe D E sz B (zS μ ν a Ad) [] [] [.ref (Ad 0 0), .int x1, .int x2, .int x3]) (fun _ _ _ _ => False) (cX D E sz (zS μ ν a Ad) (nx + 1)) 1 6 (Aof (zS μ ν a Ad) [] sz) := by
  intro D E sz
  refine g_ofx (cc := cX8_tagAt) (maxL := 5) (ret := (some .int)) (own := "TradeLine") (by decide) rfl rfl (Nat.le_of_ble_eq_true rfl) ?_
  intro p e s m args below meth c C hT hz ha hEv
  refine g_lv (lv' := [(0, .ref (Ad 0 0)), (1, .int x1), (2, .int x2), (3, .int x3)]) [0, 1, 2, 3] rfl ?_
  exact lx_X8_tagAt_0 C hEv hl hT hz h
noncomputable def f_X8_valueAt  (w : Nat) (μ : MP) (ν : NC) (x1 : Int32) (x2 : Int32) (x3 : Int32) : Option (Nat × (Int32)) := bif ltB 0 (ν.2 0) then (f_X8_requireMessage w μ ν x1 x2).bind (fun v2 => bif eqB v2.1 0 then bif nzB v2.2 then bif ltB (v2.2 - 1) (ν.2 6) then (f_X3_hasPlace w μ ν (v2.2 - 1) x3).bind (fun v5 => (if v5 = (0 : Int32) then (some ((1 : Nat), (0 : Int32))) else ((f_X3_valueOfPlace w μ ν (v2.2 - 1) x3).bind (fun v6 => some ((0 : Nat), v6))))) else none else none else some (v2.1, (0 : Int32))) else none
set_option maxHeartbeats 4000000 in
set_option maxRecDepth 100000 in
theorem lb_X8_valueAt_0 {p : Program} {l : Launch} {e : Env} {s : State} {m : MethodId} {args : Array Value} {below : List Frame} {meth : Method} {c : Code} {D : va_G} {E : Nat → ClassId} {sz : Nat} {μ : MP} {ν : NC} {a : AS} {Ad : Nat → Nat → Nat} {w : Nat} {r0 : Int32} (C : cx p s m args meth c D E (Aof (zS μ ν a Ad) [] s.heap.size) cX8_valueAt 5 "TradeLine") (hr : meth.sig.returnType = (some .int)) (hz : s.heap.size = sz) {x1 : Int32} {x2 : Int32} {x3 : Int32}   (h : f_X8_valueAt  w μ ν x1 x2 x3 = some (0, r0)) : G p l e ({ frames := 5, cells := 0, slots := 0, locals := 125 } : Room) s m args below meth c D E (Aof (zS μ ν a Ad) [] s.heap.size) 5 (MQ below (cQ D E sz (zS μ ν a Ad) [] (pI (fun r u => r = r0 ∧ u = (zS μ ν a Ad, [])))) args s 0 0 (Aof (zS μ ν a Ad) [] s.heap.size)) (zS μ ν a Ad) [] 0 0 0 [(0, .ref (Ad 0 0)), (1, .int x1), (2, .int x2), (3, .int x3)] [] := by
  unfold f_X8_valueAt at h
  refine g_aload_n C dX8_valueAt_0 rfl 0 rfl ?_
  refine g_iload_n C dX8_valueAt_1 rfl 1 rfl ?_
  refine g_iload_n C dX8_valueAt_2 rfl 2 rfl ?_
  obtain ⟨g1, h⟩ := of_guard h
  obtain ⟨v2, hv2, h⟩ := bind_of h
  obtain ⟨nv2, h⟩ := of_thr h
  refine g_cVq (n := 2) (exc := []) (exr := []) C [_, _] _ rfl rfl [] [] rfl rfl rfl rfl (fun _ h => absurd h (by simp)) (fun _ h => absurd h (by simp)) (fun _ h => absurd h (by simp)) (fun sz => c_X8_requireMessage l μ ν a Ad w x1 x2 _ (thr0 hv2 nv2) D E sz) rfl gw_1262 gw_1 gw_1259 gw_1261 gs_39 ⟨by decide +kernel, by decide +kernel, by decide +kernel⟩ ⟨rfl, rfl⟩ ⟨Nat.le_of_ble_eq_true rfl, Nat.le_of_ble_eq_true rfl⟩ (rcvT (lvZ g1 rfl) rfl rfl rfl) (Nat.le_of_ble_eq_true rfl) dX8_valueAt_3 ⟨by decide, by decide⟩ (fun r u hp hx => ?_)
  obtain ⟨er, rfl⟩ := hp
  rw [er]
  try dsimp only [List.append_nil]
  refine z_astore (lv' := [(4, nv (Ad 6) v2.2), (0, .ref (Ad 0 0)), (1, .int x1), (2, .int x2), (3, .int x3)]) C dX8_valueAt_6 (nv_or _ _) (by decide) (by simp [nv_cat, cat_i, cat_r, cat_n]) ?_
  refine z_aload C dX8_valueAt_8 0 rfl (nv_or _ _) ?_
  refine g_iload_n C dX8_valueAt_10 rfl 4 rfl ?_
  obtain ⟨g3, h⟩ := of_guard h
  rw [nzB_e g3]
  obtain ⟨g4, h⟩ := of_guard h
  obtain ⟨v5, hv5, h⟩ := bind_of h
  refine g_cVi (n := 1) (exc := []) (exr := []) C [_] _ rfl rfl [] [] rfl rfl rfl rfl (fun _ h => absurd h (by simp)) (fun _ h => absurd h (by simp)) (fun _ h => absurd h (by simp)) (fun sz => c_X3_hasPlace l μ ν a Ad w (v2.2 - 1) x3 _ hv5 D E sz) rfl gw_964 gw_18 gw_1278 gw_962 gw_963 ⟨by decide +kernel, by decide +kernel, by decide +kernel⟩ ⟨rfl, rfl⟩ ⟨Nat.le_of_ble_eq_true rfl, Nat.le_of_ble_eq_true rfl⟩ (rcvT (lvZ g4 rfl) rfl rfl rfl) (Nat.le_of_ble_eq_true rfl) dX8_valueAt_11 ⟨by decide, by decide⟩ (fun r u hp hx => ?_)
  obtain ⟨er, rfl⟩ := hp
  rw [er]
  try dsimp only [List.append_nil]
  refine g_if_ne (tgt := 27) C dX8_valueAt_14 (by decide) (fun c14 => ?_) (fun c14 => ?_)
  · replace h := (if_neg c14).symm.trans h
    refine g_aload C dX8_valueAt_27 0 rfl ?_
    refine g_iload_n C dX8_valueAt_29 rfl 4 rfl ?_
    obtain ⟨v6, hv6, h⟩ := bind_of h
    refine g_cVi (n := 1) (exc := []) (exr := []) C [_] _ rfl rfl [] [] rfl rfl rfl rfl (fun _ h => absurd h (by simp)) (fun _ h => absurd h (by simp)) (fun _ h => absurd h (by simp)) (fun sz => c_X3_valueOfPlace l μ ν a Ad w (v2.2 - 1) x3 _ hv6 D E sz) rfl gw_960 gw_18 gw_957 gw_958 gw_959 ⟨by decide +kernel, by decide +kernel, by decide +kernel⟩ ⟨rfl, rfl⟩ ⟨Nat.le_of_ble_eq_true rfl, Nat.le_of_ble_eq_true rfl⟩ (rcvT (lvZ g4 rfl) rfl rfl rfl) (Nat.le_of_ble_eq_true rfl) dX8_valueAt_30 ⟨by decide, by decide⟩ (fun r u hp hx => ?_)
    obtain ⟨er, rfl⟩ := hp
    rw [er]
    try dsimp only [List.append_nil]
    obtain rfl := congrArg Prod.snd (Option.some.inj h)
    exact g_iret C hr rfl hz ⟨rfl, rfl, fun _ => rfl, fun _ => rfl⟩ ⟨rfl, rfl⟩ (fun j x h => by simp at h) dX8_valueAt_33
  · replace h := (if_pos c14).symm.trans h
    exact absurd (congrArg Prod.fst (Option.some.inj h)) (by simp)
theorem c_X8_valueAt (l : Launch) (μ : MP) (ν : NC) (a : AS) (Ad : Nat → Nat → Nat) (w : Nat) (x1 : Int32) (x2 : Int32) (x3 : Int32) (r0 : Int32) (h : f_X8_valueAt w μ ν x1 x2 x3 = some (0, r0)) : ∀ D E sz, Met l yX8_valueAt gwX8_valueAt ({ frames := 5, cells := 0, slots := 0, locals := 125 } : Room) (cP D E sz (zS μ ν a Ad) [] [.ref (Ad 0 0), .int x1, .int x2, .int x3]) (cQ D E sz (zS μ ν a Ad) [] (pI (fun r u => r = r0 ∧ u = (zS μ ν a Ad, [])))) (0) (0) (Aof (zS μ ν a Ad) [] sz) := by
  intro D E sz
  refine g_of (cc := cX8_valueAt) (maxL := 5) (ret := (some .int)) (own := "TradeLine") (by decide) rfl rfl (Nat.le_of_ble_eq_true rfl) ?_
  intro p e s m args below meth c C hr hin hz ha hwr
  refine g_lv (lv' := [(0, .ref (Ad 0 0)), (1, .int x1), (2, .int x2), (3, .int x3)]) [0, 1, 2, 3] rfl ?_
  exact lb_X8_valueAt_0 C hr hz h
set_option maxHeartbeats 4000000 in
set_option maxRecDepth 100000 in
theorem lx_X8_valueAt_0 {p : Program} {l : Launch} {e : Env} {s : State} {m : MethodId} {args : Array Value} {below : List Frame} {meth : Method} {c : Code} {D : va_G} {E : Nat → ClassId} {sz : Nat} {μ : MP} {ν : NC} {a : AS} {Ad : Nat → Nat → Nat} {w nx : Nat} {B : Nat × (Nat → Nat)} {r0 : Int32} (C : cx p s m args meth c D E (Aof (zS μ ν a Ad) [] s.heap.size) cX8_valueAt 5 "TradeLine") (hEv : eV (Ad 30 0) (Ad 31 0) B (Aof (zS μ ν a Ad) [] s.heap.size) s s.heap) (hl : l.stackTraces = false) (hT : ∀ x ∈ c.exceptionTable.toList, False) (hz : s.heap.size = sz) {x1 : Int32} {x2 : Int32} {x3 : Int32}   (h : f_X8_valueAt  w μ ν x1 x2 x3 = some (nx + 1, r0)) : G p l e ({ frames := 8, cells := 1, slots := 6, locals := 143 } : Room) s m args below meth c D E (Aof (zS μ ν a Ad) [] s.heap.size) 5 (vx_MQ below (fun _ _ _ _ => False) (cX D E sz (zS μ ν a Ad) (nx + 1)) args s 1 6 (Aof (zS μ ν a Ad) [] s.heap.size)) (zS μ ν a Ad) [] 0 0 0 [(0, .ref (Ad 0 0)), (1, .int x1), (2, .int x2), (3, .int x3)] [] := by
  unfold f_X8_valueAt at h
  refine g_aload_n C dX8_valueAt_0 rfl 0 rfl ?_
  refine g_iload_n C dX8_valueAt_1 rfl 1 rfl ?_
  refine g_iload_n C dX8_valueAt_2 rfl 2 rfl ?_
  obtain ⟨g1, h⟩ := of_guard h
  obtain ⟨v2, hv2, h⟩ := bind_of h
  rcases of_thx h with ⟨nv2, h⟩ | nv2
  · refine g_cVq (n := 2) (exc := []) (exr := []) C [_, _] _ rfl rfl [] [] rfl rfl rfl rfl (fun _ h => absurd h (by simp)) (fun _ h => absurd h (by simp)) (fun _ h => absurd h (by simp)) (fun sz => c_X8_requireMessage l μ ν a Ad w x1 x2 _ (thr0 hv2 nv2) D E sz) rfl gw_1262 gw_1 gw_1259 gw_1261 gs_39 ⟨by decide +kernel, by decide +kernel, by decide +kernel⟩ ⟨rfl, rfl⟩ ⟨Nat.le_of_ble_eq_true rfl, Nat.le_of_ble_eq_true rfl⟩ (rcvT (lvZ g1 rfl) rfl rfl rfl) (Nat.le_of_ble_eq_true rfl) dX8_valueAt_3 ⟨by decide, by decide⟩ (fun r u hp hx => ?_)
    obtain ⟨er, rfl⟩ := hp
    rw [er]
    try dsimp only [List.append_nil]
    refine z_astore (lv' := [(4, nv (Ad 6) v2.2), (0, .ref (Ad 0 0)), (1, .int x1), (2, .int x2), (3, .int x3)]) C dX8_valueAt_6 (nv_or _ _) (by decide) (by simp [nv_cat, cat_i, cat_r, cat_n]) ?_
    refine z_aload C dX8_valueAt_8 0 rfl (nv_or _ _) ?_
    refine g_iload_n C dX8_valueAt_10 rfl 4 rfl ?_
    obtain ⟨g3, h⟩ := of_guard h
    rw [nzB_e g3]
    obtain ⟨g4, h⟩ := of_guard h
    obtain ⟨v5, hv5, h⟩ := bind_of h
    refine g_cVi (n := 1) (exc := []) (exr := []) C [_] _ rfl rfl [] [] rfl rfl rfl rfl (fun _ h => absurd h (by simp)) (fun _ h => absurd h (by simp)) (fun _ h => absurd h (by simp)) (fun sz => c_X3_hasPlace l μ ν a Ad w (v2.2 - 1) x3 _ hv5 D E sz) rfl gw_964 gw_18 gw_1278 gw_962 gw_963 ⟨by decide +kernel, by decide +kernel, by decide +kernel⟩ ⟨rfl, rfl⟩ ⟨Nat.le_of_ble_eq_true rfl, Nat.le_of_ble_eq_true rfl⟩ (rcvT (lvZ g4 rfl) rfl rfl rfl) (Nat.le_of_ble_eq_true rfl) dX8_valueAt_11 ⟨by decide, by decide⟩ (fun r u hp hx => ?_)
    obtain ⟨er, rfl⟩ := hp
    rw [er]
    try dsimp only [List.append_nil]
    refine g_if_ne (tgt := 27) C dX8_valueAt_14 (by decide) (fun c14 => ?_) (fun c14 => ?_)
    · replace h := (if_neg c14).symm.trans h
      refine g_aload C dX8_valueAt_27 0 rfl ?_
      refine g_iload_n C dX8_valueAt_29 rfl 4 rfl ?_
      obtain ⟨v6, hv6, h⟩ := bind_of h
      refine g_cVi (n := 1) (exc := []) (exr := []) C [_] _ rfl rfl [] [] rfl rfl rfl rfl (fun _ h => absurd h (by simp)) (fun _ h => absurd h (by simp)) (fun _ h => absurd h (by simp)) (fun sz => c_X3_valueOfPlace l μ ν a Ad w (v2.2 - 1) x3 _ hv6 D E sz) rfl gw_960 gw_18 gw_957 gw_958 gw_959 ⟨by decide +kernel, by decide +kernel, by decide +kernel⟩ ⟨rfl, rfl⟩ ⟨Nat.le_of_ble_eq_true rfl, Nat.le_of_ble_eq_true rfl⟩ (rcvT (lvZ g4 rfl) rfl rfl rfl) (Nat.le_of_ble_eq_true rfl) dX8_valueAt_30 ⟨by decide, by decide⟩ (fun r u hp hx => ?_)
      obtain ⟨er, rfl⟩ := hp
      rw [er]
      try dsimp only [List.append_nil]
      exact absurd (congrArg Prod.fst (Option.some.inj h)) (by simp)
    · replace h := (if_pos c14).symm.trans h
      obtain rfl : nx = 0 := by have := congrArg Prod.fst (Option.some.inj h); simp at this; omega
      exact g_thS (n := 1) (ic := 134) (text := "no such field") C hEv hl hT hz (by decide) gw_482 gw_12 (by decide +kernel) exA_1 (by decide) exG_1 dX8_valueAt_17 dX8_valueAt_20 dX8_valueAt_21 dX8_valueAt_23 dX8_valueAt_26 (by decide) (Nat.le_of_ble_eq_true rfl) (by decide) (by decide)
  · exact g_xV (index := 2) C hEv ⟨rfl, rfl⟩ hT hz [_, _] _ rfl rfl (fun sz => x_X8_requireMessage l hl B μ ν a Ad w x1 x2 _ _ (thrS hv2 nv2) D E sz) rfl gw_1262 gw_1 gw_1259 gw_1261 gs_39 ⟨by decide +kernel, by decide +kernel, by decide +kernel⟩ ⟨rfl, rfl⟩ ⟨Nat.le_of_ble_eq_true rfl, Nat.le_of_ble_eq_true rfl⟩ (rcvT (lvZ g1 rfl) rfl rfl rfl) (Nat.le_of_ble_eq_true rfl) dX8_valueAt_3 ⟨by decide, by decide⟩
theorem x_X8_valueAt (l : Launch) (hl : l.stackTraces = false) (B : Nat × (Nat → Nat)) (μ : MP) (ν : NC) (a : AS) (Ad : Nat → Nat → Nat) (w : Nat) (x1 : Int32) (x2 : Int32) (x3 : Int32) (nx : Nat) (r0 : Int32) (h : f_X8_valueAt w μ ν x1 x2 x3 = some (nx + 1, r0)) : ∀ D E sz, vx_Met l yX8_valueAt gwX8_valueAt ({ frames := 8, cells := 1, slots := 6, locals := 143 } : Room) (cPe D E sz B (zS μ ν a Ad) [] [] [.ref (Ad 0 0), .int x1, .int x2, .int x3]) (fun _ _ _ _ => False) (cX D E sz (zS μ ν a Ad) (nx + 1)) 1 6 (Aof (zS μ ν a Ad) [] sz) := by
  intro D E sz
  refine g_ofx (cc := cX8_valueAt) (maxL := 5) (ret := (some .int)) (own := "TradeLine") (by decide) rfl rfl (Nat.le_of_ble_eq_true rfl) ?_
  intro p e s m args below meth c C hT hz ha hEv
  refine g_lv (lv' := [(0, .ref (Ad 0 0)), (1, .int x1), (2, .int x2), (3, .int x3)]) [0, 1, 2, 3] rfl ?_
  exact lx_X8_valueAt_0 C hEv hl hT hz h
noncomputable def f_X8_stateOf  (w : Nat) (μ : MP) (ν : NC) (x1 : Int32) : Option (Nat × (Int32)) := bif ltB 0 (ν.2 0) then (f_X8_requireOrder w μ ν x1).bind (fun v2 => bif eqB v2.1 0 then bif nzB v2.2 then bif ltB (v2.2 - 1) (ν.2 20) then (f_X4_state w μ ν (v2.2 - 1) ).bind (fun v5 => some ((0 : Nat), v5)) else none else none else some (v2.1, (0 : Int32))) else none
set_option maxHeartbeats 4000000 in
set_option maxRecDepth 100000 in
theorem lb_X8_stateOf_0 {p : Program} {l : Launch} {e : Env} {s : State} {m : MethodId} {args : Array Value} {below : List Frame} {meth : Method} {c : Code} {D : va_G} {E : Nat → ClassId} {sz : Nat} {μ : MP} {ν : NC} {a : AS} {Ad : Nat → Nat → Nat} {w : Nat} {r0 : Int32} (C : cx p s m args meth c D E (Aof (zS μ ν a Ad) [] s.heap.size) cX8_stateOf 2 "TradeLine") (hr : meth.sig.returnType = (some .int)) (hz : s.heap.size = sz) {x1 : Int32}   (h : f_X8_stateOf  w μ ν x1 = some (0, r0)) : G p l e ({ frames := 5, cells := 0, slots := 0, locals := 124 } : Room) s m args below meth c D E (Aof (zS μ ν a Ad) [] s.heap.size) 2 (MQ below (cQ D E sz (zS μ ν a Ad) [] (pI (fun r u => r = r0 ∧ u = (zS μ ν a Ad, [])))) args s 0 0 (Aof (zS μ ν a Ad) [] s.heap.size)) (zS μ ν a Ad) [] 0 0 0 [(0, .ref (Ad 0 0)), (1, .int x1)] [] := by
  unfold f_X8_stateOf at h
  refine g_aload_n C dX8_stateOf_0 rfl 0 rfl ?_
  refine g_iload_n C dX8_stateOf_1 rfl 1 rfl ?_
  obtain ⟨g1, h⟩ := of_guard h
  obtain ⟨v2, hv2, h⟩ := bind_of h
  obtain ⟨nv2, h⟩ := of_thr h
  refine g_cVq (n := 1) (exc := []) (exr := []) C [_] _ rfl rfl [] [] rfl rfl rfl rfl (fun _ h => absurd h (by simp)) (fun _ h => absurd h (by simp)) (fun _ h => absurd h (by simp)) (fun sz => c_X8_requireOrder l μ ν a Ad w x1 _ (thr0 hv2 nv2) D E sz) rfl gw_1155 gw_1 gw_1152 gw_1154 gs_35 ⟨by decide +kernel, by decide +kernel, by decide +kernel⟩ ⟨rfl, rfl⟩ ⟨Nat.le_of_ble_eq_true rfl, Nat.le_of_ble_eq_true rfl⟩ (rcvT (lvZ g1 rfl) rfl rfl rfl) (Nat.le_of_ble_eq_true rfl) dX8_stateOf_2 ⟨by decide, by decide⟩ (fun r u hp hx => ?_)
  obtain ⟨er, rfl⟩ := hp
  rw [er]
  try dsimp only [List.append_nil]
  obtain ⟨g3, h⟩ := of_guard h
  rw [nzB_e g3]
  obtain ⟨g4, h⟩ := of_guard h
  obtain ⟨v5, hv5, h⟩ := bind_of h
  refine g_cVi (n := 0) (exc := []) (exr := []) C [] _ rfl rfl [] [] rfl rfl rfl rfl (fun _ h => absurd h (by simp)) (fun _ h => absurd h (by simp)) (fun _ h => absurd h (by simp)) (fun sz => c_X4_state l μ ν a Ad w (v2.2 - 1)  _ hv5 D E sz) rfl gw_1164 gw_30 gw_1161 gw_1162 gw_1163 ⟨by decide +kernel, by decide +kernel, by decide +kernel⟩ ⟨rfl, rfl⟩ ⟨Nat.le_of_ble_eq_true rfl, Nat.le_of_ble_eq_true rfl⟩ (rcvT (lvZ g4 rfl) rfl rfl rfl) (Nat.le_of_ble_eq_true rfl) dX8_stateOf_5 ⟨by decide, by decide⟩ (fun r u hp hx => ?_)
  obtain ⟨er, rfl⟩ := hp
  rw [er]
  try dsimp only [List.append_nil]
  obtain rfl := congrArg Prod.snd (Option.some.inj h)
  exact g_iret C hr rfl hz ⟨rfl, rfl, fun _ => rfl, fun _ => rfl⟩ ⟨rfl, rfl⟩ (fun j x h => by simp at h) dX8_stateOf_8
theorem c_X8_stateOf (l : Launch) (μ : MP) (ν : NC) (a : AS) (Ad : Nat → Nat → Nat) (w : Nat) (x1 : Int32) (r0 : Int32) (h : f_X8_stateOf w μ ν x1 = some (0, r0)) : ∀ D E sz, Met l yX8_stateOf gwX8_stateOf ({ frames := 5, cells := 0, slots := 0, locals := 124 } : Room) (cP D E sz (zS μ ν a Ad) [] [.ref (Ad 0 0), .int x1]) (cQ D E sz (zS μ ν a Ad) [] (pI (fun r u => r = r0 ∧ u = (zS μ ν a Ad, [])))) (0) (0) (Aof (zS μ ν a Ad) [] sz) := by
  intro D E sz
  refine g_of (cc := cX8_stateOf) (maxL := 2) (ret := (some .int)) (own := "TradeLine") (by decide) rfl rfl (Nat.le_of_ble_eq_true rfl) ?_
  intro p e s m args below meth c C hr hin hz ha hwr
  refine g_lv (lv' := [(0, .ref (Ad 0 0)), (1, .int x1)]) [0, 1] rfl ?_
  exact lb_X8_stateOf_0 C hr hz h
set_option maxHeartbeats 4000000 in
set_option maxRecDepth 100000 in
theorem lx_X8_stateOf_0 {p : Program} {l : Launch} {e : Env} {s : State} {m : MethodId} {args : Array Value} {below : List Frame} {meth : Method} {c : Code} {D : va_G} {E : Nat → ClassId} {sz : Nat} {μ : MP} {ν : NC} {a : AS} {Ad : Nat → Nat → Nat} {w nx : Nat} {B : Nat × (Nat → Nat)} {r0 : Int32} (C : cx p s m args meth c D E (Aof (zS μ ν a Ad) [] s.heap.size) cX8_stateOf 2 "TradeLine") (hEv : eV (Ad 30 0) (Ad 31 0) B (Aof (zS μ ν a Ad) [] s.heap.size) s s.heap) (hl : l.stackTraces = false) (hT : ∀ x ∈ c.exceptionTable.toList, False) (hz : s.heap.size = sz) {x1 : Int32}   (h : f_X8_stateOf  w μ ν x1 = some (nx + 1, r0)) : G p l e ({ frames := 7, cells := 1, slots := 6, locals := 124 } : Room) s m args below meth c D E (Aof (zS μ ν a Ad) [] s.heap.size) 2 (vx_MQ below (fun _ _ _ _ => False) (cX D E sz (zS μ ν a Ad) (nx + 1)) args s 1 6 (Aof (zS μ ν a Ad) [] s.heap.size)) (zS μ ν a Ad) [] 0 0 0 [(0, .ref (Ad 0 0)), (1, .int x1)] [] := by
  unfold f_X8_stateOf at h
  refine g_aload_n C dX8_stateOf_0 rfl 0 rfl ?_
  refine g_iload_n C dX8_stateOf_1 rfl 1 rfl ?_
  obtain ⟨g1, h⟩ := of_guard h
  obtain ⟨v2, hv2, h⟩ := bind_of h
  rcases of_thx h with ⟨nv2, h⟩ | nv2
  · refine g_cVq (n := 1) (exc := []) (exr := []) C [_] _ rfl rfl [] [] rfl rfl rfl rfl (fun _ h => absurd h (by simp)) (fun _ h => absurd h (by simp)) (fun _ h => absurd h (by simp)) (fun sz => c_X8_requireOrder l μ ν a Ad w x1 _ (thr0 hv2 nv2) D E sz) rfl gw_1155 gw_1 gw_1152 gw_1154 gs_35 ⟨by decide +kernel, by decide +kernel, by decide +kernel⟩ ⟨rfl, rfl⟩ ⟨Nat.le_of_ble_eq_true rfl, Nat.le_of_ble_eq_true rfl⟩ (rcvT (lvZ g1 rfl) rfl rfl rfl) (Nat.le_of_ble_eq_true rfl) dX8_stateOf_2 ⟨by decide, by decide⟩ (fun r u hp hx => ?_)
    obtain ⟨er, rfl⟩ := hp
    rw [er]
    try dsimp only [List.append_nil]
    obtain ⟨g3, h⟩ := of_guard h
    rw [nzB_e g3]
    obtain ⟨g4, h⟩ := of_guard h
    obtain ⟨v5, hv5, h⟩ := bind_of h
    refine g_cVi (n := 0) (exc := []) (exr := []) C [] _ rfl rfl [] [] rfl rfl rfl rfl (fun _ h => absurd h (by simp)) (fun _ h => absurd h (by simp)) (fun _ h => absurd h (by simp)) (fun sz => c_X4_state l μ ν a Ad w (v2.2 - 1)  _ hv5 D E sz) rfl gw_1164 gw_30 gw_1161 gw_1162 gw_1163 ⟨by decide +kernel, by decide +kernel, by decide +kernel⟩ ⟨rfl, rfl⟩ ⟨Nat.le_of_ble_eq_true rfl, Nat.le_of_ble_eq_true rfl⟩ (rcvT (lvZ g4 rfl) rfl rfl rfl) (Nat.le_of_ble_eq_true rfl) dX8_stateOf_5 ⟨by decide, by decide⟩ (fun r u hp hx => ?_)
    obtain ⟨er, rfl⟩ := hp
    rw [er]
    try dsimp only [List.append_nil]
    exact absurd (congrArg Prod.fst (Option.some.inj h)) (by simp)
  · exact g_xV (index := 1) C hEv ⟨rfl, rfl⟩ hT hz [_] _ rfl rfl (fun sz => x_X8_requireOrder l hl B μ ν a Ad w x1 _ _ (thrS hv2 nv2) D E sz) rfl gw_1155 gw_1 gw_1152 gw_1154 gs_35 ⟨by decide +kernel, by decide +kernel, by decide +kernel⟩ ⟨rfl, rfl⟩ ⟨Nat.le_of_ble_eq_true rfl, Nat.le_of_ble_eq_true rfl⟩ (rcvT (lvZ g1 rfl) rfl rfl rfl) (Nat.le_of_ble_eq_true rfl) dX8_stateOf_2 ⟨by decide, by decide⟩
theorem x_X8_stateOf (l : Launch) (hl : l.stackTraces = false) (B : Nat × (Nat → Nat)) (μ : MP) (ν : NC) (a : AS) (Ad : Nat → Nat → Nat) (w : Nat) (x1 : Int32) (nx : Nat) (r0 : Int32) (h : f_X8_stateOf w μ ν x1 = some (nx + 1, r0)) : ∀ D E sz, vx_Met l yX8_stateOf gwX8_stateOf ({ frames := 7, cells := 1, slots := 6, locals := 124 } : Room) (cPe D E sz B (zS μ ν a Ad) [] [] [.ref (Ad 0 0), .int x1]) (fun _ _ _ _ => False) (cX D E sz (zS μ ν a Ad) (nx + 1)) 1 6 (Aof (zS μ ν a Ad) [] sz) := by
  intro D E sz
  refine g_ofx (cc := cX8_stateOf) (maxL := 2) (ret := (some .int)) (own := "TradeLine") (by decide) rfl rfl (Nat.le_of_ble_eq_true rfl) ?_
  intro p e s m args below meth c C hT hz ha hEv
  refine g_lv (lv' := [(0, .ref (Ad 0 0)), (1, .int x1)]) [0, 1] rfl ?_
  exact lx_X8_stateOf_0 C hEv hl hT hz h
noncomputable def f_X8_isLeftOut  (w : Nat) (μ : MP) (ν : NC) (x1 : Int32) : Option (Nat × (Int32)) := bif ltB 0 (ν.2 0) then (f_X8_requireOrder w μ ν x1).bind (fun v2 => bif eqB v2.1 0 then bif nzB v2.2 then bif ltB (v2.2 - 1) (ν.2 20) then (if (μ.1 20 (v2.2 - 1) 5) = (0 : Int32) then (some ((0 : Nat), (0 : Int32))) else ((if (μ.1 20 (v2.2 - 1) 4) = (0 : Int32) then (some ((0 : Nat), (1 : Int32))) else (some ((0 : Nat), (0 : Int32)))))) else none else none else some (v2.1, (0 : Int32))) else none
set_option maxHeartbeats 4000000 in
set_option maxRecDepth 100000 in
theorem lb_X8_isLeftOut_0 {p : Program} {l : Launch} {e : Env} {s : State} {m : MethodId} {args : Array Value} {below : List Frame} {meth : Method} {c : Code} {D : va_G} {E : Nat → ClassId} {sz : Nat} {μ : MP} {ν : NC} {a : AS} {Ad : Nat → Nat → Nat} {w : Nat} {r0 : Int32} (C : cx p s m args meth c D E (Aof (zS μ ν a Ad) [] s.heap.size) cX8_isLeftOut 3 "TradeLine") (hr : meth.sig.returnType = (some .boolean)) (hz : s.heap.size = sz) {x1 : Int32}   (h : f_X8_isLeftOut  w μ ν x1 = some (0, r0)) : G p l e ({ frames := 5, cells := 0, slots := 0, locals := 124 } : Room) s m args below meth c D E (Aof (zS μ ν a Ad) [] s.heap.size) 3 (MQ below (cQ D E sz (zS μ ν a Ad) [] (pI (fun r u => r = r0 ∧ u = (zS μ ν a Ad, [])))) args s 0 0 (Aof (zS μ ν a Ad) [] s.heap.size)) (zS μ ν a Ad) [] 0 0 0 [(0, .ref (Ad 0 0)), (1, .int x1)] [] := by
  unfold f_X8_isLeftOut at h
  refine g_aload_n C dX8_isLeftOut_0 rfl 0 rfl ?_
  refine g_iload_n C dX8_isLeftOut_1 rfl 1 rfl ?_
  obtain ⟨g1, h⟩ := of_guard h
  obtain ⟨v2, hv2, h⟩ := bind_of h
  obtain ⟨nv2, h⟩ := of_thr h
  refine g_cVq (n := 1) (exc := []) (exr := []) C [_] _ rfl rfl [] [] rfl rfl rfl rfl (fun _ h => absurd h (by simp)) (fun _ h => absurd h (by simp)) (fun _ h => absurd h (by simp)) (fun sz => c_X8_requireOrder l μ ν a Ad w x1 _ (thr0 hv2 nv2) D E sz) rfl gw_1155 gw_1 gw_1152 gw_1154 gs_35 ⟨by decide +kernel, by decide +kernel, by decide +kernel⟩ ⟨rfl, rfl⟩ ⟨Nat.le_of_ble_eq_true rfl, Nat.le_of_ble_eq_true rfl⟩ (rcvT (lvZ g1 rfl) rfl rfl rfl) (Nat.le_of_ble_eq_true rfl) dX8_isLeftOut_2 ⟨by decide, by decide⟩ (fun r u hp hx => ?_)
  obtain ⟨er, rfl⟩ := hp
  rw [er]
  try dsimp only [List.append_nil]
  refine z_astore_n (i := 2) (lv' := [(2, nv (Ad 20) v2.2), (0, .ref (Ad 0 0)), (1, .int x1)]) C dX8_isLeftOut_5 (nv_or _ _) rfl (by decide) (by simp [nv_cat, cat_i, cat_r, cat_n]) ?_
  refine z_aload_n C dX8_isLeftOut_6 rfl 0 rfl (nv_or _ _) ?_
  obtain ⟨g3, h⟩ := of_guard h
  rw [nzB_e g3]
  obtain ⟨g4, h⟩ := of_guard h
  refine g_get (k := 20) (i := (v2.2 - 1)) (ref := "TradeLine$Order") (v := .int (μ.1 20 (v2.2 - 1) 5)) C rfl (lvZ g4 rfl) rfl rfl inGX4 5 (by decide) gw_1119 (fun _ h => h) rfl dX8_isLeftOut_7 ?_
  refine g_if_eq (tgt := 24) C dX8_isLeftOut_10 (by decide) (fun c10 => ?_) (fun c10 => ?_)
  · replace h := (if_pos c10).symm.trans h
    refine g_iconst (v := (0 : Int32)) C dX8_isLeftOut_24 (by decide) ?_
    obtain rfl := congrArg Prod.snd (Option.some.inj h)
    exact g_iret C hr rfl hz ⟨rfl, rfl, fun _ => rfl, fun _ => rfl⟩ ⟨rfl, rfl⟩ (fun j x h => by simp at h) dX8_isLeftOut_25
  · replace h := (if_neg c10).symm.trans h
    refine g_aload_n C dX8_isLeftOut_13 rfl 0 rfl ?_
    refine g_get (k := 20) (i := (v2.2 - 1)) (ref := "TradeLine$Order") (v := .int (μ.1 20 (v2.2 - 1) 4)) C rfl (lvZ g4 rfl) rfl rfl inGX4 4 (by decide) gw_1118 (fun _ h => h) rfl dX8_isLeftOut_14 ?_
    refine g_if_ne (tgt := 24) C dX8_isLeftOut_17 (by decide) (fun c17 => ?_) (fun c17 => ?_)
    · replace h := (if_neg c17).symm.trans h
      refine g_iconst (v := (0 : Int32)) C dX8_isLeftOut_24 (by decide) ?_
      obtain rfl := congrArg Prod.snd (Option.some.inj h)
      exact g_iret C hr rfl hz ⟨rfl, rfl, fun _ => rfl, fun _ => rfl⟩ ⟨rfl, rfl⟩ (fun j x h => by simp at h) dX8_isLeftOut_25
    · replace h := (if_pos c17).symm.trans h
      refine g_iconst (v := (1 : Int32)) C dX8_isLeftOut_20 (by decide) ?_
      refine g_goto (tgt := 25) C dX8_isLeftOut_21 (by decide) ?_
      obtain rfl := congrArg Prod.snd (Option.some.inj h)
      exact g_iret C hr rfl hz ⟨rfl, rfl, fun _ => rfl, fun _ => rfl⟩ ⟨rfl, rfl⟩ (fun j x h => by simp at h) dX8_isLeftOut_25
theorem c_X8_isLeftOut (l : Launch) (μ : MP) (ν : NC) (a : AS) (Ad : Nat → Nat → Nat) (w : Nat) (x1 : Int32) (r0 : Int32) (h : f_X8_isLeftOut w μ ν x1 = some (0, r0)) : ∀ D E sz, Met l yX8_isLeftOut gwX8_isLeftOut ({ frames := 5, cells := 0, slots := 0, locals := 124 } : Room) (cP D E sz (zS μ ν a Ad) [] [.ref (Ad 0 0), .int x1]) (cQ D E sz (zS μ ν a Ad) [] (pI (fun r u => r = r0 ∧ u = (zS μ ν a Ad, [])))) (0) (0) (Aof (zS μ ν a Ad) [] sz) := by
  intro D E sz
  refine g_of (cc := cX8_isLeftOut) (maxL := 3) (ret := (some .boolean)) (own := "TradeLine") (by decide) rfl rfl (Nat.le_of_ble_eq_true rfl) ?_
  intro p e s m args below meth c C hr hin hz ha hwr
  refine g_lv (lv' := [(0, .ref (Ad 0 0)), (1, .int x1)]) [0, 1] rfl ?_
  exact lb_X8_isLeftOut_0 C hr hz h
set_option maxHeartbeats 4000000 in
set_option maxRecDepth 100000 in
theorem lx_X8_isLeftOut_0 {p : Program} {l : Launch} {e : Env} {s : State} {m : MethodId} {args : Array Value} {below : List Frame} {meth : Method} {c : Code} {D : va_G} {E : Nat → ClassId} {sz : Nat} {μ : MP} {ν : NC} {a : AS} {Ad : Nat → Nat → Nat} {w nx : Nat} {B : Nat × (Nat → Nat)} {r0 : Int32} (C : cx p s m args meth c D E (Aof (zS μ ν a Ad) [] s.heap.size) cX8_isLeftOut 3 "TradeLine") (hEv : eV (Ad 30 0) (Ad 31 0) B (Aof (zS μ ν a Ad) [] s.heap.size) s s.heap) (hl : l.stackTraces = false) (hT : ∀ x ∈ c.exceptionTable.toList, False) (hz : s.heap.size = sz) {x1 : Int32}   (h : f_X8_isLeftOut  w μ ν x1 = some (nx + 1, r0)) : G p l e ({ frames := 7, cells := 1, slots := 6, locals := 124 } : Room) s m args below meth c D E (Aof (zS μ ν a Ad) [] s.heap.size) 3 (vx_MQ below (fun _ _ _ _ => False) (cX D E sz (zS μ ν a Ad) (nx + 1)) args s 1 6 (Aof (zS μ ν a Ad) [] s.heap.size)) (zS μ ν a Ad) [] 0 0 0 [(0, .ref (Ad 0 0)), (1, .int x1)] [] := by
  unfold f_X8_isLeftOut at h
  refine g_aload_n C dX8_isLeftOut_0 rfl 0 rfl ?_
  refine g_iload_n C dX8_isLeftOut_1 rfl 1 rfl ?_
  obtain ⟨g1, h⟩ := of_guard h
  obtain ⟨v2, hv2, h⟩ := bind_of h
  rcases of_thx h with ⟨nv2, h⟩ | nv2
  · refine g_cVq (n := 1) (exc := []) (exr := []) C [_] _ rfl rfl [] [] rfl rfl rfl rfl (fun _ h => absurd h (by simp)) (fun _ h => absurd h (by simp)) (fun _ h => absurd h (by simp)) (fun sz => c_X8_requireOrder l μ ν a Ad w x1 _ (thr0 hv2 nv2) D E sz) rfl gw_1155 gw_1 gw_1152 gw_1154 gs_35 ⟨by decide +kernel, by decide +kernel, by decide +kernel⟩ ⟨rfl, rfl⟩ ⟨Nat.le_of_ble_eq_true rfl, Nat.le_of_ble_eq_true rfl⟩ (rcvT (lvZ g1 rfl) rfl rfl rfl) (Nat.le_of_ble_eq_true rfl) dX8_isLeftOut_2 ⟨by decide, by decide⟩ (fun r u hp hx => ?_)
    obtain ⟨er, rfl⟩ := hp
    rw [er]
    try dsimp only [List.append_nil]
    refine z_astore_n (i := 2) (lv' := [(2, nv (Ad 20) v2.2), (0, .ref (Ad 0 0)), (1, .int x1)]) C dX8_isLeftOut_5 (nv_or _ _) rfl (by decide) (by simp [nv_cat, cat_i, cat_r, cat_n]) ?_
    refine z_aload_n C dX8_isLeftOut_6 rfl 0 rfl (nv_or _ _) ?_
    obtain ⟨g3, h⟩ := of_guard h
    rw [nzB_e g3]
    obtain ⟨g4, h⟩ := of_guard h
    refine g_get (k := 20) (i := (v2.2 - 1)) (ref := "TradeLine$Order") (v := .int (μ.1 20 (v2.2 - 1) 5)) C rfl (lvZ g4 rfl) rfl rfl inGX4 5 (by decide) gw_1119 (fun _ h => h) rfl dX8_isLeftOut_7 ?_
    refine g_if_eq (tgt := 24) C dX8_isLeftOut_10 (by decide) (fun c10 => ?_) (fun c10 => ?_)
    · replace h := (if_pos c10).symm.trans h
      refine g_iconst (v := (0 : Int32)) C dX8_isLeftOut_24 (by decide) ?_
      exact absurd (congrArg Prod.fst (Option.some.inj h)) (by simp)
    · replace h := (if_neg c10).symm.trans h
      refine g_aload_n C dX8_isLeftOut_13 rfl 0 rfl ?_
      refine g_get (k := 20) (i := (v2.2 - 1)) (ref := "TradeLine$Order") (v := .int (μ.1 20 (v2.2 - 1) 4)) C rfl (lvZ g4 rfl) rfl rfl inGX4 4 (by decide) gw_1118 (fun _ h => h) rfl dX8_isLeftOut_14 ?_
      refine g_if_ne (tgt := 24) C dX8_isLeftOut_17 (by decide) (fun c17 => ?_) (fun c17 => ?_)
      · replace h := (if_neg c17).symm.trans h
        refine g_iconst (v := (0 : Int32)) C dX8_isLeftOut_24 (by decide) ?_
        exact absurd (congrArg Prod.fst (Option.some.inj h)) (by simp)
      · replace h := (if_pos c17).symm.trans h
        refine g_iconst (v := (1 : Int32)) C dX8_isLeftOut_20 (by decide) ?_
        refine g_goto (tgt := 25) C dX8_isLeftOut_21 (by decide) ?_
        exact absurd (congrArg Prod.fst (Option.some.inj h)) (by simp)
  · exact g_xV (index := 1) C hEv ⟨rfl, rfl⟩ hT hz [_] _ rfl rfl (fun sz => x_X8_requireOrder l hl B μ ν a Ad w x1 _ _ (thrS hv2 nv2) D E sz) rfl gw_1155 gw_1 gw_1152 gw_1154 gs_35 ⟨by decide +kernel, by decide +kernel, by decide +kernel⟩ ⟨rfl, rfl⟩ ⟨Nat.le_of_ble_eq_true rfl, Nat.le_of_ble_eq_true rfl⟩ (rcvT (lvZ g1 rfl) rfl rfl rfl) (Nat.le_of_ble_eq_true rfl) dX8_isLeftOut_2 ⟨by decide, by decide⟩
theorem x_X8_isLeftOut (l : Launch) (hl : l.stackTraces = false) (B : Nat × (Nat → Nat)) (μ : MP) (ν : NC) (a : AS) (Ad : Nat → Nat → Nat) (w : Nat) (x1 : Int32) (nx : Nat) (r0 : Int32) (h : f_X8_isLeftOut w μ ν x1 = some (nx + 1, r0)) : ∀ D E sz, vx_Met l yX8_isLeftOut gwX8_isLeftOut ({ frames := 7, cells := 1, slots := 6, locals := 124 } : Room) (cPe D E sz B (zS μ ν a Ad) [] [] [.ref (Ad 0 0), .int x1]) (fun _ _ _ _ => False) (cX D E sz (zS μ ν a Ad) (nx + 1)) 1 6 (Aof (zS μ ν a Ad) [] sz) := by
  intro D E sz
  refine g_ofx (cc := cX8_isLeftOut) (maxL := 3) (ret := (some .boolean)) (own := "TradeLine") (by decide) rfl rfl (Nat.le_of_ble_eq_true rfl) ?_
  intro p e s m args below meth c C hT hz ha hEv
  refine g_lv (lv' := [(0, .ref (Ad 0 0)), (1, .int x1)]) [0, 1] rfl ?_
  exact lx_X8_isLeftOut_0 C hEv hl hT hz h
noncomputable def f_X8_underWay  (w : Nat) (μ : MP) (ν : NC) (x1 : Int32) : Option (Nat × (Int32)) := bif ltB 0 (ν.2 0) then (f_X8_requireOrder w μ ν x1).bind (fun v2 => bif eqB v2.1 0 then bif nzB v2.2 then bif ltB (v2.2 - 1) (ν.2 20) then some ((0 : Nat), (μ.1 20 (v2.2 - 1) 7)) else none else none else some (v2.1, (0 : Int32))) else none
set_option maxHeartbeats 4000000 in
set_option maxRecDepth 100000 in
theorem lb_X8_underWay_0 {p : Program} {l : Launch} {e : Env} {s : State} {m : MethodId} {args : Array Value} {below : List Frame} {meth : Method} {c : Code} {D : va_G} {E : Nat → ClassId} {sz : Nat} {μ : MP} {ν : NC} {a : AS} {Ad : Nat → Nat → Nat} {w : Nat} {r0 : Int32} (C : cx p s m args meth c D E (Aof (zS μ ν a Ad) [] s.heap.size) cX8_underWay 2 "TradeLine") (hr : meth.sig.returnType = (some .int)) (hz : s.heap.size = sz) {x1 : Int32}   (h : f_X8_underWay  w μ ν x1 = some (0, r0)) : G p l e ({ frames := 5, cells := 0, slots := 0, locals := 124 } : Room) s m args below meth c D E (Aof (zS μ ν a Ad) [] s.heap.size) 2 (MQ below (cQ D E sz (zS μ ν a Ad) [] (pI (fun r u => r = r0 ∧ u = (zS μ ν a Ad, [])))) args s 0 0 (Aof (zS μ ν a Ad) [] s.heap.size)) (zS μ ν a Ad) [] 0 0 0 [(0, .ref (Ad 0 0)), (1, .int x1)] [] := by
  unfold f_X8_underWay at h
  refine g_aload_n C dX8_underWay_0 rfl 0 rfl ?_
  refine g_iload_n C dX8_underWay_1 rfl 1 rfl ?_
  obtain ⟨g1, h⟩ := of_guard h
  obtain ⟨v2, hv2, h⟩ := bind_of h
  obtain ⟨nv2, h⟩ := of_thr h
  refine g_cVq (n := 1) (exc := []) (exr := []) C [_] _ rfl rfl [] [] rfl rfl rfl rfl (fun _ h => absurd h (by simp)) (fun _ h => absurd h (by simp)) (fun _ h => absurd h (by simp)) (fun sz => c_X8_requireOrder l μ ν a Ad w x1 _ (thr0 hv2 nv2) D E sz) rfl gw_1155 gw_1 gw_1152 gw_1154 gs_35 ⟨by decide +kernel, by decide +kernel, by decide +kernel⟩ ⟨rfl, rfl⟩ ⟨Nat.le_of_ble_eq_true rfl, Nat.le_of_ble_eq_true rfl⟩ (rcvT (lvZ g1 rfl) rfl rfl rfl) (Nat.le_of_ble_eq_true rfl) dX8_underWay_2 ⟨by decide, by decide⟩ (fun r u hp hx => ?_)
  obtain ⟨er, rfl⟩ := hp
  rw [er]
  try dsimp only [List.append_nil]
  obtain ⟨g3, h⟩ := of_guard h
  rw [nzB_e g3]
  obtain ⟨g4, h⟩ := of_guard h
  refine g_get (k := 20) (i := (v2.2 - 1)) (ref := "TradeLine$Order") (v := .int (μ.1 20 (v2.2 - 1) 7)) C rfl (lvZ g4 rfl) rfl rfl inGX4 7 (by decide) gw_1123 (fun _ h => h) rfl dX8_underWay_5 ?_
  obtain rfl := congrArg Prod.snd (Option.some.inj h)
  exact g_iret C hr rfl hz ⟨rfl, rfl, fun _ => rfl, fun _ => rfl⟩ ⟨rfl, rfl⟩ (fun j x h => by simp at h) dX8_underWay_8
theorem c_X8_underWay (l : Launch) (μ : MP) (ν : NC) (a : AS) (Ad : Nat → Nat → Nat) (w : Nat) (x1 : Int32) (r0 : Int32) (h : f_X8_underWay w μ ν x1 = some (0, r0)) : ∀ D E sz, Met l yX8_underWay gwX8_underWay ({ frames := 5, cells := 0, slots := 0, locals := 124 } : Room) (cP D E sz (zS μ ν a Ad) [] [.ref (Ad 0 0), .int x1]) (cQ D E sz (zS μ ν a Ad) [] (pI (fun r u => r = r0 ∧ u = (zS μ ν a Ad, [])))) (0) (0) (Aof (zS μ ν a Ad) [] sz) := by
  intro D E sz
  refine g_of (cc := cX8_underWay) (maxL := 2) (ret := (some .int)) (own := "TradeLine") (by decide) rfl rfl (Nat.le_of_ble_eq_true rfl) ?_
  intro p e s m args below meth c C hr hin hz ha hwr
  refine g_lv (lv' := [(0, .ref (Ad 0 0)), (1, .int x1)]) [0, 1] rfl ?_
  exact lb_X8_underWay_0 C hr hz h
set_option maxHeartbeats 4000000 in
set_option maxRecDepth 100000 in
theorem lx_X8_underWay_0 {p : Program} {l : Launch} {e : Env} {s : State} {m : MethodId} {args : Array Value} {below : List Frame} {meth : Method} {c : Code} {D : va_G} {E : Nat → ClassId} {sz : Nat} {μ : MP} {ν : NC} {a : AS} {Ad : Nat → Nat → Nat} {w nx : Nat} {B : Nat × (Nat → Nat)} {r0 : Int32} (C : cx p s m args meth c D E (Aof (zS μ ν a Ad) [] s.heap.size) cX8_underWay 2 "TradeLine") (hEv : eV (Ad 30 0) (Ad 31 0) B (Aof (zS μ ν a Ad) [] s.heap.size) s s.heap) (hl : l.stackTraces = false) (hT : ∀ x ∈ c.exceptionTable.toList, False) (hz : s.heap.size = sz) {x1 : Int32}   (h : f_X8_underWay  w μ ν x1 = some (nx + 1, r0)) : G p l e ({ frames := 7, cells := 1, slots := 6, locals := 124 } : Room) s m args below meth c D E (Aof (zS μ ν a Ad) [] s.heap.size) 2 (vx_MQ below (fun _ _ _ _ => False) (cX D E sz (zS μ ν a Ad) (nx + 1)) args s 1 6 (Aof (zS μ ν a Ad) [] s.heap.size)) (zS μ ν a Ad) [] 0 0 0 [(0, .ref (Ad 0 0)), (1, .int x1)] [] := by
  unfold f_X8_underWay at h
  refine g_aload_n C dX8_underWay_0 rfl 0 rfl ?_
  refine g_iload_n C dX8_underWay_1 rfl 1 rfl ?_
  obtain ⟨g1, h⟩ := of_guard h
  obtain ⟨v2, hv2, h⟩ := bind_of h
  rcases of_thx h with ⟨nv2, h⟩ | nv2
  · refine g_cVq (n := 1) (exc := []) (exr := []) C [_] _ rfl rfl [] [] rfl rfl rfl rfl (fun _ h => absurd h (by simp)) (fun _ h => absurd h (by simp)) (fun _ h => absurd h (by simp)) (fun sz => c_X8_requireOrder l μ ν a Ad w x1 _ (thr0 hv2 nv2) D E sz) rfl gw_1155 gw_1 gw_1152 gw_1154 gs_35 ⟨by decide +kernel, by decide +kernel, by decide +kernel⟩ ⟨rfl, rfl⟩ ⟨Nat.le_of_ble_eq_true rfl, Nat.le_of_ble_eq_true rfl⟩ (rcvT (lvZ g1 rfl) rfl rfl rfl) (Nat.le_of_ble_eq_true rfl) dX8_underWay_2 ⟨by decide, by decide⟩ (fun r u hp hx => ?_)
    obtain ⟨er, rfl⟩ := hp
    rw [er]
    try dsimp only [List.append_nil]
    obtain ⟨g3, h⟩ := of_guard h
    rw [nzB_e g3]
    obtain ⟨g4, h⟩ := of_guard h
    refine g_get (k := 20) (i := (v2.2 - 1)) (ref := "TradeLine$Order") (v := .int (μ.1 20 (v2.2 - 1) 7)) C rfl (lvZ g4 rfl) rfl rfl inGX4 7 (by decide) gw_1123 (fun _ h => h) rfl dX8_underWay_5 ?_
    exact absurd (congrArg Prod.fst (Option.some.inj h)) (by simp)
  · exact g_xV (index := 1) C hEv ⟨rfl, rfl⟩ hT hz [_] _ rfl rfl (fun sz => x_X8_requireOrder l hl B μ ν a Ad w x1 _ _ (thrS hv2 nv2) D E sz) rfl gw_1155 gw_1 gw_1152 gw_1154 gs_35 ⟨by decide +kernel, by decide +kernel, by decide +kernel⟩ ⟨rfl, rfl⟩ ⟨Nat.le_of_ble_eq_true rfl, Nat.le_of_ble_eq_true rfl⟩ (rcvT (lvZ g1 rfl) rfl rfl rfl) (Nat.le_of_ble_eq_true rfl) dX8_underWay_2 ⟨by decide, by decide⟩
theorem x_X8_underWay (l : Launch) (hl : l.stackTraces = false) (B : Nat × (Nat → Nat)) (μ : MP) (ν : NC) (a : AS) (Ad : Nat → Nat → Nat) (w : Nat) (x1 : Int32) (nx : Nat) (r0 : Int32) (h : f_X8_underWay w μ ν x1 = some (nx + 1, r0)) : ∀ D E sz, vx_Met l yX8_underWay gwX8_underWay ({ frames := 7, cells := 1, slots := 6, locals := 124 } : Room) (cPe D E sz B (zS μ ν a Ad) [] [] [.ref (Ad 0 0), .int x1]) (fun _ _ _ _ => False) (cX D E sz (zS μ ν a Ad) (nx + 1)) 1 6 (Aof (zS μ ν a Ad) [] sz) := by
  intro D E sz
  refine g_ofx (cc := cX8_underWay) (maxL := 2) (ret := (some .int)) (own := "TradeLine") (by decide) rfl rfl (Nat.le_of_ble_eq_true rfl) ?_
  intro p e s m args below meth c C hT hz ha hEv
  refine g_lv (lv' := [(0, .ref (Ad 0 0)), (1, .int x1)]) [0, 1] rfl ?_
  exact lx_X8_underWay_0 C hEv hl hT hz h
noncomputable def f_X8_quoted  (w : Nat) (μ : MP) (ν : NC) (x1 : Int32) (x2 : Int32) : Option (Nat × (Int32)) := bif ltB 0 (ν.2 0) then (f_X8_requireQuote w μ ν x1 x2).bind (fun v2 => bif eqB v2.1 0 then bif nzB v2.2 then bif ltB (v2.2 - 1) (ν.2 25) then some ((0 : Nat), (μ.1 25 (v2.2 - 1) 2)) else none else none else some (v2.1, (0 : Int32))) else none
set_option maxHeartbeats 4000000 in
set_option maxRecDepth 100000 in
theorem lb_X8_quoted_0 {p : Program} {l : Launch} {e : Env} {s : State} {m : MethodId} {args : Array Value} {below : List Frame} {meth : Method} {c : Code} {D : va_G} {E : Nat → ClassId} {sz : Nat} {μ : MP} {ν : NC} {a : AS} {Ad : Nat → Nat → Nat} {w : Nat} {r0 : Int32} (C : cx p s m args meth c D E (Aof (zS μ ν a Ad) [] s.heap.size) cX8_quoted 3 "TradeLine") (hr : meth.sig.returnType = (some .int)) (hz : s.heap.size = sz) {x1 : Int32} {x2 : Int32}   (h : f_X8_quoted  w μ ν x1 x2 = some (0, r0)) : G p l e ({ frames := 2, cells := 0, slots := 0, locals := 44 } : Room) s m args below meth c D E (Aof (zS μ ν a Ad) [] s.heap.size) 3 (MQ below (cQ D E sz (zS μ ν a Ad) [] (pI (fun r u => r = r0 ∧ u = (zS μ ν a Ad, [])))) args s 0 0 (Aof (zS μ ν a Ad) [] s.heap.size)) (zS μ ν a Ad) [] 0 0 0 [(0, .ref (Ad 0 0)), (1, .int x1), (2, .int x2)] [] := by
  unfold f_X8_quoted at h
  refine g_aload_n C dX8_quoted_0 rfl 0 rfl ?_
  refine g_iload_n C dX8_quoted_1 rfl 1 rfl ?_
  refine g_iload_n C dX8_quoted_2 rfl 2 rfl ?_
  obtain ⟨g1, h⟩ := of_guard h
  obtain ⟨v2, hv2, h⟩ := bind_of h
  obtain ⟨nv2, h⟩ := of_thr h
  refine g_cVq (n := 2) (exc := []) (exr := []) C [_, _] _ rfl rfl [] [] rfl rfl rfl rfl (fun _ h => absurd h (by simp)) (fun _ h => absurd h (by simp)) (fun _ h => absurd h (by simp)) (fun sz => c_X8_requireQuote l μ ν a Ad w x1 x2 _ (thr0 hv2 nv2) D E sz) rfl gw_1183 gw_1 gw_1180 gw_1182 gs_37 ⟨by decide +kernel, by decide +kernel, by decide +kernel⟩ ⟨rfl, rfl⟩ ⟨Nat.le_of_ble_eq_true rfl, Nat.le_of_ble_eq_true rfl⟩ (rcvT (lvZ g1 rfl) rfl rfl rfl) (Nat.le_of_ble_eq_true rfl) dX8_quoted_3 ⟨by decide, by decide⟩ (fun r u hp hx => ?_)
  obtain ⟨er, rfl⟩ := hp
  rw [er]
  try dsimp only [List.append_nil]
  obtain ⟨g3, h⟩ := of_guard h
  rw [nzB_e g3]
  obtain ⟨g4, h⟩ := of_guard h
  refine g_get (k := 25) (i := (v2.2 - 1)) (ref := "TradeLine$Quote") (v := .int (μ.1 25 (v2.2 - 1) 2)) C rfl (lvZ g4 rfl) rfl rfl inGX6 2 (by decide) gw_162 (fun _ h => h) rfl dX8_quoted_6 ?_
  obtain rfl := congrArg Prod.snd (Option.some.inj h)
  exact g_iret C hr rfl hz ⟨rfl, rfl, fun _ => rfl, fun _ => rfl⟩ ⟨rfl, rfl⟩ (fun j x h => by simp at h) dX8_quoted_9
theorem c_X8_quoted (l : Launch) (μ : MP) (ν : NC) (a : AS) (Ad : Nat → Nat → Nat) (w : Nat) (x1 : Int32) (x2 : Int32) (r0 : Int32) (h : f_X8_quoted w μ ν x1 x2 = some (0, r0)) : ∀ D E sz, Met l yX8_quoted gwX8_quoted ({ frames := 2, cells := 0, slots := 0, locals := 44 } : Room) (cP D E sz (zS μ ν a Ad) [] [.ref (Ad 0 0), .int x1, .int x2]) (cQ D E sz (zS μ ν a Ad) [] (pI (fun r u => r = r0 ∧ u = (zS μ ν a Ad, [])))) (0) (0) (Aof (zS μ ν a Ad) [] sz) := by
  intro D E sz
  refine g_of (cc := cX8_quoted) (maxL := 3) (ret := (some .int)) (own := "TradeLine") (by decide) rfl rfl (Nat.le_of_ble_eq_true rfl) ?_
  intro p e s m args below meth c C hr hin hz ha hwr
  refine g_lv (lv' := [(0, .ref (Ad 0 0)), (1, .int x1), (2, .int x2)]) [0, 1, 2] rfl ?_
  exact lb_X8_quoted_0 C hr hz h
set_option maxHeartbeats 4000000 in
set_option maxRecDepth 100000 in
theorem lx_X8_quoted_0 {p : Program} {l : Launch} {e : Env} {s : State} {m : MethodId} {args : Array Value} {below : List Frame} {meth : Method} {c : Code} {D : va_G} {E : Nat → ClassId} {sz : Nat} {μ : MP} {ν : NC} {a : AS} {Ad : Nat → Nat → Nat} {w nx : Nat} {B : Nat × (Nat → Nat)} {r0 : Int32} (C : cx p s m args meth c D E (Aof (zS μ ν a Ad) [] s.heap.size) cX8_quoted 3 "TradeLine") (hEv : eV (Ad 30 0) (Ad 31 0) B (Aof (zS μ ν a Ad) [] s.heap.size) s s.heap) (hl : l.stackTraces = false) (hT : ∀ x ∈ c.exceptionTable.toList, False) (hz : s.heap.size = sz) {x1 : Int32} {x2 : Int32}   (h : f_X8_quoted  w μ ν x1 x2 = some (nx + 1, r0)) : G p l e ({ frames := 7, cells := 1, slots := 6, locals := 123 } : Room) s m args below meth c D E (Aof (zS μ ν a Ad) [] s.heap.size) 3 (vx_MQ below (fun _ _ _ _ => False) (cX D E sz (zS μ ν a Ad) (nx + 1)) args s 1 6 (Aof (zS μ ν a Ad) [] s.heap.size)) (zS μ ν a Ad) [] 0 0 0 [(0, .ref (Ad 0 0)), (1, .int x1), (2, .int x2)] [] := by
  unfold f_X8_quoted at h
  refine g_aload_n C dX8_quoted_0 rfl 0 rfl ?_
  refine g_iload_n C dX8_quoted_1 rfl 1 rfl ?_
  refine g_iload_n C dX8_quoted_2 rfl 2 rfl ?_
  obtain ⟨g1, h⟩ := of_guard h
  obtain ⟨v2, hv2, h⟩ := bind_of h
  rcases of_thx h with ⟨nv2, h⟩ | nv2
  · refine g_cVq (n := 2) (exc := []) (exr := []) C [_, _] _ rfl rfl [] [] rfl rfl rfl rfl (fun _ h => absurd h (by simp)) (fun _ h => absurd h (by simp)) (fun _ h => absurd h (by simp)) (fun sz => c_X8_requireQuote l μ ν a Ad w x1 x2 _ (thr0 hv2 nv2) D E sz) rfl gw_1183 gw_1 gw_1180 gw_1182 gs_37 ⟨by decide +kernel, by decide +kernel, by decide +kernel⟩ ⟨rfl, rfl⟩ ⟨Nat.le_of_ble_eq_true rfl, Nat.le_of_ble_eq_true rfl⟩ (rcvT (lvZ g1 rfl) rfl rfl rfl) (Nat.le_of_ble_eq_true rfl) dX8_quoted_3 ⟨by decide, by decide⟩ (fun r u hp hx => ?_)
    obtain ⟨er, rfl⟩ := hp
    rw [er]
    try dsimp only [List.append_nil]
    obtain ⟨g3, h⟩ := of_guard h
    rw [nzB_e g3]
    obtain ⟨g4, h⟩ := of_guard h
    refine g_get (k := 25) (i := (v2.2 - 1)) (ref := "TradeLine$Quote") (v := .int (μ.1 25 (v2.2 - 1) 2)) C rfl (lvZ g4 rfl) rfl rfl inGX6 2 (by decide) gw_162 (fun _ h => h) rfl dX8_quoted_6 ?_
    exact absurd (congrArg Prod.fst (Option.some.inj h)) (by simp)
  · exact g_xV (index := 2) C hEv ⟨rfl, rfl⟩ hT hz [_, _] _ rfl rfl (fun sz => x_X8_requireQuote l hl B μ ν a Ad w x1 x2 _ _ (thrS hv2 nv2) D E sz) rfl gw_1183 gw_1 gw_1180 gw_1182 gs_37 ⟨by decide +kernel, by decide +kernel, by decide +kernel⟩ ⟨rfl, rfl⟩ ⟨Nat.le_of_ble_eq_true rfl, Nat.le_of_ble_eq_true rfl⟩ (rcvT (lvZ g1 rfl) rfl rfl rfl) (Nat.le_of_ble_eq_true rfl) dX8_quoted_3 ⟨by decide, by decide⟩
theorem x_X8_quoted (l : Launch) (hl : l.stackTraces = false) (B : Nat × (Nat → Nat)) (μ : MP) (ν : NC) (a : AS) (Ad : Nat → Nat → Nat) (w : Nat) (x1 : Int32) (x2 : Int32) (nx : Nat) (r0 : Int32) (h : f_X8_quoted w μ ν x1 x2 = some (nx + 1, r0)) : ∀ D E sz, vx_Met l yX8_quoted gwX8_quoted ({ frames := 7, cells := 1, slots := 6, locals := 123 } : Room) (cPe D E sz B (zS μ ν a Ad) [] [] [.ref (Ad 0 0), .int x1, .int x2]) (fun _ _ _ _ => False) (cX D E sz (zS μ ν a Ad) (nx + 1)) 1 6 (Aof (zS μ ν a Ad) [] sz) := by
  intro D E sz
  refine g_ofx (cc := cX8_quoted) (maxL := 3) (ret := (some .int)) (own := "TradeLine") (by decide) rfl rfl (Nat.le_of_ble_eq_true rfl) ?_
  intro p e s m args below meth c C hT hz ha hEv
  refine g_lv (lv' := [(0, .ref (Ad 0 0)), (1, .int x1), (2, .int x2)]) [0, 1, 2] rfl ?_
  exact lx_X8_quoted_0 C hEv hl hT hz h
noncomputable def f_X8_left  (w : Nat) (μ : MP) (ν : NC) (x1 : Int32) (x2 : Int32) : Option (Nat × (Int32)) := (f_X8_requireSide w μ ν x1).bind (fun v1 => bif eqB v1.1 0 then bif ltB 0 (ν.2 0) then (f_X8_requireOrder w μ ν x2).bind (fun v3 => bif eqB v3.1 0 then bif nzB v3.2 then bif ltB (v3.2 - 1) (ν.2 20) then (f_X4_isInBook w μ ν (v3.2 - 1) x1).bind (fun v6 => (if v6 = (0 : Int32) then (some ((0 : Nat), (-1 : Int32))) else ((f_X4_leftFor w μ ν (v3.2 - 1) x1).bind (fun v7 => some ((0 : Nat), v7))))) else none else none else some (v3.1, (0 : Int32))) else none else some (v1.1, (0 : Int32)))
set_option maxHeartbeats 4000000 in
set_option maxRecDepth 100000 in
theorem lb_X8_left_0 {p : Program} {l : Launch} {e : Env} {s : State} {m : MethodId} {args : Array Value} {below : List Frame} {meth : Method} {c : Code} {D : va_G} {E : Nat → ClassId} {sz : Nat} {μ : MP} {ν : NC} {a : AS} {Ad : Nat → Nat → Nat} {w : Nat} {r0 : Int32} (C : cx p s m args meth c D E (Aof (zS μ ν a Ad) [] s.heap.size) cX8_left 4 "TradeLine") (hr : meth.sig.returnType = (some .int)) (hz : s.heap.size = sz) {x1 : Int32} {x2 : Int32}   (h : f_X8_left  w μ ν x1 x2 = some (0, r0)) : G p l e ({ frames := 5, cells := 0, slots := 0, locals := 124 } : Room) s m args below meth c D E (Aof (zS μ ν a Ad) [] s.heap.size) 4 (MQ below (cQ D E sz (zS μ ν a Ad) [] (pI (fun r u => r = r0 ∧ u = (zS μ ν a Ad, [])))) args s 0 0 (Aof (zS μ ν a Ad) [] s.heap.size)) (zS μ ν a Ad) [] 0 0 0 [(0, .ref (Ad 0 0)), (1, .int x1), (2, .int x2)] [] := by
  unfold f_X8_left at h
  refine g_iload_n C dX8_left_0 rfl 1 rfl ?_
  obtain ⟨v1, hv1, h⟩ := bind_of h
  obtain ⟨nv1, h⟩ := of_thr h
  refine g_cSv (n := 1) (exc := []) (exr := []) C [_] _ rfl rfl [] [] rfl rfl rfl rfl (fun _ h => absurd h (by simp)) (fun _ h => absurd h (by simp)) (fun _ h => absurd h (by simp)) (fun sz => c_X8_requireSide l μ ν a Ad w x1 _ (thr0 hv1 nv1) D E sz) rfl gw_481 gw_1 gw_479 gw_480 ⟨by decide +kernel, by decide +kernel, by decide +kernel⟩ ⟨rfl, rfl⟩ ⟨Nat.le_of_ble_eq_true rfl, Nat.le_of_ble_eq_true rfl⟩ (Nat.le_of_ble_eq_true rfl) dX8_left_1 ⟨by decide, by decide⟩ (fun u hp hx => ?_)
  obtain rfl := hp
  try dsimp only [List.append_nil]
  refine g_aload_n C dX8_left_4 rfl 0 rfl ?_
  refine g_iload_n C dX8_left_5 rfl 2 rfl ?_
  obtain ⟨g2, h⟩ := of_guard h
  obtain ⟨v3, hv3, h⟩ := bind_of h
  obtain ⟨nv3, h⟩ := of_thr h
  refine g_cVq (n := 1) (exc := []) (exr := []) C [_] _ rfl rfl [] [] rfl rfl rfl rfl (fun _ h => absurd h (by simp)) (fun _ h => absurd h (by simp)) (fun _ h => absurd h (by simp)) (fun sz => c_X8_requireOrder l μ ν a Ad w x2 _ (thr0 hv3 nv3) D E sz) rfl gw_1155 gw_1 gw_1152 gw_1154 gs_35 ⟨by decide +kernel, by decide +kernel, by decide +kernel⟩ ⟨rfl, rfl⟩ ⟨Nat.le_of_ble_eq_true rfl, Nat.le_of_ble_eq_true rfl⟩ (rcvT (lvZ g2 rfl) rfl rfl rfl) (Nat.le_of_ble_eq_true rfl) dX8_left_6 ⟨by decide, by decide⟩ (fun r u hp hx => ?_)
  obtain ⟨er, rfl⟩ := hp
  rw [er]
  try dsimp only [List.append_nil]
  refine z_astore_n (i := 3) (lv' := [(3, nv (Ad 20) v3.2), (0, .ref (Ad 0 0)), (1, .int x1), (2, .int x2)]) C dX8_left_9 (nv_or _ _) rfl (by decide) (by simp [nv_cat, cat_i, cat_r, cat_n]) ?_
  refine z_aload_n C dX8_left_10 rfl 0 rfl (nv_or _ _) ?_
  refine g_iload_n C dX8_left_11 rfl 2 rfl ?_
  obtain ⟨g4, h⟩ := of_guard h
  rw [nzB_e g4]
  obtain ⟨g5, h⟩ := of_guard h
  obtain ⟨v6, hv6, h⟩ := bind_of h
  refine g_cVi (n := 1) (exc := []) (exr := []) C [_] _ rfl rfl [] [] rfl rfl rfl rfl (fun _ h => absurd h (by simp)) (fun _ h => absurd h (by simp)) (fun _ h => absurd h (by simp)) (fun sz => c_X4_isInBook l μ ν a Ad w (v3.2 - 1) x1 _ hv6 D E sz) rfl gw_1334 gw_30 gw_1331 gw_1332 gw_1333 ⟨by decide +kernel, by decide +kernel, by decide +kernel⟩ ⟨rfl, rfl⟩ ⟨Nat.le_of_ble_eq_true rfl, Nat.le_of_ble_eq_true rfl⟩ (rcvT (lvZ g5 rfl) rfl rfl rfl) (Nat.le_of_ble_eq_true rfl) dX8_left_12 ⟨by decide, by decide⟩ (fun r u hp hx => ?_)
  obtain ⟨er, rfl⟩ := hp
  rw [er]
  try dsimp only [List.append_nil]
  refine g_if_eq (tgt := 26) C dX8_left_15 (by decide) (fun c15 => ?_) (fun c15 => ?_)
  · replace h := (if_pos c15).symm.trans h
    refine g_iconst (v := (-1 : Int32)) C dX8_left_26 (by decide) ?_
    obtain rfl := congrArg Prod.snd (Option.some.inj h)
    exact g_iret C hr rfl hz ⟨rfl, rfl, fun _ => rfl, fun _ => rfl⟩ ⟨rfl, rfl⟩ (fun j x h => by simp at h) dX8_left_27
  · replace h := (if_neg c15).symm.trans h
    refine g_aload_n C dX8_left_18 rfl 0 rfl ?_
    refine g_iload_n C dX8_left_19 rfl 2 rfl ?_
    obtain ⟨v7, hv7, h⟩ := bind_of h
    refine g_cVi (n := 1) (exc := []) (exr := []) C [_] _ rfl rfl [] [] rfl rfl rfl rfl (fun _ h => absurd h (by simp)) (fun _ h => absurd h (by simp)) (fun _ h => absurd h (by simp)) (fun sz => c_X4_leftFor l μ ν a Ad w (v3.2 - 1) x1 _ hv7 D E sz) rfl gw_1338 gw_30 gw_1335 gw_1336 gw_1337 ⟨by decide +kernel, by decide +kernel, by decide +kernel⟩ ⟨rfl, rfl⟩ ⟨Nat.le_of_ble_eq_true rfl, Nat.le_of_ble_eq_true rfl⟩ (rcvT (lvZ g5 rfl) rfl rfl rfl) (Nat.le_of_ble_eq_true rfl) dX8_left_20 ⟨by decide, by decide⟩ (fun r u hp hx => ?_)
    obtain ⟨er, rfl⟩ := hp
    rw [er]
    try dsimp only [List.append_nil]
    refine g_goto (tgt := 27) C dX8_left_23 (by decide) ?_
    obtain rfl := congrArg Prod.snd (Option.some.inj h)
    exact g_iret C hr rfl hz ⟨rfl, rfl, fun _ => rfl, fun _ => rfl⟩ ⟨rfl, rfl⟩ (fun j x h => by simp at h) dX8_left_27
theorem c_X8_left (l : Launch) (μ : MP) (ν : NC) (a : AS) (Ad : Nat → Nat → Nat) (w : Nat) (x1 : Int32) (x2 : Int32) (r0 : Int32) (h : f_X8_left w μ ν x1 x2 = some (0, r0)) : ∀ D E sz, Met l yX8_left gwX8_left ({ frames := 5, cells := 0, slots := 0, locals := 124 } : Room) (cP D E sz (zS μ ν a Ad) [] [.ref (Ad 0 0), .int x1, .int x2]) (cQ D E sz (zS μ ν a Ad) [] (pI (fun r u => r = r0 ∧ u = (zS μ ν a Ad, [])))) (0) (0) (Aof (zS μ ν a Ad) [] sz) := by
  intro D E sz
  refine g_of (cc := cX8_left) (maxL := 4) (ret := (some .int)) (own := "TradeLine") (by decide) rfl rfl (Nat.le_of_ble_eq_true rfl) ?_
  intro p e s m args below meth c C hr hin hz ha hwr
  refine g_lv (lv' := [(0, .ref (Ad 0 0)), (1, .int x1), (2, .int x2)]) [0, 1, 2] rfl ?_
  exact lb_X8_left_0 C hr hz h
set_option maxHeartbeats 4000000 in
set_option maxRecDepth 100000 in
theorem lx_X8_left_0 {p : Program} {l : Launch} {e : Env} {s : State} {m : MethodId} {args : Array Value} {below : List Frame} {meth : Method} {c : Code} {D : va_G} {E : Nat → ClassId} {sz : Nat} {μ : MP} {ν : NC} {a : AS} {Ad : Nat → Nat → Nat} {w nx : Nat} {B : Nat × (Nat → Nat)} {r0 : Int32} (C : cx p s m args meth c D E (Aof (zS μ ν a Ad) [] s.heap.size) cX8_left 4 "TradeLine") (hEv : eV (Ad 30 0) (Ad 31 0) B (Aof (zS μ ν a Ad) [] s.heap.size) s s.heap) (hl : l.stackTraces = false) (hT : ∀ x ∈ c.exceptionTable.toList, False) (hz : s.heap.size = sz) {x1 : Int32} {x2 : Int32}   (h : f_X8_left  w μ ν x1 x2 = some (nx + 1, r0)) : G p l e ({ frames := 7, cells := 1, slots := 6, locals := 124 } : Room) s m args below meth c D E (Aof (zS μ ν a Ad) [] s.heap.size) 4 (vx_MQ below (fun _ _ _ _ => False) (cX D E sz (zS μ ν a Ad) (nx + 1)) args s 1 6 (Aof (zS μ ν a Ad) [] s.heap.size)) (zS μ ν a Ad) [] 0 0 0 [(0, .ref (Ad 0 0)), (1, .int x1), (2, .int x2)] [] := by
  unfold f_X8_left at h
  refine g_iload_n C dX8_left_0 rfl 1 rfl ?_
  obtain ⟨v1, hv1, h⟩ := bind_of h
  rcases of_thx h with ⟨nv1, h⟩ | nv1
  · refine g_cSv (n := 1) (exc := []) (exr := []) C [_] _ rfl rfl [] [] rfl rfl rfl rfl (fun _ h => absurd h (by simp)) (fun _ h => absurd h (by simp)) (fun _ h => absurd h (by simp)) (fun sz => c_X8_requireSide l μ ν a Ad w x1 _ (thr0 hv1 nv1) D E sz) rfl gw_481 gw_1 gw_479 gw_480 ⟨by decide +kernel, by decide +kernel, by decide +kernel⟩ ⟨rfl, rfl⟩ ⟨Nat.le_of_ble_eq_true rfl, Nat.le_of_ble_eq_true rfl⟩ (Nat.le_of_ble_eq_true rfl) dX8_left_1 ⟨by decide, by decide⟩ (fun u hp hx => ?_)
    obtain rfl := hp
    try dsimp only [List.append_nil]
    refine g_aload_n C dX8_left_4 rfl 0 rfl ?_
    refine g_iload_n C dX8_left_5 rfl 2 rfl ?_
    obtain ⟨g2, h⟩ := of_guard h
    obtain ⟨v3, hv3, h⟩ := bind_of h
    rcases of_thx h with ⟨nv3, h⟩ | nv3
    · refine g_cVq (n := 1) (exc := []) (exr := []) C [_] _ rfl rfl [] [] rfl rfl rfl rfl (fun _ h => absurd h (by simp)) (fun _ h => absurd h (by simp)) (fun _ h => absurd h (by simp)) (fun sz => c_X8_requireOrder l μ ν a Ad w x2 _ (thr0 hv3 nv3) D E sz) rfl gw_1155 gw_1 gw_1152 gw_1154 gs_35 ⟨by decide +kernel, by decide +kernel, by decide +kernel⟩ ⟨rfl, rfl⟩ ⟨Nat.le_of_ble_eq_true rfl, Nat.le_of_ble_eq_true rfl⟩ (rcvT (lvZ g2 rfl) rfl rfl rfl) (Nat.le_of_ble_eq_true rfl) dX8_left_6 ⟨by decide, by decide⟩ (fun r u hp hx => ?_)
      obtain ⟨er, rfl⟩ := hp
      rw [er]
      try dsimp only [List.append_nil]
      refine z_astore_n (i := 3) (lv' := [(3, nv (Ad 20) v3.2), (0, .ref (Ad 0 0)), (1, .int x1), (2, .int x2)]) C dX8_left_9 (nv_or _ _) rfl (by decide) (by simp [nv_cat, cat_i, cat_r, cat_n]) ?_
      refine z_aload_n C dX8_left_10 rfl 0 rfl (nv_or _ _) ?_
      refine g_iload_n C dX8_left_11 rfl 2 rfl ?_
      obtain ⟨g4, h⟩ := of_guard h
      rw [nzB_e g4]
      obtain ⟨g5, h⟩ := of_guard h
      obtain ⟨v6, hv6, h⟩ := bind_of h
      refine g_cVi (n := 1) (exc := []) (exr := []) C [_] _ rfl rfl [] [] rfl rfl rfl rfl (fun _ h => absurd h (by simp)) (fun _ h => absurd h (by simp)) (fun _ h => absurd h (by simp)) (fun sz => c_X4_isInBook l μ ν a Ad w (v3.2 - 1) x1 _ hv6 D E sz) rfl gw_1334 gw_30 gw_1331 gw_1332 gw_1333 ⟨by decide +kernel, by decide +kernel, by decide +kernel⟩ ⟨rfl, rfl⟩ ⟨Nat.le_of_ble_eq_true rfl, Nat.le_of_ble_eq_true rfl⟩ (rcvT (lvZ g5 rfl) rfl rfl rfl) (Nat.le_of_ble_eq_true rfl) dX8_left_12 ⟨by decide, by decide⟩ (fun r u hp hx => ?_)
      obtain ⟨er, rfl⟩ := hp
      rw [er]
      try dsimp only [List.append_nil]
      refine g_if_eq (tgt := 26) C dX8_left_15 (by decide) (fun c15 => ?_) (fun c15 => ?_)
      · replace h := (if_pos c15).symm.trans h
        refine g_iconst (v := (-1 : Int32)) C dX8_left_26 (by decide) ?_
        exact absurd (congrArg Prod.fst (Option.some.inj h)) (by simp)
      · replace h := (if_neg c15).symm.trans h
        refine g_aload_n C dX8_left_18 rfl 0 rfl ?_
        refine g_iload_n C dX8_left_19 rfl 2 rfl ?_
        obtain ⟨v7, hv7, h⟩ := bind_of h
        refine g_cVi (n := 1) (exc := []) (exr := []) C [_] _ rfl rfl [] [] rfl rfl rfl rfl (fun _ h => absurd h (by simp)) (fun _ h => absurd h (by simp)) (fun _ h => absurd h (by simp)) (fun sz => c_X4_leftFor l μ ν a Ad w (v3.2 - 1) x1 _ hv7 D E sz) rfl gw_1338 gw_30 gw_1335 gw_1336 gw_1337 ⟨by decide +kernel, by decide +kernel, by decide +kernel⟩ ⟨rfl, rfl⟩ ⟨Nat.le_of_ble_eq_true rfl, Nat.le_of_ble_eq_true rfl⟩ (rcvT (lvZ g5 rfl) rfl rfl rfl) (Nat.le_of_ble_eq_true rfl) dX8_left_20 ⟨by decide, by decide⟩ (fun r u hp hx => ?_)
        obtain ⟨er, rfl⟩ := hp
        rw [er]
        try dsimp only [List.append_nil]
        refine g_goto (tgt := 27) C dX8_left_23 (by decide) ?_
        exact absurd (congrArg Prod.fst (Option.some.inj h)) (by simp)
    · exact g_xV (index := 1) C hEv ⟨rfl, rfl⟩ hT hz [_] _ rfl rfl (fun sz => x_X8_requireOrder l hl B μ ν a Ad w x2 _ _ (thrS hv3 nv3) D E sz) rfl gw_1155 gw_1 gw_1152 gw_1154 gs_35 ⟨by decide +kernel, by decide +kernel, by decide +kernel⟩ ⟨rfl, rfl⟩ ⟨Nat.le_of_ble_eq_true rfl, Nat.le_of_ble_eq_true rfl⟩ (rcvT (lvZ g2 rfl) rfl rfl rfl) (Nat.le_of_ble_eq_true rfl) dX8_left_6 ⟨by decide, by decide⟩
  · exact g_xS (index := 1) C hEv ⟨rfl, rfl⟩ hT hz [_] _ rfl rfl (fun sz => x_X8_requireSide l hl B μ ν a Ad w x1 _ _ (thrS hv1 nv1) D E sz) rfl gw_481 gw_1 gw_479 gw_480 ⟨by decide +kernel, by decide +kernel, by decide +kernel⟩ ⟨rfl, rfl⟩ ⟨Nat.le_of_ble_eq_true rfl, Nat.le_of_ble_eq_true rfl⟩ (Nat.le_of_ble_eq_true rfl) dX8_left_1 ⟨by decide, by decide⟩
theorem x_X8_left (l : Launch) (hl : l.stackTraces = false) (B : Nat × (Nat → Nat)) (μ : MP) (ν : NC) (a : AS) (Ad : Nat → Nat → Nat) (w : Nat) (x1 : Int32) (x2 : Int32) (nx : Nat) (r0 : Int32) (h : f_X8_left w μ ν x1 x2 = some (nx + 1, r0)) : ∀ D E sz, vx_Met l yX8_left gwX8_left ({ frames := 7, cells := 1, slots := 6, locals := 124 } : Room) (cPe D E sz B (zS μ ν a Ad) [] [] [.ref (Ad 0 0), .int x1, .int x2]) (fun _ _ _ _ => False) (cX D E sz (zS μ ν a Ad) (nx + 1)) 1 6 (Aof (zS μ ν a Ad) [] sz) := by
  intro D E sz
  refine g_ofx (cc := cX8_left) (maxL := 4) (ret := (some .int)) (own := "TradeLine") (by decide) rfl rfl (Nat.le_of_ble_eq_true rfl) ?_
  intro p e s m args below meth c C hT hz ha hEv
  refine g_lv (lv' := [(0, .ref (Ad 0 0)), (1, .int x1), (2, .int x2)]) [0, 1, 2] rfl ?_
  exact lx_X8_left_0 C hEv hl hT hz h
noncomputable def f_X8_done  (w : Nat) (μ : MP) (ν : NC) (x1 : Int32) (x2 : Int32) : Option (Nat × (Int32)) := (f_X8_requireSide w μ ν x1).bind (fun v1 => bif eqB v1.1 0 then bif ltB 0 (ν.2 0) then (f_X8_requireOrder w μ ν x2).bind (fun v3 => bif eqB v3.1 0 then bif nzB v3.2 then bif ltB (v3.2 - 1) (ν.2 20) then (f_X4_isInBook w μ ν (v3.2 - 1) x1).bind (fun v6 => (if v6 = (0 : Int32) then (some ((0 : Nat), (-1 : Int32))) else ((f_X4_book w μ ν (v3.2 - 1) x1).bind (fun v7 => bif nzB v7 then bif ltB (v7 - 1) (ν.2 21) then some ((0 : Nat), (μ.1 21 (v7 - 1) 2)) else none else none)))) else none else none else some (v3.1, (0 : Int32))) else none else some (v1.1, (0 : Int32)))
set_option maxHeartbeats 4000000 in
set_option maxRecDepth 100000 in
theorem lb_X8_done_0 {p : Program} {l : Launch} {e : Env} {s : State} {m : MethodId} {args : Array Value} {below : List Frame} {meth : Method} {c : Code} {D : va_G} {E : Nat → ClassId} {sz : Nat} {μ : MP} {ν : NC} {a : AS} {Ad : Nat → Nat → Nat} {w : Nat} {r0 : Int32} (C : cx p s m args meth c D E (Aof (zS μ ν a Ad) [] s.heap.size) cX8_done 4 "TradeLine") (hr : meth.sig.returnType = (some .int)) (hz : s.heap.size = sz) {x1 : Int32} {x2 : Int32}   (h : f_X8_done  w μ ν x1 x2 = some (0, r0)) : G p l e ({ frames := 5, cells := 0, slots := 0, locals := 124 } : Room) s m args below meth c D E (Aof (zS μ ν a Ad) [] s.heap.size) 4 (MQ below (cQ D E sz (zS μ ν a Ad) [] (pI (fun r u => r = r0 ∧ u = (zS μ ν a Ad, [])))) args s 0 0 (Aof (zS μ ν a Ad) [] s.heap.size)) (zS μ ν a Ad) [] 0 0 0 [(0, .ref (Ad 0 0)), (1, .int x1), (2, .int x2)] [] := by
  unfold f_X8_done at h
  refine g_iload_n C dX8_done_0 rfl 1 rfl ?_
  obtain ⟨v1, hv1, h⟩ := bind_of h
  obtain ⟨nv1, h⟩ := of_thr h
  refine g_cSv (n := 1) (exc := []) (exr := []) C [_] _ rfl rfl [] [] rfl rfl rfl rfl (fun _ h => absurd h (by simp)) (fun _ h => absurd h (by simp)) (fun _ h => absurd h (by simp)) (fun sz => c_X8_requireSide l μ ν a Ad w x1 _ (thr0 hv1 nv1) D E sz) rfl gw_481 gw_1 gw_479 gw_480 ⟨by decide +kernel, by decide +kernel, by decide +kernel⟩ ⟨rfl, rfl⟩ ⟨Nat.le_of_ble_eq_true rfl, Nat.le_of_ble_eq_true rfl⟩ (Nat.le_of_ble_eq_true rfl) dX8_done_1 ⟨by decide, by decide⟩ (fun u hp hx => ?_)
  obtain rfl := hp
  try dsimp only [List.append_nil]
  refine g_aload_n C dX8_done_4 rfl 0 rfl ?_
  refine g_iload_n C dX8_done_5 rfl 2 rfl ?_
  obtain ⟨g2, h⟩ := of_guard h
  obtain ⟨v3, hv3, h⟩ := bind_of h
  obtain ⟨nv3, h⟩ := of_thr h
  refine g_cVq (n := 1) (exc := []) (exr := []) C [_] _ rfl rfl [] [] rfl rfl rfl rfl (fun _ h => absurd h (by simp)) (fun _ h => absurd h (by simp)) (fun _ h => absurd h (by simp)) (fun sz => c_X8_requireOrder l μ ν a Ad w x2 _ (thr0 hv3 nv3) D E sz) rfl gw_1155 gw_1 gw_1152 gw_1154 gs_35 ⟨by decide +kernel, by decide +kernel, by decide +kernel⟩ ⟨rfl, rfl⟩ ⟨Nat.le_of_ble_eq_true rfl, Nat.le_of_ble_eq_true rfl⟩ (rcvT (lvZ g2 rfl) rfl rfl rfl) (Nat.le_of_ble_eq_true rfl) dX8_done_6 ⟨by decide, by decide⟩ (fun r u hp hx => ?_)
  obtain ⟨er, rfl⟩ := hp
  rw [er]
  try dsimp only [List.append_nil]
  refine z_astore_n (i := 3) (lv' := [(3, nv (Ad 20) v3.2), (0, .ref (Ad 0 0)), (1, .int x1), (2, .int x2)]) C dX8_done_9 (nv_or _ _) rfl (by decide) (by simp [nv_cat, cat_i, cat_r, cat_n]) ?_
  refine z_aload_n C dX8_done_10 rfl 0 rfl (nv_or _ _) ?_
  refine g_iload_n C dX8_done_11 rfl 2 rfl ?_
  obtain ⟨g4, h⟩ := of_guard h
  rw [nzB_e g4]
  obtain ⟨g5, h⟩ := of_guard h
  obtain ⟨v6, hv6, h⟩ := bind_of h
  refine g_cVi (n := 1) (exc := []) (exr := []) C [_] _ rfl rfl [] [] rfl rfl rfl rfl (fun _ h => absurd h (by simp)) (fun _ h => absurd h (by simp)) (fun _ h => absurd h (by simp)) (fun sz => c_X4_isInBook l μ ν a Ad w (v3.2 - 1) x1 _ hv6 D E sz) rfl gw_1334 gw_30 gw_1331 gw_1332 gw_1333 ⟨by decide +kernel, by decide +kernel, by decide +kernel⟩ ⟨rfl, rfl⟩ ⟨Nat.le_of_ble_eq_true rfl, Nat.le_of_ble_eq_true rfl⟩ (rcvT (lvZ g5 rfl) rfl rfl rfl) (Nat.le_of_ble_eq_true rfl) dX8_done_12 ⟨by decide, by decide⟩ (fun r u hp hx => ?_)
  obtain ⟨er, rfl⟩ := hp
  rw [er]
  try dsimp only [List.append_nil]
  refine g_if_eq (tgt := 29) C dX8_done_15 (by decide) (fun c15 => ?_) (fun c15 => ?_)
  · replace h := (if_pos c15).symm.trans h
    refine g_iconst (v := (-1 : Int32)) C dX8_done_29 (by decide) ?_
    obtain rfl := congrArg Prod.snd (Option.some.inj h)
    exact g_iret C hr rfl hz ⟨rfl, rfl, fun _ => rfl, fun _ => rfl⟩ ⟨rfl, rfl⟩ (fun j x h => by simp at h) dX8_done_30
  · replace h := (if_neg c15).symm.trans h
    refine g_aload_n C dX8_done_18 rfl 0 rfl ?_
    refine g_iload_n C dX8_done_19 rfl 2 rfl ?_
    obtain ⟨v7, hv7, h⟩ := bind_of h
    refine g_cVq (n := 1) (exc := []) (exr := []) C [_] _ rfl rfl [] [] rfl rfl rfl rfl (fun _ h => absurd h (by simp)) (fun _ h => absurd h (by simp)) (fun _ h => absurd h (by simp)) (fun sz => c_X4_book l μ ν a Ad w (v3.2 - 1) x1 _ hv7 D E sz) rfl gw_1342 gw_30 gw_1350 gw_1340 gw_1341 ⟨by decide +kernel, by decide +kernel, by decide +kernel⟩ ⟨rfl, rfl⟩ ⟨Nat.le_of_ble_eq_true rfl, Nat.le_of_ble_eq_true rfl⟩ (rcvT (lvZ g5 rfl) rfl rfl rfl) (Nat.le_of_ble_eq_true rfl) dX8_done_20 ⟨by decide, by decide⟩ (fun r u hp hx => ?_)
    obtain ⟨er, rfl⟩ := hp
    rw [er]
    try dsimp only [List.append_nil]
    obtain ⟨g8, h⟩ := of_guard h
    rw [nzB_e g8]
    obtain ⟨g9, h⟩ := of_guard h
    refine g_get (k := 21) (i := (v7 - 1)) (ref := "TradeLine$Book") (v := .int (μ.1 21 (v7 - 1) 2)) C rfl (lvZ g9 rfl) rfl rfl inGX1 2 (by decide) gw_1096 (fun _ h => h) rfl dX8_done_23 ?_
    refine g_goto (tgt := 30) C dX8_done_26 (by decide) ?_
    obtain rfl := congrArg Prod.snd (Option.some.inj h)
    exact g_iret C hr rfl hz ⟨rfl, rfl, fun _ => rfl, fun _ => rfl⟩ ⟨rfl, rfl⟩ (fun j x h => by simp at h) dX8_done_30
theorem c_X8_done (l : Launch) (μ : MP) (ν : NC) (a : AS) (Ad : Nat → Nat → Nat) (w : Nat) (x1 : Int32) (x2 : Int32) (r0 : Int32) (h : f_X8_done w μ ν x1 x2 = some (0, r0)) : ∀ D E sz, Met l yX8_done gwX8_done ({ frames := 5, cells := 0, slots := 0, locals := 124 } : Room) (cP D E sz (zS μ ν a Ad) [] [.ref (Ad 0 0), .int x1, .int x2]) (cQ D E sz (zS μ ν a Ad) [] (pI (fun r u => r = r0 ∧ u = (zS μ ν a Ad, [])))) (0) (0) (Aof (zS μ ν a Ad) [] sz) := by
  intro D E sz
  refine g_of (cc := cX8_done) (maxL := 4) (ret := (some .int)) (own := "TradeLine") (by decide) rfl rfl (Nat.le_of_ble_eq_true rfl) ?_
  intro p e s m args below meth c C hr hin hz ha hwr
  refine g_lv (lv' := [(0, .ref (Ad 0 0)), (1, .int x1), (2, .int x2)]) [0, 1, 2] rfl ?_
  exact lb_X8_done_0 C hr hz h
set_option maxHeartbeats 4000000 in
set_option maxRecDepth 100000 in
theorem lx_X8_done_0 {p : Program} {l : Launch} {e : Env} {s : State} {m : MethodId} {args : Array Value} {below : List Frame} {meth : Method} {c : Code} {D : va_G} {E : Nat → ClassId} {sz : Nat} {μ : MP} {ν : NC} {a : AS} {Ad : Nat → Nat → Nat} {w nx : Nat} {B : Nat × (Nat → Nat)} {r0 : Int32} (C : cx p s m args meth c D E (Aof (zS μ ν a Ad) [] s.heap.size) cX8_done 4 "TradeLine") (hEv : eV (Ad 30 0) (Ad 31 0) B (Aof (zS μ ν a Ad) [] s.heap.size) s s.heap) (hl : l.stackTraces = false) (hT : ∀ x ∈ c.exceptionTable.toList, False) (hz : s.heap.size = sz) {x1 : Int32} {x2 : Int32}   (h : f_X8_done  w μ ν x1 x2 = some (nx + 1, r0)) : G p l e ({ frames := 7, cells := 1, slots := 6, locals := 124 } : Room) s m args below meth c D E (Aof (zS μ ν a Ad) [] s.heap.size) 4 (vx_MQ below (fun _ _ _ _ => False) (cX D E sz (zS μ ν a Ad) (nx + 1)) args s 1 6 (Aof (zS μ ν a Ad) [] s.heap.size)) (zS μ ν a Ad) [] 0 0 0 [(0, .ref (Ad 0 0)), (1, .int x1), (2, .int x2)] [] := by
  unfold f_X8_done at h
  refine g_iload_n C dX8_done_0 rfl 1 rfl ?_
  obtain ⟨v1, hv1, h⟩ := bind_of h
  rcases of_thx h with ⟨nv1, h⟩ | nv1
  · refine g_cSv (n := 1) (exc := []) (exr := []) C [_] _ rfl rfl [] [] rfl rfl rfl rfl (fun _ h => absurd h (by simp)) (fun _ h => absurd h (by simp)) (fun _ h => absurd h (by simp)) (fun sz => c_X8_requireSide l μ ν a Ad w x1 _ (thr0 hv1 nv1) D E sz) rfl gw_481 gw_1 gw_479 gw_480 ⟨by decide +kernel, by decide +kernel, by decide +kernel⟩ ⟨rfl, rfl⟩ ⟨Nat.le_of_ble_eq_true rfl, Nat.le_of_ble_eq_true rfl⟩ (Nat.le_of_ble_eq_true rfl) dX8_done_1 ⟨by decide, by decide⟩ (fun u hp hx => ?_)
    obtain rfl := hp
    try dsimp only [List.append_nil]
    refine g_aload_n C dX8_done_4 rfl 0 rfl ?_
    refine g_iload_n C dX8_done_5 rfl 2 rfl ?_
    obtain ⟨g2, h⟩ := of_guard h
    obtain ⟨v3, hv3, h⟩ := bind_of h
    rcases of_thx h with ⟨nv3, h⟩ | nv3
    · refine g_cVq (n := 1) (exc := []) (exr := []) C [_] _ rfl rfl [] [] rfl rfl rfl rfl (fun _ h => absurd h (by simp)) (fun _ h => absurd h (by simp)) (fun _ h => absurd h (by simp)) (fun sz => c_X8_requireOrder l μ ν a Ad w x2 _ (thr0 hv3 nv3) D E sz) rfl gw_1155 gw_1 gw_1152 gw_1154 gs_35 ⟨by decide +kernel, by decide +kernel, by decide +kernel⟩ ⟨rfl, rfl⟩ ⟨Nat.le_of_ble_eq_true rfl, Nat.le_of_ble_eq_true rfl⟩ (rcvT (lvZ g2 rfl) rfl rfl rfl) (Nat.le_of_ble_eq_true rfl) dX8_done_6 ⟨by decide, by decide⟩ (fun r u hp hx => ?_)
      obtain ⟨er, rfl⟩ := hp
      rw [er]
      try dsimp only [List.append_nil]
      refine z_astore_n (i := 3) (lv' := [(3, nv (Ad 20) v3.2), (0, .ref (Ad 0 0)), (1, .int x1), (2, .int x2)]) C dX8_done_9 (nv_or _ _) rfl (by decide) (by simp [nv_cat, cat_i, cat_r, cat_n]) ?_
      refine z_aload_n C dX8_done_10 rfl 0 rfl (nv_or _ _) ?_
      refine g_iload_n C dX8_done_11 rfl 2 rfl ?_
      obtain ⟨g4, h⟩ := of_guard h
      rw [nzB_e g4]
      obtain ⟨g5, h⟩ := of_guard h
      obtain ⟨v6, hv6, h⟩ := bind_of h
      refine g_cVi (n := 1) (exc := []) (exr := []) C [_] _ rfl rfl [] [] rfl rfl rfl rfl (fun _ h => absurd h (by simp)) (fun _ h => absurd h (by simp)) (fun _ h => absurd h (by simp)) (fun sz => c_X4_isInBook l μ ν a Ad w (v3.2 - 1) x1 _ hv6 D E sz) rfl gw_1334 gw_30 gw_1331 gw_1332 gw_1333 ⟨by decide +kernel, by decide +kernel, by decide +kernel⟩ ⟨rfl, rfl⟩ ⟨Nat.le_of_ble_eq_true rfl, Nat.le_of_ble_eq_true rfl⟩ (rcvT (lvZ g5 rfl) rfl rfl rfl) (Nat.le_of_ble_eq_true rfl) dX8_done_12 ⟨by decide, by decide⟩ (fun r u hp hx => ?_)
      obtain ⟨er, rfl⟩ := hp
      rw [er]
      try dsimp only [List.append_nil]
      refine g_if_eq (tgt := 29) C dX8_done_15 (by decide) (fun c15 => ?_) (fun c15 => ?_)
      · replace h := (if_pos c15).symm.trans h
        refine g_iconst (v := (-1 : Int32)) C dX8_done_29 (by decide) ?_
        exact absurd (congrArg Prod.fst (Option.some.inj h)) (by simp)
      · replace h := (if_neg c15).symm.trans h
        refine g_aload_n C dX8_done_18 rfl 0 rfl ?_
        refine g_iload_n C dX8_done_19 rfl 2 rfl ?_
        obtain ⟨v7, hv7, h⟩ := bind_of h
        refine g_cVq (n := 1) (exc := []) (exr := []) C [_] _ rfl rfl [] [] rfl rfl rfl rfl (fun _ h => absurd h (by simp)) (fun _ h => absurd h (by simp)) (fun _ h => absurd h (by simp)) (fun sz => c_X4_book l μ ν a Ad w (v3.2 - 1) x1 _ hv7 D E sz) rfl gw_1342 gw_30 gw_1350 gw_1340 gw_1341 ⟨by decide +kernel, by decide +kernel, by decide +kernel⟩ ⟨rfl, rfl⟩ ⟨Nat.le_of_ble_eq_true rfl, Nat.le_of_ble_eq_true rfl⟩ (rcvT (lvZ g5 rfl) rfl rfl rfl) (Nat.le_of_ble_eq_true rfl) dX8_done_20 ⟨by decide, by decide⟩ (fun r u hp hx => ?_)
        obtain ⟨er, rfl⟩ := hp
        rw [er]
        try dsimp only [List.append_nil]
        obtain ⟨g8, h⟩ := of_guard h
        rw [nzB_e g8]
        obtain ⟨g9, h⟩ := of_guard h
        refine g_get (k := 21) (i := (v7 - 1)) (ref := "TradeLine$Book") (v := .int (μ.1 21 (v7 - 1) 2)) C rfl (lvZ g9 rfl) rfl rfl inGX1 2 (by decide) gw_1096 (fun _ h => h) rfl dX8_done_23 ?_
        refine g_goto (tgt := 30) C dX8_done_26 (by decide) ?_
        exact absurd (congrArg Prod.fst (Option.some.inj h)) (by simp)
    · exact g_xV (index := 1) C hEv ⟨rfl, rfl⟩ hT hz [_] _ rfl rfl (fun sz => x_X8_requireOrder l hl B μ ν a Ad w x2 _ _ (thrS hv3 nv3) D E sz) rfl gw_1155 gw_1 gw_1152 gw_1154 gs_35 ⟨by decide +kernel, by decide +kernel, by decide +kernel⟩ ⟨rfl, rfl⟩ ⟨Nat.le_of_ble_eq_true rfl, Nat.le_of_ble_eq_true rfl⟩ (rcvT (lvZ g2 rfl) rfl rfl rfl) (Nat.le_of_ble_eq_true rfl) dX8_done_6 ⟨by decide, by decide⟩
  · exact g_xS (index := 1) C hEv ⟨rfl, rfl⟩ hT hz [_] _ rfl rfl (fun sz => x_X8_requireSide l hl B μ ν a Ad w x1 _ _ (thrS hv1 nv1) D E sz) rfl gw_481 gw_1 gw_479 gw_480 ⟨by decide +kernel, by decide +kernel, by decide +kernel⟩ ⟨rfl, rfl⟩ ⟨Nat.le_of_ble_eq_true rfl, Nat.le_of_ble_eq_true rfl⟩ (Nat.le_of_ble_eq_true rfl) dX8_done_1 ⟨by decide, by decide⟩
theorem x_X8_done (l : Launch) (hl : l.stackTraces = false) (B : Nat × (Nat → Nat)) (μ : MP) (ν : NC) (a : AS) (Ad : Nat → Nat → Nat) (w : Nat) (x1 : Int32) (x2 : Int32) (nx : Nat) (r0 : Int32) (h : f_X8_done w μ ν x1 x2 = some (nx + 1, r0)) : ∀ D E sz, vx_Met l yX8_done gwX8_done ({ frames := 7, cells := 1, slots := 6, locals := 124 } : Room) (cPe D E sz B (zS μ ν a Ad) [] [] [.ref (Ad 0 0), .int x1, .int x2]) (fun _ _ _ _ => False) (cX D E sz (zS μ ν a Ad) (nx + 1)) 1 6 (Aof (zS μ ν a Ad) [] sz) := by
  intro D E sz
  refine g_ofx (cc := cX8_done) (maxL := 4) (ret := (some .int)) (own := "TradeLine") (by decide) rfl rfl (Nat.le_of_ble_eq_true rfl) ?_
  intro p e s m args below meth c C hT hz ha hEv
  refine g_lv (lv' := [(0, .ref (Ad 0 0)), (1, .int x1), (2, .int x2)]) [0, 1, 2] rfl ?_
  exact lx_X8_done_0 C hEv hl hT hz h
noncomputable def b_X8_doneByLog_80 (k26 : Int32 → Nat → Int32 → Int32 → Option (Nat × (Int32))) (w : Nat) (μ : MP) (ν : NC) (x1 : Int32) (p3 : Nat) (x4 : Int32) (x5 : Int32) : Option (Nat × (Int32)) := yl (x5 + (1 : Int32)) (fun t15 => k26 x1 p3 x4 t15)
set_option maxHeartbeats 4000000 in
set_option maxRecDepth 100000 in
theorem lb_X8_doneByLog_80 {p : Program} {l : Launch} {e : Env} {s : State} {m : MethodId} {args : Array Value} {below : List Frame} {meth : Method} {c : Code} {D : va_G} {E : Nat → ClassId} {sz : Nat} {μ : MP} {ν : NC} {a : AS} {Ad : Nat → Nat → Nat} {w : Nat} {r0 : Int32} (C : cx p s m args meth c D E (Aof (zS μ ν a Ad) [] s.heap.size) cX8_doneByLog 7 "TradeLine") (hr : meth.sig.returnType = (some .int)) (hz : s.heap.size = sz) {x1 : Int32} {p3 : Nat} {x4 : Int32} {x5 : Int32} {k26 : Int32 → Nat → Int32 → Int32 → Option (Nat × (Int32))} (hk26 : ∀ (z1 : Int32) (z3 : Nat) (z4 : Int32) (z5 : Int32), k26 z1 z3 z4 z5 = some (0, r0) → G p l e ({ frames := 5, cells := 0, slots := 0, locals := 124 } : Room) s m args below meth c D E (Aof (zS μ ν a Ad) [] s.heap.size) 7 (MQ below (cQ D E sz (zS μ ν a Ad) [] (pI (fun r u => r = r0 ∧ u = (zS μ ν a Ad, [])))) args s 0 0 (Aof (zS μ ν a Ad) [] s.heap.size)) (zS μ ν a Ad) [] 0 0 26 [(0, .ref (Ad 0 0)), (1, .int z1), (3, nv (Ad 20) z3), (4, .int z4), (5, .int z5)] []) (h : b_X8_doneByLog_80 k26 w μ ν x1 p3 x4 x5 = some (0, r0)) : G p l e ({ frames := 5, cells := 0, slots := 0, locals := 124 } : Room) s m args below meth c D E (Aof (zS μ ν a Ad) [] s.heap.size) 7 (MQ below (cQ D E sz (zS μ ν a Ad) [] (pI (fun r u => r = r0 ∧ u = (zS μ ν a Ad, [])))) args s 0 0 (Aof (zS μ ν a Ad) [] s.heap.size)) (zS μ ν a Ad) [] 0 0 80 [(0, .ref (Ad 0 0)), (1, .int x1), (3, nv (Ad 20) p3), (4, .int x4), (5, .int x5)] [] := by
  unfold b_X8_doneByLog_80 at h
  obtain ⟨t15, et15⟩ : ∃ y : Int32, x5 + (1 : Int32) = y := ⟨_, rfl⟩
  replace h := yl_of h et15
  refine g_iinc (v := t15) (lv' := [(5, .int t15), (0, .ref (Ad 0 0)), (1, .int x1), (3, nv (Ad 20) p3), (4, .int x4)]) C dX8_doneByLog_80 4 rfl (by rw [← et15]; rfl) (by decide) (by simp [nv_cat, cat_i, cat_r, cat_n]) ?_
  refine g_goto (tgt := 26) C dX8_doneByLog_83 (by decide) ?_
  refine g_lv [1, 2, 3, 4, 0] rfl ?_
  exact hk26 _ _ _ _ h
noncomputable def b_X8_doneByLog_26 (k26 : Int32 → Nat → Int32 → Int32 → Option (Nat × (Int32))) (w : Nat) (μ : MP) (ν : NC) (x1 : Int32) (p3 : Nat) (x4 : Int32) (x5 : Int32) : Option (Nat × (Int32)) := bif ltB 0 (ν.2 0) then bif ltB 5 (ν.2 4) then (if (μ.1 4 5 2) ≤ x5 then (some ((0 : Nat), x4)) else ((ls_get μ ν 5 x5).bind (fun v9 => bif eqB (eK 5 5) 23 then bif ltB v9 (ν.2 23) then bif nzB p3 then bif ltB (p3 - 1) (ν.2 20) then bif ltB (μ.2 23 v9 0) (ν.2 20) then (if (μ.2 23 v9 0) = (p3 - 1) then ((f_X2_countsFor w μ ν v9 x1).bind (fun v16 => (if v16 = (0 : Int32) then (b_X8_doneByLog_80 k26 w μ ν x1 ((p3 - 1) + 1) x4 x5) else (yl ((x4 + (μ.1 23 v9 2))) (fun t17 => b_X8_doneByLog_80 k26 w μ ν x1 ((p3 - 1) + 1) t17 x5))))) else (b_X8_doneByLog_80 k26 w μ ν x1 ((p3 - 1) + 1) x4 x5)) else none else none else none else none else none))) else none else none
set_option maxHeartbeats 4000000 in
set_option maxRecDepth 100000 in
theorem lb_X8_doneByLog_26 {p : Program} {l : Launch} {e : Env} {s : State} {m : MethodId} {args : Array Value} {below : List Frame} {meth : Method} {c : Code} {D : va_G} {E : Nat → ClassId} {sz : Nat} {μ : MP} {ν : NC} {a : AS} {Ad : Nat → Nat → Nat} {w : Nat} {r0 : Int32} (C : cx p s m args meth c D E (Aof (zS μ ν a Ad) [] s.heap.size) cX8_doneByLog 7 "TradeLine") (hr : meth.sig.returnType = (some .int)) (hz : s.heap.size = sz) {x1 : Int32} {p3 : Nat} {x4 : Int32} {x5 : Int32} {k26 : Int32 → Nat → Int32 → Int32 → Option (Nat × (Int32))} (hk26 : ∀ (z1 : Int32) (z3 : Nat) (z4 : Int32) (z5 : Int32), k26 z1 z3 z4 z5 = some (0, r0) → G p l e ({ frames := 5, cells := 0, slots := 0, locals := 124 } : Room) s m args below meth c D E (Aof (zS μ ν a Ad) [] s.heap.size) 7 (MQ below (cQ D E sz (zS μ ν a Ad) [] (pI (fun r u => r = r0 ∧ u = (zS μ ν a Ad, [])))) args s 0 0 (Aof (zS μ ν a Ad) [] s.heap.size)) (zS μ ν a Ad) [] 0 0 26 [(0, .ref (Ad 0 0)), (1, .int z1), (3, nv (Ad 20) z3), (4, .int z4), (5, .int z5)] []) (h : b_X8_doneByLog_26 k26 w μ ν x1 p3 x4 x5 = some (0, r0)) : G p l e ({ frames := 5, cells := 0, slots := 0, locals := 124 } : Room) s m args below meth c D E (Aof (zS μ ν a Ad) [] s.heap.size) 7 (MQ below (cQ D E sz (zS μ ν a Ad) [] (pI (fun r u => r = r0 ∧ u = (zS μ ν a Ad, [])))) args s 0 0 (Aof (zS μ ν a Ad) [] s.heap.size)) (zS μ ν a Ad) [] 0 0 26 [(0, .ref (Ad 0 0)), (1, .int x1), (3, nv (Ad 20) p3), (4, .int x4), (5, .int x5)] [] := by
  unfold b_X8_doneByLog_26 at h
  refine g_iload C dX8_doneByLog_26 4 rfl ?_
  refine g_aload_n C dX8_doneByLog_28 rfl 0 rfl ?_
  obtain ⟨g7, h⟩ := of_guard h
  refine g_get (k := 0) (i := 0) (ref := "TradeLine") (v := .ref (Ad 4 5)) C rfl (lvZ g7 rfl) rfl rfl inGX8 5 (by decide) gw_175 (fun _ h => h) rfl dX8_doneByLog_29 ?_
  obtain ⟨g8, h⟩ := of_guard h
  refine g_cVi (n := 0) (exc := []) (exr := []) C [] _ rfl rfl [] [] rfl rfl rfl rfl (fun _ h => absurd h (by simp)) (fun _ h => absurd h (by simp)) (fun _ h => absurd h (by simp)) (fun sz => c_Jx4a65c_size_8abf5 l μ ν a Ad _ g8 D E sz) rfl gw_308 gw_5 gw_305 gw_306 gw_307 ⟨by decide +kernel, by decide +kernel, by decide +kernel⟩ ⟨rfl, rfl⟩ ⟨Nat.le_of_ble_eq_true rfl, Nat.le_of_ble_eq_true rfl⟩ (rcvT (lvZ g8 rfl) rfl rfl rfl) (Nat.le_of_ble_eq_true rfl) dX8_doneByLog_32 ⟨by decide, by decide⟩ (fun r u hp hx => ?_)
  obtain ⟨er, rfl⟩ := hp
  rw [er]
  try dsimp only [List.append_nil]
  refine g_icmp_ge (tgt := 86) C dX8_doneByLog_35 (by decide) (fun c35 => ?_) (fun c35 => ?_)
  · replace h := (if_pos c35).symm.trans h
    refine g_iload C dX8_doneByLog_86 3 rfl ?_
    obtain rfl := congrArg Prod.snd (Option.some.inj h)
    exact g_iret C hr rfl hz ⟨rfl, rfl, fun _ => rfl, fun _ => rfl⟩ ⟨rfl, rfl⟩ (fun j x h => by simp at h) dX8_doneByLog_88
  · replace h := (if_neg c35).symm.trans h
    refine g_aload_n C dX8_doneByLog_38 rfl 0 rfl ?_
    refine g_get (k := 0) (i := 0) (ref := "TradeLine") (v := .ref (Ad 4 5)) C rfl (lvZ g7 rfl) rfl rfl inGX8 5 (by decide) gw_175 (fun _ h => h) rfl dX8_doneByLog_39 ?_
    refine g_iload C dX8_doneByLog_42 4 rfl ?_
    obtain ⟨v9, hv9, h⟩ := bind_of h
    refine g_cVq (n := 1) (exc := []) (exr := []) C [_] _ rfl rfl [] [] rfl rfl rfl rfl (fun _ h => absurd h (by simp)) (fun _ h => absurd h (by simp)) (fun _ h => absurd h (by simp)) (fun sz => c_Jx4a65c_get_915e3 l μ ν a Ad _ _ _ hv9 D E sz) rfl gw_543 gw_5 gw_576 gw_541 gw_542 ⟨by decide +kernel, by decide +kernel, by decide +kernel⟩ ⟨rfl, rfl⟩ ⟨Nat.le_of_ble_eq_true rfl, Nat.le_of_ble_eq_true rfl⟩ (rcvT (lvZ g8 rfl) rfl rfl rfl) (Nat.le_of_ble_eq_true rfl) dX8_doneByLog_44 ⟨by decide, by decide⟩ (fun r u hp hx => ?_)
    obtain ⟨er, rfl⟩ := hp
    rw [er]
    try dsimp only [List.append_nil]
    obtain ⟨g10, h⟩ := of_guard h
    rw [eqB_e g10]
    obtain ⟨g11, h⟩ := of_guard h
    refine z_cast (k := 23) (i := v9) C (lvZ g11 rfl) rfl rfl gw_893 dX8_doneByLog_47 ?_
    refine z_astore (lv' := [(6, .ref (Ad 23 v9)), (0, .ref (Ad 0 0)), (1, .int x1), (3, nv (Ad 20) p3), (4, .int x4), (5, .int x5)]) C dX8_doneByLog_50 (Or.inr ⟨_, rfl⟩) (by decide) (by simp [nv_cat, cat_i, cat_r, cat_n]) ?_
    refine g_aload C dX8_doneByLog_52 0 rfl ?_
    refine g_get (k := 23) (i := v9) (ref := "TradeLine$Execution") (v := .ref (Ad 20 (μ.2 23 v9 0))) C rfl (lvZ g11 rfl) rfl rfl inGX2 0 (by decide) gw_900 (fun _ h => h) rfl dX8_doneByLog_54 ?_
    refine z_aload_n C dX8_doneByLog_57 rfl 3 rfl (nv_or _ _) ?_
    obtain ⟨g12, h⟩ := of_guard h
    rw [nzB_e g12]
    obtain ⟨g13, h⟩ := of_guard h
    obtain ⟨g14, h⟩ := of_guard h
    refine z_acmp_ne (k := 20) (i := (μ.2 23 v9 0)) (j := (p3 - 1)) (tgt := 80) C (lvZ g14 rfl) (lvZ g13 rfl) dX8_doneByLog_58 (by decide) (fun c58 => ?_) (fun c58 => ?_)
    · replace h := (if_neg c58).symm.trans h
      refine g_lv [1, 2, 3, 4, 5] rfl ?_
      exact lb_X8_doneByLog_80 C hr hz hk26 h
    · replace h := (if_pos c58).symm.trans h
      refine g_aload C dX8_doneByLog_61 0 rfl ?_
      refine g_iload_n C dX8_doneByLog_63 rfl 2 rfl ?_
      obtain ⟨v16, hv16, h⟩ := bind_of h
      refine g_cVi (n := 1) (exc := []) (exr := []) C [_] _ rfl rfl [] [] rfl rfl rfl rfl (fun _ h => absurd h (by simp)) (fun _ h => absurd h (by simp)) (fun _ h => absurd h (by simp)) (fun sz => c_X2_countsFor l μ ν a Ad w v9 x1 _ hv16 D E sz) rfl gw_1361 gw_29 gw_1358 gw_1359 gw_1360 ⟨by decide +kernel, by decide +kernel, by decide +kernel⟩ ⟨rfl, rfl⟩ ⟨Nat.le_of_ble_eq_true rfl, Nat.le_of_ble_eq_true rfl⟩ (rcvT (lvZ g11 rfl) rfl rfl rfl) (Nat.le_of_ble_eq_true rfl) dX8_doneByLog_64 ⟨by decide, by decide⟩ (fun r u hp hx => ?_)
      obtain ⟨er, rfl⟩ := hp
      rw [er]
      try dsimp only [List.append_nil]
      refine g_if_eq (tgt := 80) C dX8_doneByLog_67 (by decide) (fun c67 => ?_) (fun c67 => ?_)
      · replace h := (if_pos c67).symm.trans h
        refine g_lv [1, 2, 3, 4, 5] rfl ?_
        exact lb_X8_doneByLog_80 C hr hz hk26 h
      · replace h := (if_neg c67).symm.trans h
        refine g_iload C dX8_doneByLog_70 4 rfl ?_
        refine g_aload C dX8_doneByLog_72 0 rfl ?_
        refine g_get (k := 23) (i := v9) (ref := "TradeLine$Execution") (v := .int (μ.1 23 v9 2)) C rfl (lvZ g11 rfl) rfl rfl inGX2 2 (by decide) gw_904 (fun _ h => h) rfl dX8_doneByLog_74 ?_
        refine g_iadd C dX8_doneByLog_77 ?_
        refine q_topi (fun t17 et17 => ?_)
        replace h := yl_of h et17
        refine g_istore (lv' := [(4, .int t17), (6, .ref (Ad 23 v9)), (0, .ref (Ad 0 0)), (1, .int x1), (3, .ref (Ad 20 (p3 - 1))), (5, .int x5)]) C dX8_doneByLog_78 (by decide) rfl ?_
        refine g_lv [2, 3, 4, 0, 5] rfl ?_
        exact lb_X8_doneByLog_80 C hr hz hk26 h
noncomputable def l_X8_doneByLog_26  (w : Nat) (μ : MP) (ν : NC) : Nat → Int32 → Nat → Int32 → Int32 → Option (Nat × (Int32))
  | 0 => fun _ _ _ _ => none
  | n + 1 => fun x1 p3 x4 x5 => b_X8_doneByLog_26  (l_X8_doneByLog_26  w μ ν n) w μ ν x1 p3 x4 x5
theorem ll_X8_doneByLog_26 {p : Program} {l : Launch} {e : Env} {s : State} {m : MethodId} {args : Array Value} {below : List Frame} {meth : Method} {c : Code} {D : va_G} {E : Nat → ClassId} {sz : Nat} {μ : MP} {ν : NC} {a : AS} {Ad : Nat → Nat → Nat} {w : Nat} {r0 : Int32} (C : cx p s m args meth c D E (Aof (zS μ ν a Ad) [] s.heap.size) cX8_doneByLog 7 "TradeLine") (hr : meth.sig.returnType = (some .int)) (hz : s.heap.size = sz)   : ∀ (n : Nat) (x1 : Int32) (p3 : Nat) (x4 : Int32) (x5 : Int32), l_X8_doneByLog_26  w μ ν n x1 p3 x4 x5 = some (0, r0) → G p l e ({ frames := 5, cells := 0, slots := 0, locals := 124 } : Room) s m args below meth c D E (Aof (zS μ ν a Ad) [] s.heap.size) 7 (MQ below (cQ D E sz (zS μ ν a Ad) [] (pI (fun r u => r = r0 ∧ u = (zS μ ν a Ad, [])))) args s 0 0 (Aof (zS μ ν a Ad) [] s.heap.size)) (zS μ ν a Ad) [] 0 0 26 [(0, .ref (Ad 0 0)), (1, .int x1), (3, nv (Ad 20) p3), (4, .int x4), (5, .int x5)] [] := by
  intro n
  induction n with
  | zero => exact fun x1 p3 x4 x5 h => absurd (show (none : Option (Nat × (Int32))) = some (0, r0) from h) (by simp)
  | succ n ih => exact fun x1 p3 x4 x5 h => lb_X8_doneByLog_26 (w := w) C hr hz  ih h
noncomputable def f_X8_doneByLog  (w : Nat) (μ : MP) (ν : NC) (x1 : Int32) (x2 : Int32) : Option (Nat × (Int32)) := (f_X8_requireSide w μ ν x1).bind (fun v1 => bif eqB v1.1 0 then bif ltB 0 (ν.2 0) then (f_X8_requireOrder w μ ν x2).bind (fun v3 => bif eqB v3.1 0 then bif nzB v3.2 then bif ltB (v3.2 - 1) (ν.2 20) then (f_X4_isInBook w μ ν (v3.2 - 1) x1).bind (fun v6 => (if v6 = (0 : Int32) then (some ((0 : Nat), (-1 : Int32))) else (l_X8_doneByLog_26  w μ ν w x1 ((v3.2 - 1) + 1) (0 : Int32) (0 : Int32)))) else none else none else some (v3.1, (0 : Int32))) else none else some (v1.1, (0 : Int32)))
set_option maxHeartbeats 4000000 in
set_option maxRecDepth 100000 in
theorem lb_X8_doneByLog_0 {p : Program} {l : Launch} {e : Env} {s : State} {m : MethodId} {args : Array Value} {below : List Frame} {meth : Method} {c : Code} {D : va_G} {E : Nat → ClassId} {sz : Nat} {μ : MP} {ν : NC} {a : AS} {Ad : Nat → Nat → Nat} {w : Nat} {r0 : Int32} (C : cx p s m args meth c D E (Aof (zS μ ν a Ad) [] s.heap.size) cX8_doneByLog 7 "TradeLine") (hr : meth.sig.returnType = (some .int)) (hz : s.heap.size = sz) {x1 : Int32} {x2 : Int32}   (h : f_X8_doneByLog  w μ ν x1 x2 = some (0, r0)) : G p l e ({ frames := 5, cells := 0, slots := 0, locals := 124 } : Room) s m args below meth c D E (Aof (zS μ ν a Ad) [] s.heap.size) 7 (MQ below (cQ D E sz (zS μ ν a Ad) [] (pI (fun r u => r = r0 ∧ u = (zS μ ν a Ad, [])))) args s 0 0 (Aof (zS μ ν a Ad) [] s.heap.size)) (zS μ ν a Ad) [] 0 0 0 [(0, .ref (Ad 0 0)), (1, .int x1), (2, .int x2)] [] := by
  unfold f_X8_doneByLog at h
  refine g_iload_n C dX8_doneByLog_0 rfl 1 rfl ?_
  obtain ⟨v1, hv1, h⟩ := bind_of h
  obtain ⟨nv1, h⟩ := of_thr h
  refine g_cSv (n := 1) (exc := []) (exr := []) C [_] _ rfl rfl [] [] rfl rfl rfl rfl (fun _ h => absurd h (by simp)) (fun _ h => absurd h (by simp)) (fun _ h => absurd h (by simp)) (fun sz => c_X8_requireSide l μ ν a Ad w x1 _ (thr0 hv1 nv1) D E sz) rfl gw_481 gw_1 gw_479 gw_480 ⟨by decide +kernel, by decide +kernel, by decide +kernel⟩ ⟨rfl, rfl⟩ ⟨Nat.le_of_ble_eq_true rfl, Nat.le_of_ble_eq_true rfl⟩ (Nat.le_of_ble_eq_true rfl) dX8_doneByLog_1 ⟨by decide, by decide⟩ (fun u hp hx => ?_)
  obtain rfl := hp
  try dsimp only [List.append_nil]
  refine g_aload_n C dX8_doneByLog_4 rfl 0 rfl ?_
  refine g_iload_n C dX8_doneByLog_5 rfl 2 rfl ?_
  obtain ⟨g2, h⟩ := of_guard h
  obtain ⟨v3, hv3, h⟩ := bind_of h
  obtain ⟨nv3, h⟩ := of_thr h
  refine g_cVq (n := 1) (exc := []) (exr := []) C [_] _ rfl rfl [] [] rfl rfl rfl rfl (fun _ h => absurd h (by simp)) (fun _ h => absurd h (by simp)) (fun _ h => absurd h (by simp)) (fun sz => c_X8_requireOrder l μ ν a Ad w x2 _ (thr0 hv3 nv3) D E sz) rfl gw_1155 gw_1 gw_1152 gw_1154 gs_35 ⟨by decide +kernel, by decide +kernel, by decide +kernel⟩ ⟨rfl, rfl⟩ ⟨Nat.le_of_ble_eq_true rfl, Nat.le_of_ble_eq_true rfl⟩ (rcvT (lvZ g2 rfl) rfl rfl rfl) (Nat.le_of_ble_eq_true rfl) dX8_doneByLog_6 ⟨by decide, by decide⟩ (fun r u hp hx => ?_)
  obtain ⟨er, rfl⟩ := hp
  rw [er]
  try dsimp only [List.append_nil]
  refine z_astore_n (i := 3) (lv' := [(3, nv (Ad 20) v3.2), (0, .ref (Ad 0 0)), (1, .int x1), (2, .int x2)]) C dX8_doneByLog_9 (nv_or _ _) rfl (by decide) (by simp [nv_cat, cat_i, cat_r, cat_n]) ?_
  refine z_aload_n C dX8_doneByLog_10 rfl 0 rfl (nv_or _ _) ?_
  refine g_iload_n C dX8_doneByLog_11 rfl 2 rfl ?_
  obtain ⟨g4, h⟩ := of_guard h
  rw [nzB_e g4]
  obtain ⟨g5, h⟩ := of_guard h
  obtain ⟨v6, hv6, h⟩ := bind_of h
  refine g_cVi (n := 1) (exc := []) (exr := []) C [_] _ rfl rfl [] [] rfl rfl rfl rfl (fun _ h => absurd h (by simp)) (fun _ h => absurd h (by simp)) (fun _ h => absurd h (by simp)) (fun sz => c_X4_isInBook l μ ν a Ad w (v3.2 - 1) x1 _ hv6 D E sz) rfl gw_1334 gw_30 gw_1331 gw_1332 gw_1333 ⟨by decide +kernel, by decide +kernel, by decide +kernel⟩ ⟨rfl, rfl⟩ ⟨Nat.le_of_ble_eq_true rfl, Nat.le_of_ble_eq_true rfl⟩ (rcvT (lvZ g5 rfl) rfl rfl rfl) (Nat.le_of_ble_eq_true rfl) dX8_doneByLog_12 ⟨by decide, by decide⟩ (fun r u hp hx => ?_)
  obtain ⟨er, rfl⟩ := hp
  rw [er]
  try dsimp only [List.append_nil]
  refine g_if_ne (tgt := 20) C dX8_doneByLog_15 (by decide) (fun c15 => ?_) (fun c15 => ?_)
  · replace h := (if_neg c15).symm.trans h
    refine g_iconst (v := (0 : Int32)) C dX8_doneByLog_20 (by decide) ?_
    refine g_istore (lv' := [(4, .int (0 : Int32)), (3, .ref (Ad 20 (v3.2 - 1))), (0, .ref (Ad 0 0)), (1, .int x1), (2, .int x2)]) C dX8_doneByLog_21 (by decide) rfl ?_
    refine g_iconst (v := (0 : Int32)) C dX8_doneByLog_23 (by decide) ?_
    refine g_istore (lv' := [(5, .int (0 : Int32)), (4, .int (0 : Int32)), (3, .ref (Ad 20 (v3.2 - 1))), (0, .ref (Ad 0 0)), (1, .int x1), (2, .int x2)]) C dX8_doneByLog_24 (by decide) rfl ?_
    refine g_lv [3, 4, 2, 1, 0] rfl ?_
    exact ll_X8_doneByLog_26 C hr hz  w _ _ _ _ h
  · replace h := (if_pos c15).symm.trans h
    refine g_iconst (v := (-1 : Int32)) C dX8_doneByLog_18 (by decide) ?_
    obtain rfl := congrArg Prod.snd (Option.some.inj h)
    exact g_iret C hr rfl hz ⟨rfl, rfl, fun _ => rfl, fun _ => rfl⟩ ⟨rfl, rfl⟩ (fun j x h => by simp at h) dX8_doneByLog_19
theorem c_X8_doneByLog (l : Launch) (μ : MP) (ν : NC) (a : AS) (Ad : Nat → Nat → Nat) (w : Nat) (x1 : Int32) (x2 : Int32) (r0 : Int32) (h : f_X8_doneByLog w μ ν x1 x2 = some (0, r0)) : ∀ D E sz, Met l yX8_doneByLog gwX8_doneByLog ({ frames := 5, cells := 0, slots := 0, locals := 124 } : Room) (cP D E sz (zS μ ν a Ad) [] [.ref (Ad 0 0), .int x1, .int x2]) (cQ D E sz (zS μ ν a Ad) [] (pI (fun r u => r = r0 ∧ u = (zS μ ν a Ad, [])))) (0) (0) (Aof (zS μ ν a Ad) [] sz) := by
  intro D E sz
  refine g_of (cc := cX8_doneByLog) (maxL := 7) (ret := (some .int)) (own := "TradeLine") (by decide) rfl rfl (Nat.le_of_ble_eq_true rfl) ?_
  intro p e s m args below meth c C hr hin hz ha hwr
  refine g_lv (lv' := [(0, .ref (Ad 0 0)), (1, .int x1), (2, .int x2)]) [0, 1, 2] rfl ?_
  exact lb_X8_doneByLog_0 C hr hz h
set_option maxHeartbeats 4000000 in
set_option maxRecDepth 100000 in
theorem lx_X8_doneByLog_80 {p : Program} {l : Launch} {e : Env} {s : State} {m : MethodId} {args : Array Value} {below : List Frame} {meth : Method} {c : Code} {D : va_G} {E : Nat → ClassId} {sz : Nat} {μ : MP} {ν : NC} {a : AS} {Ad : Nat → Nat → Nat} {w nx : Nat} {B : Nat × (Nat → Nat)} {r0 : Int32} (C : cx p s m args meth c D E (Aof (zS μ ν a Ad) [] s.heap.size) cX8_doneByLog 7 "TradeLine") (hEv : eV (Ad 30 0) (Ad 31 0) B (Aof (zS μ ν a Ad) [] s.heap.size) s s.heap) (hl : l.stackTraces = false) (hT : ∀ x ∈ c.exceptionTable.toList, False) (hz : s.heap.size = sz) {x1 : Int32} {p3 : Nat} {x4 : Int32} {x5 : Int32} {k26 : Int32 → Nat → Int32 → Int32 → Option (Nat × (Int32))} (hk26 : ∀ (z1 : Int32) (z3 : Nat) (z4 : Int32) (z5 : Int32), k26 z1 z3 z4 z5 = some (nx + 1, r0) → G p l e ({ frames := 7, cells := 1, slots := 6, locals := 124 } : Room) s m args below meth c D E (Aof (zS μ ν a Ad) [] s.heap.size) 7 (vx_MQ below (fun _ _ _ _ => False) (cX D E sz (zS μ ν a Ad) (nx + 1)) args s 1 6 (Aof (zS μ ν a Ad) [] s.heap.size)) (zS μ ν a Ad) [] 0 0 26 [(0, .ref (Ad 0 0)), (1, .int z1), (3, nv (Ad 20) z3), (4, .int z4), (5, .int z5)] []) (h : b_X8_doneByLog_80 k26 w μ ν x1 p3 x4 x5 = some (nx + 1, r0)) : G p l e ({ frames := 7, cells := 1, slots := 6, locals := 124 } : Room) s m args below meth c D E (Aof (zS μ ν a Ad) [] s.heap.size) 7 (vx_MQ below (fun _ _ _ _ => False) (cX D E sz (zS μ ν a Ad) (nx + 1)) args s 1 6 (Aof (zS μ ν a Ad) [] s.heap.size)) (zS μ ν a Ad) [] 0 0 80 [(0, .ref (Ad 0 0)), (1, .int x1), (3, nv (Ad 20) p3), (4, .int x4), (5, .int x5)] [] := by
  unfold b_X8_doneByLog_80 at h
  obtain ⟨t15, et15⟩ : ∃ y : Int32, x5 + (1 : Int32) = y := ⟨_, rfl⟩
  replace h := yl_of h et15
  refine g_iinc (v := t15) (lv' := [(5, .int t15), (0, .ref (Ad 0 0)), (1, .int x1), (3, nv (Ad 20) p3), (4, .int x4)]) C dX8_doneByLog_80 4 rfl (by rw [← et15]; rfl) (by decide) (by simp [nv_cat, cat_i, cat_r, cat_n]) ?_
  refine g_goto (tgt := 26) C dX8_doneByLog_83 (by decide) ?_
  refine g_lv [1, 2, 3, 4, 0] rfl ?_
  exact hk26 _ _ _ _ h
set_option maxHeartbeats 4000000 in
set_option maxRecDepth 100000 in
theorem lx_X8_doneByLog_26 {p : Program} {l : Launch} {e : Env} {s : State} {m : MethodId} {args : Array Value} {below : List Frame} {meth : Method} {c : Code} {D : va_G} {E : Nat → ClassId} {sz : Nat} {μ : MP} {ν : NC} {a : AS} {Ad : Nat → Nat → Nat} {w nx : Nat} {B : Nat × (Nat → Nat)} {r0 : Int32} (C : cx p s m args meth c D E (Aof (zS μ ν a Ad) [] s.heap.size) cX8_doneByLog 7 "TradeLine") (hEv : eV (Ad 30 0) (Ad 31 0) B (Aof (zS μ ν a Ad) [] s.heap.size) s s.heap) (hl : l.stackTraces = false) (hT : ∀ x ∈ c.exceptionTable.toList, False) (hz : s.heap.size = sz) {x1 : Int32} {p3 : Nat} {x4 : Int32} {x5 : Int32} {k26 : Int32 → Nat → Int32 → Int32 → Option (Nat × (Int32))} (hk26 : ∀ (z1 : Int32) (z3 : Nat) (z4 : Int32) (z5 : Int32), k26 z1 z3 z4 z5 = some (nx + 1, r0) → G p l e ({ frames := 7, cells := 1, slots := 6, locals := 124 } : Room) s m args below meth c D E (Aof (zS μ ν a Ad) [] s.heap.size) 7 (vx_MQ below (fun _ _ _ _ => False) (cX D E sz (zS μ ν a Ad) (nx + 1)) args s 1 6 (Aof (zS μ ν a Ad) [] s.heap.size)) (zS μ ν a Ad) [] 0 0 26 [(0, .ref (Ad 0 0)), (1, .int z1), (3, nv (Ad 20) z3), (4, .int z4), (5, .int z5)] []) (h : b_X8_doneByLog_26 k26 w μ ν x1 p3 x4 x5 = some (nx + 1, r0)) : G p l e ({ frames := 7, cells := 1, slots := 6, locals := 124 } : Room) s m args below meth c D E (Aof (zS μ ν a Ad) [] s.heap.size) 7 (vx_MQ below (fun _ _ _ _ => False) (cX D E sz (zS μ ν a Ad) (nx + 1)) args s 1 6 (Aof (zS μ ν a Ad) [] s.heap.size)) (zS μ ν a Ad) [] 0 0 26 [(0, .ref (Ad 0 0)), (1, .int x1), (3, nv (Ad 20) p3), (4, .int x4), (5, .int x5)] [] := by
  unfold b_X8_doneByLog_26 at h
  refine g_iload C dX8_doneByLog_26 4 rfl ?_
  refine g_aload_n C dX8_doneByLog_28 rfl 0 rfl ?_
  obtain ⟨g7, h⟩ := of_guard h
  refine g_get (k := 0) (i := 0) (ref := "TradeLine") (v := .ref (Ad 4 5)) C rfl (lvZ g7 rfl) rfl rfl inGX8 5 (by decide) gw_175 (fun _ h => h) rfl dX8_doneByLog_29 ?_
  obtain ⟨g8, h⟩ := of_guard h
  refine g_cVi (n := 0) (exc := []) (exr := []) C [] _ rfl rfl [] [] rfl rfl rfl rfl (fun _ h => absurd h (by simp)) (fun _ h => absurd h (by simp)) (fun _ h => absurd h (by simp)) (fun sz => c_Jx4a65c_size_8abf5 l μ ν a Ad _ g8 D E sz) rfl gw_308 gw_5 gw_305 gw_306 gw_307 ⟨by decide +kernel, by decide +kernel, by decide +kernel⟩ ⟨rfl, rfl⟩ ⟨Nat.le_of_ble_eq_true rfl, Nat.le_of_ble_eq_true rfl⟩ (rcvT (lvZ g8 rfl) rfl rfl rfl) (Nat.le_of_ble_eq_true rfl) dX8_doneByLog_32 ⟨by decide, by decide⟩ (fun r u hp hx => ?_)
  obtain ⟨er, rfl⟩ := hp
  rw [er]
  try dsimp only [List.append_nil]
  refine g_icmp_ge (tgt := 86) C dX8_doneByLog_35 (by decide) (fun c35 => ?_) (fun c35 => ?_)
  · replace h := (if_pos c35).symm.trans h
    refine g_iload C dX8_doneByLog_86 3 rfl ?_
    exact absurd (congrArg Prod.fst (Option.some.inj h)) (by simp)
  · replace h := (if_neg c35).symm.trans h
    refine g_aload_n C dX8_doneByLog_38 rfl 0 rfl ?_
    refine g_get (k := 0) (i := 0) (ref := "TradeLine") (v := .ref (Ad 4 5)) C rfl (lvZ g7 rfl) rfl rfl inGX8 5 (by decide) gw_175 (fun _ h => h) rfl dX8_doneByLog_39 ?_
    refine g_iload C dX8_doneByLog_42 4 rfl ?_
    obtain ⟨v9, hv9, h⟩ := bind_of h
    refine g_cVq (n := 1) (exc := []) (exr := []) C [_] _ rfl rfl [] [] rfl rfl rfl rfl (fun _ h => absurd h (by simp)) (fun _ h => absurd h (by simp)) (fun _ h => absurd h (by simp)) (fun sz => c_Jx4a65c_get_915e3 l μ ν a Ad _ _ _ hv9 D E sz) rfl gw_543 gw_5 gw_576 gw_541 gw_542 ⟨by decide +kernel, by decide +kernel, by decide +kernel⟩ ⟨rfl, rfl⟩ ⟨Nat.le_of_ble_eq_true rfl, Nat.le_of_ble_eq_true rfl⟩ (rcvT (lvZ g8 rfl) rfl rfl rfl) (Nat.le_of_ble_eq_true rfl) dX8_doneByLog_44 ⟨by decide, by decide⟩ (fun r u hp hx => ?_)
    obtain ⟨er, rfl⟩ := hp
    rw [er]
    try dsimp only [List.append_nil]
    obtain ⟨g10, h⟩ := of_guard h
    rw [eqB_e g10]
    obtain ⟨g11, h⟩ := of_guard h
    refine z_cast (k := 23) (i := v9) C (lvZ g11 rfl) rfl rfl gw_893 dX8_doneByLog_47 ?_
    refine z_astore (lv' := [(6, .ref (Ad 23 v9)), (0, .ref (Ad 0 0)), (1, .int x1), (3, nv (Ad 20) p3), (4, .int x4), (5, .int x5)]) C dX8_doneByLog_50 (Or.inr ⟨_, rfl⟩) (by decide) (by simp [nv_cat, cat_i, cat_r, cat_n]) ?_
    refine g_aload C dX8_doneByLog_52 0 rfl ?_
    refine g_get (k := 23) (i := v9) (ref := "TradeLine$Execution") (v := .ref (Ad 20 (μ.2 23 v9 0))) C rfl (lvZ g11 rfl) rfl rfl inGX2 0 (by decide) gw_900 (fun _ h => h) rfl dX8_doneByLog_54 ?_
    refine z_aload_n C dX8_doneByLog_57 rfl 3 rfl (nv_or _ _) ?_
    obtain ⟨g12, h⟩ := of_guard h
    rw [nzB_e g12]
    obtain ⟨g13, h⟩ := of_guard h
    obtain ⟨g14, h⟩ := of_guard h
    refine z_acmp_ne (k := 20) (i := (μ.2 23 v9 0)) (j := (p3 - 1)) (tgt := 80) C (lvZ g14 rfl) (lvZ g13 rfl) dX8_doneByLog_58 (by decide) (fun c58 => ?_) (fun c58 => ?_)
    · replace h := (if_neg c58).symm.trans h
      refine g_lv [1, 2, 3, 4, 5] rfl ?_
      exact lx_X8_doneByLog_80 C hEv hl hT hz hk26 h
    · replace h := (if_pos c58).symm.trans h
      refine g_aload C dX8_doneByLog_61 0 rfl ?_
      refine g_iload_n C dX8_doneByLog_63 rfl 2 rfl ?_
      obtain ⟨v16, hv16, h⟩ := bind_of h
      refine g_cVi (n := 1) (exc := []) (exr := []) C [_] _ rfl rfl [] [] rfl rfl rfl rfl (fun _ h => absurd h (by simp)) (fun _ h => absurd h (by simp)) (fun _ h => absurd h (by simp)) (fun sz => c_X2_countsFor l μ ν a Ad w v9 x1 _ hv16 D E sz) rfl gw_1361 gw_29 gw_1358 gw_1359 gw_1360 ⟨by decide +kernel, by decide +kernel, by decide +kernel⟩ ⟨rfl, rfl⟩ ⟨Nat.le_of_ble_eq_true rfl, Nat.le_of_ble_eq_true rfl⟩ (rcvT (lvZ g11 rfl) rfl rfl rfl) (Nat.le_of_ble_eq_true rfl) dX8_doneByLog_64 ⟨by decide, by decide⟩ (fun r u hp hx => ?_)
      obtain ⟨er, rfl⟩ := hp
      rw [er]
      try dsimp only [List.append_nil]
      refine g_if_eq (tgt := 80) C dX8_doneByLog_67 (by decide) (fun c67 => ?_) (fun c67 => ?_)
      · replace h := (if_pos c67).symm.trans h
        refine g_lv [1, 2, 3, 4, 5] rfl ?_
        exact lx_X8_doneByLog_80 C hEv hl hT hz hk26 h
      · replace h := (if_neg c67).symm.trans h
        refine g_iload C dX8_doneByLog_70 4 rfl ?_
        refine g_aload C dX8_doneByLog_72 0 rfl ?_
        refine g_get (k := 23) (i := v9) (ref := "TradeLine$Execution") (v := .int (μ.1 23 v9 2)) C rfl (lvZ g11 rfl) rfl rfl inGX2 2 (by decide) gw_904 (fun _ h => h) rfl dX8_doneByLog_74 ?_
        refine g_iadd C dX8_doneByLog_77 ?_
        refine q_topi (fun t17 et17 => ?_)
        replace h := yl_of h et17
        refine g_istore (lv' := [(4, .int t17), (6, .ref (Ad 23 v9)), (0, .ref (Ad 0 0)), (1, .int x1), (3, .ref (Ad 20 (p3 - 1))), (5, .int x5)]) C dX8_doneByLog_78 (by decide) rfl ?_
        refine g_lv [2, 3, 4, 0, 5] rfl ?_
        exact lx_X8_doneByLog_80 C hEv hl hT hz hk26 h
theorem lxl_X8_doneByLog_26 {p : Program} {l : Launch} {e : Env} {s : State} {m : MethodId} {args : Array Value} {below : List Frame} {meth : Method} {c : Code} {D : va_G} {E : Nat → ClassId} {sz : Nat} {μ : MP} {ν : NC} {a : AS} {Ad : Nat → Nat → Nat} {w nx : Nat} {B : Nat × (Nat → Nat)} {r0 : Int32} (C : cx p s m args meth c D E (Aof (zS μ ν a Ad) [] s.heap.size) cX8_doneByLog 7 "TradeLine") (hEv : eV (Ad 30 0) (Ad 31 0) B (Aof (zS μ ν a Ad) [] s.heap.size) s s.heap) (hl : l.stackTraces = false) (hT : ∀ x ∈ c.exceptionTable.toList, False) (hz : s.heap.size = sz)   : ∀ (n : Nat) (x1 : Int32) (p3 : Nat) (x4 : Int32) (x5 : Int32), l_X8_doneByLog_26  w μ ν n x1 p3 x4 x5 = some (nx + 1, r0) → G p l e ({ frames := 7, cells := 1, slots := 6, locals := 124 } : Room) s m args below meth c D E (Aof (zS μ ν a Ad) [] s.heap.size) 7 (vx_MQ below (fun _ _ _ _ => False) (cX D E sz (zS μ ν a Ad) (nx + 1)) args s 1 6 (Aof (zS μ ν a Ad) [] s.heap.size)) (zS μ ν a Ad) [] 0 0 26 [(0, .ref (Ad 0 0)), (1, .int x1), (3, nv (Ad 20) p3), (4, .int x4), (5, .int x5)] [] := by
  intro n
  induction n with
  | zero => exact fun x1 p3 x4 x5 h => absurd (show (none : Option (Nat × (Int32))) = some (nx + 1, r0) from h) (by simp)
  | succ n ih => exact fun x1 p3 x4 x5 h => lx_X8_doneByLog_26 (w := w) C hEv hl hT hz  ih h
set_option maxHeartbeats 4000000 in
set_option maxRecDepth 100000 in
theorem lx_X8_doneByLog_0 {p : Program} {l : Launch} {e : Env} {s : State} {m : MethodId} {args : Array Value} {below : List Frame} {meth : Method} {c : Code} {D : va_G} {E : Nat → ClassId} {sz : Nat} {μ : MP} {ν : NC} {a : AS} {Ad : Nat → Nat → Nat} {w nx : Nat} {B : Nat × (Nat → Nat)} {r0 : Int32} (C : cx p s m args meth c D E (Aof (zS μ ν a Ad) [] s.heap.size) cX8_doneByLog 7 "TradeLine") (hEv : eV (Ad 30 0) (Ad 31 0) B (Aof (zS μ ν a Ad) [] s.heap.size) s s.heap) (hl : l.stackTraces = false) (hT : ∀ x ∈ c.exceptionTable.toList, False) (hz : s.heap.size = sz) {x1 : Int32} {x2 : Int32}   (h : f_X8_doneByLog  w μ ν x1 x2 = some (nx + 1, r0)) : G p l e ({ frames := 7, cells := 1, slots := 6, locals := 124 } : Room) s m args below meth c D E (Aof (zS μ ν a Ad) [] s.heap.size) 7 (vx_MQ below (fun _ _ _ _ => False) (cX D E sz (zS μ ν a Ad) (nx + 1)) args s 1 6 (Aof (zS μ ν a Ad) [] s.heap.size)) (zS μ ν a Ad) [] 0 0 0 [(0, .ref (Ad 0 0)), (1, .int x1), (2, .int x2)] [] := by
  unfold f_X8_doneByLog at h
  refine g_iload_n C dX8_doneByLog_0 rfl 1 rfl ?_
  obtain ⟨v1, hv1, h⟩ := bind_of h
  rcases of_thx h with ⟨nv1, h⟩ | nv1
  · refine g_cSv (n := 1) (exc := []) (exr := []) C [_] _ rfl rfl [] [] rfl rfl rfl rfl (fun _ h => absurd h (by simp)) (fun _ h => absurd h (by simp)) (fun _ h => absurd h (by simp)) (fun sz => c_X8_requireSide l μ ν a Ad w x1 _ (thr0 hv1 nv1) D E sz) rfl gw_481 gw_1 gw_479 gw_480 ⟨by decide +kernel, by decide +kernel, by decide +kernel⟩ ⟨rfl, rfl⟩ ⟨Nat.le_of_ble_eq_true rfl, Nat.le_of_ble_eq_true rfl⟩ (Nat.le_of_ble_eq_true rfl) dX8_doneByLog_1 ⟨by decide, by decide⟩ (fun u hp hx => ?_)
    obtain rfl := hp
    try dsimp only [List.append_nil]
    refine g_aload_n C dX8_doneByLog_4 rfl 0 rfl ?_
    refine g_iload_n C dX8_doneByLog_5 rfl 2 rfl ?_
    obtain ⟨g2, h⟩ := of_guard h
    obtain ⟨v3, hv3, h⟩ := bind_of h
    rcases of_thx h with ⟨nv3, h⟩ | nv3
    · refine g_cVq (n := 1) (exc := []) (exr := []) C [_] _ rfl rfl [] [] rfl rfl rfl rfl (fun _ h => absurd h (by simp)) (fun _ h => absurd h (by simp)) (fun _ h => absurd h (by simp)) (fun sz => c_X8_requireOrder l μ ν a Ad w x2 _ (thr0 hv3 nv3) D E sz) rfl gw_1155 gw_1 gw_1152 gw_1154 gs_35 ⟨by decide +kernel, by decide +kernel, by decide +kernel⟩ ⟨rfl, rfl⟩ ⟨Nat.le_of_ble_eq_true rfl, Nat.le_of_ble_eq_true rfl⟩ (rcvT (lvZ g2 rfl) rfl rfl rfl) (Nat.le_of_ble_eq_true rfl) dX8_doneByLog_6 ⟨by decide, by decide⟩ (fun r u hp hx => ?_)
      obtain ⟨er, rfl⟩ := hp
      rw [er]
      try dsimp only [List.append_nil]
      refine z_astore_n (i := 3) (lv' := [(3, nv (Ad 20) v3.2), (0, .ref (Ad 0 0)), (1, .int x1), (2, .int x2)]) C dX8_doneByLog_9 (nv_or _ _) rfl (by decide) (by simp [nv_cat, cat_i, cat_r, cat_n]) ?_
      refine z_aload_n C dX8_doneByLog_10 rfl 0 rfl (nv_or _ _) ?_
      refine g_iload_n C dX8_doneByLog_11 rfl 2 rfl ?_
      obtain ⟨g4, h⟩ := of_guard h
      rw [nzB_e g4]
      obtain ⟨g5, h⟩ := of_guard h
      obtain ⟨v6, hv6, h⟩ := bind_of h
      refine g_cVi (n := 1) (exc := []) (exr := []) C [_] _ rfl rfl [] [] rfl rfl rfl rfl (fun _ h => absurd h (by simp)) (fun _ h => absurd h (by simp)) (fun _ h => absurd h (by simp)) (fun sz => c_X4_isInBook l μ ν a Ad w (v3.2 - 1) x1 _ hv6 D E sz) rfl gw_1334 gw_30 gw_1331 gw_1332 gw_1333 ⟨by decide +kernel, by decide +kernel, by decide +kernel⟩ ⟨rfl, rfl⟩ ⟨Nat.le_of_ble_eq_true rfl, Nat.le_of_ble_eq_true rfl⟩ (rcvT (lvZ g5 rfl) rfl rfl rfl) (Nat.le_of_ble_eq_true rfl) dX8_doneByLog_12 ⟨by decide, by decide⟩ (fun r u hp hx => ?_)
      obtain ⟨er, rfl⟩ := hp
      rw [er]
      try dsimp only [List.append_nil]
      refine g_if_ne (tgt := 20) C dX8_doneByLog_15 (by decide) (fun c15 => ?_) (fun c15 => ?_)
      · replace h := (if_neg c15).symm.trans h
        refine g_iconst (v := (0 : Int32)) C dX8_doneByLog_20 (by decide) ?_
        refine g_istore (lv' := [(4, .int (0 : Int32)), (3, .ref (Ad 20 (v3.2 - 1))), (0, .ref (Ad 0 0)), (1, .int x1), (2, .int x2)]) C dX8_doneByLog_21 (by decide) rfl ?_
        refine g_iconst (v := (0 : Int32)) C dX8_doneByLog_23 (by decide) ?_
        refine g_istore (lv' := [(5, .int (0 : Int32)), (4, .int (0 : Int32)), (3, .ref (Ad 20 (v3.2 - 1))), (0, .ref (Ad 0 0)), (1, .int x1), (2, .int x2)]) C dX8_doneByLog_24 (by decide) rfl ?_
        refine g_lv [3, 4, 2, 1, 0] rfl ?_
        exact lxl_X8_doneByLog_26 C hEv hl hT hz  w _ _ _ _ h
      · replace h := (if_pos c15).symm.trans h
        refine g_iconst (v := (-1 : Int32)) C dX8_doneByLog_18 (by decide) ?_
        exact absurd (congrArg Prod.fst (Option.some.inj h)) (by simp)
    · exact g_xV (index := 1) C hEv ⟨rfl, rfl⟩ hT hz [_] _ rfl rfl (fun sz => x_X8_requireOrder l hl B μ ν a Ad w x2 _ _ (thrS hv3 nv3) D E sz) rfl gw_1155 gw_1 gw_1152 gw_1154 gs_35 ⟨by decide +kernel, by decide +kernel, by decide +kernel⟩ ⟨rfl, rfl⟩ ⟨Nat.le_of_ble_eq_true rfl, Nat.le_of_ble_eq_true rfl⟩ (rcvT (lvZ g2 rfl) rfl rfl rfl) (Nat.le_of_ble_eq_true rfl) dX8_doneByLog_6 ⟨by decide, by decide⟩
  · exact g_xS (index := 1) C hEv ⟨rfl, rfl⟩ hT hz [_] _ rfl rfl (fun sz => x_X8_requireSide l hl B μ ν a Ad w x1 _ _ (thrS hv1 nv1) D E sz) rfl gw_481 gw_1 gw_479 gw_480 ⟨by decide +kernel, by decide +kernel, by decide +kernel⟩ ⟨rfl, rfl⟩ ⟨Nat.le_of_ble_eq_true rfl, Nat.le_of_ble_eq_true rfl⟩ (Nat.le_of_ble_eq_true rfl) dX8_doneByLog_1 ⟨by decide, by decide⟩
theorem x_X8_doneByLog (l : Launch) (hl : l.stackTraces = false) (B : Nat × (Nat → Nat)) (μ : MP) (ν : NC) (a : AS) (Ad : Nat → Nat → Nat) (w : Nat) (x1 : Int32) (x2 : Int32) (nx : Nat) (r0 : Int32) (h : f_X8_doneByLog w μ ν x1 x2 = some (nx + 1, r0)) : ∀ D E sz, vx_Met l yX8_doneByLog gwX8_doneByLog ({ frames := 7, cells := 1, slots := 6, locals := 124 } : Room) (cPe D E sz B (zS μ ν a Ad) [] [] [.ref (Ad 0 0), .int x1, .int x2]) (fun _ _ _ _ => False) (cX D E sz (zS μ ν a Ad) (nx + 1)) 1 6 (Aof (zS μ ν a Ad) [] sz) := by
  intro D E sz
  refine g_ofx (cc := cX8_doneByLog) (maxL := 7) (ret := (some .int)) (own := "TradeLine") (by decide) rfl rfl (Nat.le_of_ble_eq_true rfl) ?_
  intro p e s m args below meth c C hT hz ha hEv
  refine g_lv (lv' := [(0, .ref (Ad 0 0)), (1, .int x1), (2, .int x2)]) [0, 1, 2] rfl ?_
  exact lx_X8_doneByLog_0 C hEv hl hT hz h
noncomputable def f_X8_out  (w : Nat) (μ : MP) (ν : NC) (x1 : Int32) (x2 : Int32) : Option (Nat × (Int32)) := (f_X8_requireSide w μ ν x1).bind (fun v1 => bif eqB v1.1 0 then bif ltB 0 (ν.2 0) then (f_X8_requireOrder w μ ν x2).bind (fun v3 => bif eqB v3.1 0 then bif nzB v3.2 then bif ltB (v3.2 - 1) (ν.2 20) then (f_X4_isInBook w μ ν (v3.2 - 1) x1).bind (fun v6 => (if v6 = (0 : Int32) then (some ((0 : Nat), (-1 : Int32))) else ((f_X4_book w μ ν (v3.2 - 1) x1).bind (fun v7 => bif nzB v7 then bif ltB (v7 - 1) (ν.2 21) then some ((0 : Nat), (μ.1 21 (v7 - 1) 3)) else none else none)))) else none else none else some (v3.1, (0 : Int32))) else none else some (v1.1, (0 : Int32)))
set_option maxHeartbeats 4000000 in
set_option maxRecDepth 100000 in
theorem lb_X8_out_0 {p : Program} {l : Launch} {e : Env} {s : State} {m : MethodId} {args : Array Value} {below : List Frame} {meth : Method} {c : Code} {D : va_G} {E : Nat → ClassId} {sz : Nat} {μ : MP} {ν : NC} {a : AS} {Ad : Nat → Nat → Nat} {w : Nat} {r0 : Int32} (C : cx p s m args meth c D E (Aof (zS μ ν a Ad) [] s.heap.size) cX8_out 4 "TradeLine") (hr : meth.sig.returnType = (some .int)) (hz : s.heap.size = sz) {x1 : Int32} {x2 : Int32}   (h : f_X8_out  w μ ν x1 x2 = some (0, r0)) : G p l e ({ frames := 5, cells := 0, slots := 0, locals := 124 } : Room) s m args below meth c D E (Aof (zS μ ν a Ad) [] s.heap.size) 4 (MQ below (cQ D E sz (zS μ ν a Ad) [] (pI (fun r u => r = r0 ∧ u = (zS μ ν a Ad, [])))) args s 0 0 (Aof (zS μ ν a Ad) [] s.heap.size)) (zS μ ν a Ad) [] 0 0 0 [(0, .ref (Ad 0 0)), (1, .int x1), (2, .int x2)] [] := by
  unfold f_X8_out at h
  refine g_iload_n C dX8_out_0 rfl 1 rfl ?_
  obtain ⟨v1, hv1, h⟩ := bind_of h
  obtain ⟨nv1, h⟩ := of_thr h
  refine g_cSv (n := 1) (exc := []) (exr := []) C [_] _ rfl rfl [] [] rfl rfl rfl rfl (fun _ h => absurd h (by simp)) (fun _ h => absurd h (by simp)) (fun _ h => absurd h (by simp)) (fun sz => c_X8_requireSide l μ ν a Ad w x1 _ (thr0 hv1 nv1) D E sz) rfl gw_481 gw_1 gw_479 gw_480 ⟨by decide +kernel, by decide +kernel, by decide +kernel⟩ ⟨rfl, rfl⟩ ⟨Nat.le_of_ble_eq_true rfl, Nat.le_of_ble_eq_true rfl⟩ (Nat.le_of_ble_eq_true rfl) dX8_out_1 ⟨by decide, by decide⟩ (fun u hp hx => ?_)
  obtain rfl := hp
  try dsimp only [List.append_nil]
  refine g_aload_n C dX8_out_4 rfl 0 rfl ?_
  refine g_iload_n C dX8_out_5 rfl 2 rfl ?_
  obtain ⟨g2, h⟩ := of_guard h
  obtain ⟨v3, hv3, h⟩ := bind_of h
  obtain ⟨nv3, h⟩ := of_thr h
  refine g_cVq (n := 1) (exc := []) (exr := []) C [_] _ rfl rfl [] [] rfl rfl rfl rfl (fun _ h => absurd h (by simp)) (fun _ h => absurd h (by simp)) (fun _ h => absurd h (by simp)) (fun sz => c_X8_requireOrder l μ ν a Ad w x2 _ (thr0 hv3 nv3) D E sz) rfl gw_1155 gw_1 gw_1152 gw_1154 gs_35 ⟨by decide +kernel, by decide +kernel, by decide +kernel⟩ ⟨rfl, rfl⟩ ⟨Nat.le_of_ble_eq_true rfl, Nat.le_of_ble_eq_true rfl⟩ (rcvT (lvZ g2 rfl) rfl rfl rfl) (Nat.le_of_ble_eq_true rfl) dX8_out_6 ⟨by decide, by decide⟩ (fun r u hp hx => ?_)
  obtain ⟨er, rfl⟩ := hp
  rw [er]
  try dsimp only [List.append_nil]
  refine z_astore_n (i := 3) (lv' := [(3, nv (Ad 20) v3.2), (0, .ref (Ad 0 0)), (1, .int x1), (2, .int x2)]) C dX8_out_9 (nv_or _ _) rfl (by decide) (by simp [nv_cat, cat_i, cat_r, cat_n]) ?_
  refine z_aload_n C dX8_out_10 rfl 0 rfl (nv_or _ _) ?_
  refine g_iload_n C dX8_out_11 rfl 2 rfl ?_
  obtain ⟨g4, h⟩ := of_guard h
  rw [nzB_e g4]
  obtain ⟨g5, h⟩ := of_guard h
  obtain ⟨v6, hv6, h⟩ := bind_of h
  refine g_cVi (n := 1) (exc := []) (exr := []) C [_] _ rfl rfl [] [] rfl rfl rfl rfl (fun _ h => absurd h (by simp)) (fun _ h => absurd h (by simp)) (fun _ h => absurd h (by simp)) (fun sz => c_X4_isInBook l μ ν a Ad w (v3.2 - 1) x1 _ hv6 D E sz) rfl gw_1334 gw_30 gw_1331 gw_1332 gw_1333 ⟨by decide +kernel, by decide +kernel, by decide +kernel⟩ ⟨rfl, rfl⟩ ⟨Nat.le_of_ble_eq_true rfl, Nat.le_of_ble_eq_true rfl⟩ (rcvT (lvZ g5 rfl) rfl rfl rfl) (Nat.le_of_ble_eq_true rfl) dX8_out_12 ⟨by decide, by decide⟩ (fun r u hp hx => ?_)
  obtain ⟨er, rfl⟩ := hp
  rw [er]
  try dsimp only [List.append_nil]
  refine g_if_eq (tgt := 29) C dX8_out_15 (by decide) (fun c15 => ?_) (fun c15 => ?_)
  · replace h := (if_pos c15).symm.trans h
    refine g_iconst (v := (-1 : Int32)) C dX8_out_29 (by decide) ?_
    obtain rfl := congrArg Prod.snd (Option.some.inj h)
    exact g_iret C hr rfl hz ⟨rfl, rfl, fun _ => rfl, fun _ => rfl⟩ ⟨rfl, rfl⟩ (fun j x h => by simp at h) dX8_out_30
  · replace h := (if_neg c15).symm.trans h
    refine g_aload_n C dX8_out_18 rfl 0 rfl ?_
    refine g_iload_n C dX8_out_19 rfl 2 rfl ?_
    obtain ⟨v7, hv7, h⟩ := bind_of h
    refine g_cVq (n := 1) (exc := []) (exr := []) C [_] _ rfl rfl [] [] rfl rfl rfl rfl (fun _ h => absurd h (by simp)) (fun _ h => absurd h (by simp)) (fun _ h => absurd h (by simp)) (fun sz => c_X4_book l μ ν a Ad w (v3.2 - 1) x1 _ hv7 D E sz) rfl gw_1342 gw_30 gw_1350 gw_1340 gw_1341 ⟨by decide +kernel, by decide +kernel, by decide +kernel⟩ ⟨rfl, rfl⟩ ⟨Nat.le_of_ble_eq_true rfl, Nat.le_of_ble_eq_true rfl⟩ (rcvT (lvZ g5 rfl) rfl rfl rfl) (Nat.le_of_ble_eq_true rfl) dX8_out_20 ⟨by decide, by decide⟩ (fun r u hp hx => ?_)
    obtain ⟨er, rfl⟩ := hp
    rw [er]
    try dsimp only [List.append_nil]
    obtain ⟨g8, h⟩ := of_guard h
    rw [nzB_e g8]
    obtain ⟨g9, h⟩ := of_guard h
    refine g_get (k := 21) (i := (v7 - 1)) (ref := "TradeLine$Book") (v := .int (μ.1 21 (v7 - 1) 3)) C rfl (lvZ g9 rfl) rfl rfl inGX1 3 (by decide) gw_1099 (fun _ h => h) rfl dX8_out_23 ?_
    refine g_goto (tgt := 30) C dX8_out_26 (by decide) ?_
    obtain rfl := congrArg Prod.snd (Option.some.inj h)
    exact g_iret C hr rfl hz ⟨rfl, rfl, fun _ => rfl, fun _ => rfl⟩ ⟨rfl, rfl⟩ (fun j x h => by simp at h) dX8_out_30
theorem c_X8_out (l : Launch) (μ : MP) (ν : NC) (a : AS) (Ad : Nat → Nat → Nat) (w : Nat) (x1 : Int32) (x2 : Int32) (r0 : Int32) (h : f_X8_out w μ ν x1 x2 = some (0, r0)) : ∀ D E sz, Met l yX8_out gwX8_out ({ frames := 5, cells := 0, slots := 0, locals := 124 } : Room) (cP D E sz (zS μ ν a Ad) [] [.ref (Ad 0 0), .int x1, .int x2]) (cQ D E sz (zS μ ν a Ad) [] (pI (fun r u => r = r0 ∧ u = (zS μ ν a Ad, [])))) (0) (0) (Aof (zS μ ν a Ad) [] sz) := by
  intro D E sz
  refine g_of (cc := cX8_out) (maxL := 4) (ret := (some .int)) (own := "TradeLine") (by decide) rfl rfl (Nat.le_of_ble_eq_true rfl) ?_
  intro p e s m args below meth c C hr hin hz ha hwr
  refine g_lv (lv' := [(0, .ref (Ad 0 0)), (1, .int x1), (2, .int x2)]) [0, 1, 2] rfl ?_
  exact lb_X8_out_0 C hr hz h
set_option maxHeartbeats 4000000 in
set_option maxRecDepth 100000 in
theorem lx_X8_out_0 {p : Program} {l : Launch} {e : Env} {s : State} {m : MethodId} {args : Array Value} {below : List Frame} {meth : Method} {c : Code} {D : va_G} {E : Nat → ClassId} {sz : Nat} {μ : MP} {ν : NC} {a : AS} {Ad : Nat → Nat → Nat} {w nx : Nat} {B : Nat × (Nat → Nat)} {r0 : Int32} (C : cx p s m args meth c D E (Aof (zS μ ν a Ad) [] s.heap.size) cX8_out 4 "TradeLine") (hEv : eV (Ad 30 0) (Ad 31 0) B (Aof (zS μ ν a Ad) [] s.heap.size) s s.heap) (hl : l.stackTraces = false) (hT : ∀ x ∈ c.exceptionTable.toList, False) (hz : s.heap.size = sz) {x1 : Int32} {x2 : Int32}   (h : f_X8_out  w μ ν x1 x2 = some (nx + 1, r0)) : G p l e ({ frames := 7, cells := 1, slots := 6, locals := 124 } : Room) s m args below meth c D E (Aof (zS μ ν a Ad) [] s.heap.size) 4 (vx_MQ below (fun _ _ _ _ => False) (cX D E sz (zS μ ν a Ad) (nx + 1)) args s 1 6 (Aof (zS μ ν a Ad) [] s.heap.size)) (zS μ ν a Ad) [] 0 0 0 [(0, .ref (Ad 0 0)), (1, .int x1), (2, .int x2)] [] := by
  unfold f_X8_out at h
  refine g_iload_n C dX8_out_0 rfl 1 rfl ?_
  obtain ⟨v1, hv1, h⟩ := bind_of h
  rcases of_thx h with ⟨nv1, h⟩ | nv1
  · refine g_cSv (n := 1) (exc := []) (exr := []) C [_] _ rfl rfl [] [] rfl rfl rfl rfl (fun _ h => absurd h (by simp)) (fun _ h => absurd h (by simp)) (fun _ h => absurd h (by simp)) (fun sz => c_X8_requireSide l μ ν a Ad w x1 _ (thr0 hv1 nv1) D E sz) rfl gw_481 gw_1 gw_479 gw_480 ⟨by decide +kernel, by decide +kernel, by decide +kernel⟩ ⟨rfl, rfl⟩ ⟨Nat.le_of_ble_eq_true rfl, Nat.le_of_ble_eq_true rfl⟩ (Nat.le_of_ble_eq_true rfl) dX8_out_1 ⟨by decide, by decide⟩ (fun u hp hx => ?_)
    obtain rfl := hp
    try dsimp only [List.append_nil]
    refine g_aload_n C dX8_out_4 rfl 0 rfl ?_
    refine g_iload_n C dX8_out_5 rfl 2 rfl ?_
    obtain ⟨g2, h⟩ := of_guard h
    obtain ⟨v3, hv3, h⟩ := bind_of h
    rcases of_thx h with ⟨nv3, h⟩ | nv3
    · refine g_cVq (n := 1) (exc := []) (exr := []) C [_] _ rfl rfl [] [] rfl rfl rfl rfl (fun _ h => absurd h (by simp)) (fun _ h => absurd h (by simp)) (fun _ h => absurd h (by simp)) (fun sz => c_X8_requireOrder l μ ν a Ad w x2 _ (thr0 hv3 nv3) D E sz) rfl gw_1155 gw_1 gw_1152 gw_1154 gs_35 ⟨by decide +kernel, by decide +kernel, by decide +kernel⟩ ⟨rfl, rfl⟩ ⟨Nat.le_of_ble_eq_true rfl, Nat.le_of_ble_eq_true rfl⟩ (rcvT (lvZ g2 rfl) rfl rfl rfl) (Nat.le_of_ble_eq_true rfl) dX8_out_6 ⟨by decide, by decide⟩ (fun r u hp hx => ?_)
      obtain ⟨er, rfl⟩ := hp
      rw [er]
      try dsimp only [List.append_nil]
      refine z_astore_n (i := 3) (lv' := [(3, nv (Ad 20) v3.2), (0, .ref (Ad 0 0)), (1, .int x1), (2, .int x2)]) C dX8_out_9 (nv_or _ _) rfl (by decide) (by simp [nv_cat, cat_i, cat_r, cat_n]) ?_
      refine z_aload_n C dX8_out_10 rfl 0 rfl (nv_or _ _) ?_
      refine g_iload_n C dX8_out_11 rfl 2 rfl ?_
      obtain ⟨g4, h⟩ := of_guard h
      rw [nzB_e g4]
      obtain ⟨g5, h⟩ := of_guard h
      obtain ⟨v6, hv6, h⟩ := bind_of h
      refine g_cVi (n := 1) (exc := []) (exr := []) C [_] _ rfl rfl [] [] rfl rfl rfl rfl (fun _ h => absurd h (by simp)) (fun _ h => absurd h (by simp)) (fun _ h => absurd h (by simp)) (fun sz => c_X4_isInBook l μ ν a Ad w (v3.2 - 1) x1 _ hv6 D E sz) rfl gw_1334 gw_30 gw_1331 gw_1332 gw_1333 ⟨by decide +kernel, by decide +kernel, by decide +kernel⟩ ⟨rfl, rfl⟩ ⟨Nat.le_of_ble_eq_true rfl, Nat.le_of_ble_eq_true rfl⟩ (rcvT (lvZ g5 rfl) rfl rfl rfl) (Nat.le_of_ble_eq_true rfl) dX8_out_12 ⟨by decide, by decide⟩ (fun r u hp hx => ?_)
      obtain ⟨er, rfl⟩ := hp
      rw [er]
      try dsimp only [List.append_nil]
      refine g_if_eq (tgt := 29) C dX8_out_15 (by decide) (fun c15 => ?_) (fun c15 => ?_)
      · replace h := (if_pos c15).symm.trans h
        refine g_iconst (v := (-1 : Int32)) C dX8_out_29 (by decide) ?_
        exact absurd (congrArg Prod.fst (Option.some.inj h)) (by simp)
      · replace h := (if_neg c15).symm.trans h
        refine g_aload_n C dX8_out_18 rfl 0 rfl ?_
        refine g_iload_n C dX8_out_19 rfl 2 rfl ?_
        obtain ⟨v7, hv7, h⟩ := bind_of h
        refine g_cVq (n := 1) (exc := []) (exr := []) C [_] _ rfl rfl [] [] rfl rfl rfl rfl (fun _ h => absurd h (by simp)) (fun _ h => absurd h (by simp)) (fun _ h => absurd h (by simp)) (fun sz => c_X4_book l μ ν a Ad w (v3.2 - 1) x1 _ hv7 D E sz) rfl gw_1342 gw_30 gw_1350 gw_1340 gw_1341 ⟨by decide +kernel, by decide +kernel, by decide +kernel⟩ ⟨rfl, rfl⟩ ⟨Nat.le_of_ble_eq_true rfl, Nat.le_of_ble_eq_true rfl⟩ (rcvT (lvZ g5 rfl) rfl rfl rfl) (Nat.le_of_ble_eq_true rfl) dX8_out_20 ⟨by decide, by decide⟩ (fun r u hp hx => ?_)
        obtain ⟨er, rfl⟩ := hp
        rw [er]
        try dsimp only [List.append_nil]
        obtain ⟨g8, h⟩ := of_guard h
        rw [nzB_e g8]
        obtain ⟨g9, h⟩ := of_guard h
        refine g_get (k := 21) (i := (v7 - 1)) (ref := "TradeLine$Book") (v := .int (μ.1 21 (v7 - 1) 3)) C rfl (lvZ g9 rfl) rfl rfl inGX1 3 (by decide) gw_1099 (fun _ h => h) rfl dX8_out_23 ?_
        refine g_goto (tgt := 30) C dX8_out_26 (by decide) ?_
        exact absurd (congrArg Prod.fst (Option.some.inj h)) (by simp)
    · exact g_xV (index := 1) C hEv ⟨rfl, rfl⟩ hT hz [_] _ rfl rfl (fun sz => x_X8_requireOrder l hl B μ ν a Ad w x2 _ _ (thrS hv3 nv3) D E sz) rfl gw_1155 gw_1 gw_1152 gw_1154 gs_35 ⟨by decide +kernel, by decide +kernel, by decide +kernel⟩ ⟨rfl, rfl⟩ ⟨Nat.le_of_ble_eq_true rfl, Nat.le_of_ble_eq_true rfl⟩ (rcvT (lvZ g2 rfl) rfl rfl rfl) (Nat.le_of_ble_eq_true rfl) dX8_out_6 ⟨by decide, by decide⟩
  · exact g_xS (index := 1) C hEv ⟨rfl, rfl⟩ hT hz [_] _ rfl rfl (fun sz => x_X8_requireSide l hl B μ ν a Ad w x1 _ _ (thrS hv1 nv1) D E sz) rfl gw_481 gw_1 gw_479 gw_480 ⟨by decide +kernel, by decide +kernel, by decide +kernel⟩ ⟨rfl, rfl⟩ ⟨Nat.le_of_ble_eq_true rfl, Nat.le_of_ble_eq_true rfl⟩ (Nat.le_of_ble_eq_true rfl) dX8_out_1 ⟨by decide, by decide⟩
theorem x_X8_out (l : Launch) (hl : l.stackTraces = false) (B : Nat × (Nat → Nat)) (μ : MP) (ν : NC) (a : AS) (Ad : Nat → Nat → Nat) (w : Nat) (x1 : Int32) (x2 : Int32) (nx : Nat) (r0 : Int32) (h : f_X8_out w μ ν x1 x2 = some (nx + 1, r0)) : ∀ D E sz, vx_Met l yX8_out gwX8_out ({ frames := 7, cells := 1, slots := 6, locals := 124 } : Room) (cPe D E sz B (zS μ ν a Ad) [] [] [.ref (Ad 0 0), .int x1, .int x2]) (fun _ _ _ _ => False) (cX D E sz (zS μ ν a Ad) (nx + 1)) 1 6 (Aof (zS μ ν a Ad) [] sz) := by
  intro D E sz
  refine g_ofx (cc := cX8_out) (maxL := 4) (ret := (some .int)) (own := "TradeLine") (by decide) rfl rfl (Nat.le_of_ble_eq_true rfl) ?_
  intro p e s m args below meth c C hT hz ha hEv
  refine g_lv (lv' := [(0, .ref (Ad 0 0)), (1, .int x1), (2, .int x2)]) [0, 1, 2] rfl ?_
  exact lx_X8_out_0 C hEv hl hT hz h
noncomputable def b_X8_venues_30 (k11 : Nat → Int32 → Int32 → Option (Nat × (Int32))) (w : Nat) (μ : MP) (ν : NC) (p2 : Nat) (x3 : Int32) (x4 : Int32) : Option (Nat × (Int32)) := yl (x4 + (1 : Int32)) (fun t5 => k11 p2 x3 t5)
set_option maxHeartbeats 4000000 in
set_option maxRecDepth 100000 in
theorem lb_X8_venues_30 {p : Program} {l : Launch} {e : Env} {s : State} {m : MethodId} {args : Array Value} {below : List Frame} {meth : Method} {c : Code} {D : va_G} {E : Nat → ClassId} {sz : Nat} {μ : MP} {ν : NC} {a : AS} {Ad : Nat → Nat → Nat} {w : Nat} {r0 : Int32} (C : cx p s m args meth c D E (Aof (zS μ ν a Ad) [] s.heap.size) cX8_venues 5 "TradeLine") (hr : meth.sig.returnType = (some .int)) (hz : s.heap.size = sz) {p2 : Nat} {x3 : Int32} {x4 : Int32} {k11 : Nat → Int32 → Int32 → Option (Nat × (Int32))} (hk11 : ∀ (z2 : Nat) (z3 : Int32) (z4 : Int32), k11 z2 z3 z4 = some (0, r0) → G p l e ({ frames := 5, cells := 0, slots := 0, locals := 124 } : Room) s m args below meth c D E (Aof (zS μ ν a Ad) [] s.heap.size) 5 (MQ below (cQ D E sz (zS μ ν a Ad) [] (pI (fun r u => r = r0 ∧ u = (zS μ ν a Ad, [])))) args s 0 0 (Aof (zS μ ν a Ad) [] s.heap.size)) (zS μ ν a Ad) [] 0 0 11 [(0, .ref (Ad 0 0)), (2, nv (Ad 20) z2), (3, .int z3), (4, .int z4)] []) (h : b_X8_venues_30 k11 w μ ν p2 x3 x4 = some (0, r0)) : G p l e ({ frames := 5, cells := 0, slots := 0, locals := 124 } : Room) s m args below meth c D E (Aof (zS μ ν a Ad) [] s.heap.size) 5 (MQ below (cQ D E sz (zS μ ν a Ad) [] (pI (fun r u => r = r0 ∧ u = (zS μ ν a Ad, [])))) args s 0 0 (Aof (zS μ ν a Ad) [] s.heap.size)) (zS μ ν a Ad) [] 0 0 30 [(0, .ref (Ad 0 0)), (2, nv (Ad 20) p2), (3, .int x3), (4, .int x4)] [] := by
  unfold b_X8_venues_30 at h
  obtain ⟨t5, et5⟩ : ∃ y : Int32, x4 + (1 : Int32) = y := ⟨_, rfl⟩
  replace h := yl_of h et5
  refine g_iinc (v := t5) (lv' := [(4, .int t5), (0, .ref (Ad 0 0)), (2, nv (Ad 20) p2), (3, .int x3)]) C dX8_venues_30 3 rfl (by rw [← et5]; rfl) (by decide) (by simp [nv_cat, cat_i, cat_r, cat_n]) ?_
  refine g_goto (tgt := 11) C dX8_venues_33 (by decide) ?_
  refine g_lv [1, 2, 3, 0] rfl ?_
  exact hk11 _ _ _ h
noncomputable def b_X8_venues_11 (k11 : Nat → Int32 → Int32 → Option (Nat × (Int32))) (w : Nat) (μ : MP) (ν : NC) (p2 : Nat) (x3 : Int32) (x4 : Int32) : Option (Nat × (Int32)) := (if (3 : Int32) ≤ x4 then (some ((0 : Nat), x3)) else (bif ltB 0 (ν.2 0) then (f_X8_hasExecutedAt w μ ν p2 x4).bind (fun v4 => (if v4 = (0 : Int32) then (b_X8_venues_30 k11 w μ ν p2 x3 x4) else (yl (x3 + (1 : Int32)) (fun t6 => b_X8_venues_30 k11 w μ ν p2 t6 x4)))) else none))
set_option maxHeartbeats 4000000 in
set_option maxRecDepth 100000 in
theorem lb_X8_venues_11 {p : Program} {l : Launch} {e : Env} {s : State} {m : MethodId} {args : Array Value} {below : List Frame} {meth : Method} {c : Code} {D : va_G} {E : Nat → ClassId} {sz : Nat} {μ : MP} {ν : NC} {a : AS} {Ad : Nat → Nat → Nat} {w : Nat} {r0 : Int32} (C : cx p s m args meth c D E (Aof (zS μ ν a Ad) [] s.heap.size) cX8_venues 5 "TradeLine") (hr : meth.sig.returnType = (some .int)) (hz : s.heap.size = sz) {p2 : Nat} {x3 : Int32} {x4 : Int32} {k11 : Nat → Int32 → Int32 → Option (Nat × (Int32))} (hk11 : ∀ (z2 : Nat) (z3 : Int32) (z4 : Int32), k11 z2 z3 z4 = some (0, r0) → G p l e ({ frames := 5, cells := 0, slots := 0, locals := 124 } : Room) s m args below meth c D E (Aof (zS μ ν a Ad) [] s.heap.size) 5 (MQ below (cQ D E sz (zS μ ν a Ad) [] (pI (fun r u => r = r0 ∧ u = (zS μ ν a Ad, [])))) args s 0 0 (Aof (zS μ ν a Ad) [] s.heap.size)) (zS μ ν a Ad) [] 0 0 11 [(0, .ref (Ad 0 0)), (2, nv (Ad 20) z2), (3, .int z3), (4, .int z4)] []) (h : b_X8_venues_11 k11 w μ ν p2 x3 x4 = some (0, r0)) : G p l e ({ frames := 5, cells := 0, slots := 0, locals := 124 } : Room) s m args below meth c D E (Aof (zS μ ν a Ad) [] s.heap.size) 5 (MQ below (cQ D E sz (zS μ ν a Ad) [] (pI (fun r u => r = r0 ∧ u = (zS μ ν a Ad, [])))) args s 0 0 (Aof (zS μ ν a Ad) [] s.heap.size)) (zS μ ν a Ad) [] 0 0 11 [(0, .ref (Ad 0 0)), (2, nv (Ad 20) p2), (3, .int x3), (4, .int x4)] [] := by
  unfold b_X8_venues_11 at h
  refine g_iload C dX8_venues_11 3 rfl ?_
  refine g_iconst (v := (3 : Int32)) C dX8_venues_13 (by decide) ?_
  refine g_icmp_ge (tgt := 36) C dX8_venues_14 (by decide) (fun c14 => ?_) (fun c14 => ?_)
  · replace h := (if_pos c14).symm.trans h
    refine g_iload_n C dX8_venues_36 rfl 2 rfl ?_
    obtain rfl := congrArg Prod.snd (Option.some.inj h)
    exact g_iret C hr rfl hz ⟨rfl, rfl, fun _ => rfl, fun _ => rfl⟩ ⟨rfl, rfl⟩ (fun j x h => by simp at h) dX8_venues_37
  · replace h := (if_neg c14).symm.trans h
    refine g_aload_n C dX8_venues_17 rfl 0 rfl ?_
    refine z_aload_n C dX8_venues_18 rfl 1 rfl (nv_or _ _) ?_
    refine g_iload C dX8_venues_19 3 rfl ?_
    obtain ⟨g3, h⟩ := of_guard h
    obtain ⟨v4, hv4, h⟩ := bind_of h
    refine g_cVi (n := 2) (exc := []) (exr := []) C [_, _] _ rfl rfl [] [] rfl rfl rfl rfl (fun _ h => absurd h (by simp)) (fun _ h => absurd h (by simp)) (fun _ h => absurd h (by simp)) (fun sz => c_X8_hasExecutedAt l μ ν a Ad w p2 x4 _ hv4 D E sz) rfl gw_1323 gw_1 gw_1320 gw_1322 gs_40 ⟨by decide +kernel, by decide +kernel, by decide +kernel⟩ ⟨rfl, rfl⟩ ⟨Nat.le_of_ble_eq_true rfl, Nat.le_of_ble_eq_true rfl⟩ (rcvT (lvZ g3 rfl) rfl rfl rfl) (Nat.le_of_ble_eq_true rfl) dX8_venues_21 ⟨by decide, by decide⟩ (fun r u hp hx => ?_)
    obtain ⟨er, rfl⟩ := hp
    rw [er]
    try dsimp only [List.append_nil]
    refine g_if_eq (tgt := 30) C dX8_venues_24 (by decide) (fun c24 => ?_) (fun c24 => ?_)
    · replace h := (if_pos c24).symm.trans h
      refine g_lv [0, 1, 2, 3] rfl ?_
      exact lb_X8_venues_30 C hr hz hk11 h
    · replace h := (if_neg c24).symm.trans h
      obtain ⟨t6, et6⟩ : ∃ y : Int32, x3 + (1 : Int32) = y := ⟨_, rfl⟩
      replace h := yl_of h et6
      refine g_iinc (v := t6) (lv' := [(3, .int t6), (0, .ref (Ad 0 0)), (2, nv (Ad 20) p2), (4, .int x4)]) C dX8_venues_27 2 rfl (by rw [← et6]; rfl) (by decide) (by simp [nv_cat, cat_i, cat_r, cat_n]) ?_
      refine g_lv [1, 2, 0, 3] rfl ?_
      exact lb_X8_venues_30 C hr hz hk11 h
noncomputable def l_X8_venues_11  (w : Nat) (μ : MP) (ν : NC) : Nat → Nat → Int32 → Int32 → Option (Nat × (Int32))
  | 0 => fun _ _ _ => none
  | n + 1 => fun p2 x3 x4 => b_X8_venues_11  (l_X8_venues_11  w μ ν n) w μ ν p2 x3 x4
theorem ll_X8_venues_11 {p : Program} {l : Launch} {e : Env} {s : State} {m : MethodId} {args : Array Value} {below : List Frame} {meth : Method} {c : Code} {D : va_G} {E : Nat → ClassId} {sz : Nat} {μ : MP} {ν : NC} {a : AS} {Ad : Nat → Nat → Nat} {w : Nat} {r0 : Int32} (C : cx p s m args meth c D E (Aof (zS μ ν a Ad) [] s.heap.size) cX8_venues 5 "TradeLine") (hr : meth.sig.returnType = (some .int)) (hz : s.heap.size = sz)   : ∀ (n : Nat) (p2 : Nat) (x3 : Int32) (x4 : Int32), l_X8_venues_11  w μ ν n p2 x3 x4 = some (0, r0) → G p l e ({ frames := 5, cells := 0, slots := 0, locals := 124 } : Room) s m args below meth c D E (Aof (zS μ ν a Ad) [] s.heap.size) 5 (MQ below (cQ D E sz (zS μ ν a Ad) [] (pI (fun r u => r = r0 ∧ u = (zS μ ν a Ad, [])))) args s 0 0 (Aof (zS μ ν a Ad) [] s.heap.size)) (zS μ ν a Ad) [] 0 0 11 [(0, .ref (Ad 0 0)), (2, nv (Ad 20) p2), (3, .int x3), (4, .int x4)] [] := by
  intro n
  induction n with
  | zero => exact fun p2 x3 x4 h => absurd (show (none : Option (Nat × (Int32))) = some (0, r0) from h) (by simp)
  | succ n ih => exact fun p2 x3 x4 h => lb_X8_venues_11 (w := w) C hr hz  ih h
noncomputable def f_X8_venues  (w : Nat) (μ : MP) (ν : NC) (x1 : Int32) : Option (Nat × (Int32)) := bif ltB 0 (ν.2 0) then (f_X8_requireOrder w μ ν x1).bind (fun v2 => bif eqB v2.1 0 then l_X8_venues_11  w μ ν w v2.2 (0 : Int32) (0 : Int32) else some (v2.1, (0 : Int32))) else none
set_option maxHeartbeats 4000000 in
set_option maxRecDepth 100000 in
theorem lb_X8_venues_0 {p : Program} {l : Launch} {e : Env} {s : State} {m : MethodId} {args : Array Value} {below : List Frame} {meth : Method} {c : Code} {D : va_G} {E : Nat → ClassId} {sz : Nat} {μ : MP} {ν : NC} {a : AS} {Ad : Nat → Nat → Nat} {w : Nat} {r0 : Int32} (C : cx p s m args meth c D E (Aof (zS μ ν a Ad) [] s.heap.size) cX8_venues 5 "TradeLine") (hr : meth.sig.returnType = (some .int)) (hz : s.heap.size = sz) {x1 : Int32}   (h : f_X8_venues  w μ ν x1 = some (0, r0)) : G p l e ({ frames := 5, cells := 0, slots := 0, locals := 124 } : Room) s m args below meth c D E (Aof (zS μ ν a Ad) [] s.heap.size) 5 (MQ below (cQ D E sz (zS μ ν a Ad) [] (pI (fun r u => r = r0 ∧ u = (zS μ ν a Ad, [])))) args s 0 0 (Aof (zS μ ν a Ad) [] s.heap.size)) (zS μ ν a Ad) [] 0 0 0 [(0, .ref (Ad 0 0)), (1, .int x1)] [] := by
  unfold f_X8_venues at h
  refine g_aload_n C dX8_venues_0 rfl 0 rfl ?_
  refine g_iload_n C dX8_venues_1 rfl 1 rfl ?_
  obtain ⟨g1, h⟩ := of_guard h
  obtain ⟨v2, hv2, h⟩ := bind_of h
  obtain ⟨nv2, h⟩ := of_thr h
  refine g_cVq (n := 1) (exc := []) (exr := []) C [_] _ rfl rfl [] [] rfl rfl rfl rfl (fun _ h => absurd h (by simp)) (fun _ h => absurd h (by simp)) (fun _ h => absurd h (by simp)) (fun sz => c_X8_requireOrder l μ ν a Ad w x1 _ (thr0 hv2 nv2) D E sz) rfl gw_1155 gw_1 gw_1152 gw_1154 gs_35 ⟨by decide +kernel, by decide +kernel, by decide +kernel⟩ ⟨rfl, rfl⟩ ⟨Nat.le_of_ble_eq_true rfl, Nat.le_of_ble_eq_true rfl⟩ (rcvT (lvZ g1 rfl) rfl rfl rfl) (Nat.le_of_ble_eq_true rfl) dX8_venues_2 ⟨by decide, by decide⟩ (fun r u hp hx => ?_)
  obtain ⟨er, rfl⟩ := hp
  rw [er]
  try dsimp only [List.append_nil]
  refine z_astore_n (i := 2) (lv' := [(2, nv (Ad 20) v2.2), (0, .ref (Ad 0 0)), (1, .int x1)]) C dX8_venues_5 (nv_or _ _) rfl (by decide) (by simp [nv_cat, cat_i, cat_r, cat_n]) ?_
  refine g_iconst (v := (0 : Int32)) C dX8_venues_6 (by decide) ?_
  refine g_istore_n (i := 3) (lv' := [(3, .int (0 : Int32)), (2, nv (Ad 20) v2.2), (0, .ref (Ad 0 0)), (1, .int x1)]) C dX8_venues_7 rfl (by decide) (by simp [nv_cat, cat_i, cat_r, cat_n]) ?_
  refine g_iconst (v := (0 : Int32)) C dX8_venues_8 (by decide) ?_
  refine g_istore (lv' := [(4, .int (0 : Int32)), (3, .int (0 : Int32)), (2, nv (Ad 20) v2.2), (0, .ref (Ad 0 0)), (1, .int x1)]) C dX8_venues_9 (by decide) (by simp [nv_cat, cat_i, cat_r, cat_n]) ?_
  refine g_lv [3, 2, 1, 0] rfl ?_
  exact ll_X8_venues_11 C hr hz  w _ _ _ h
theorem c_X8_venues (l : Launch) (μ : MP) (ν : NC) (a : AS) (Ad : Nat → Nat → Nat) (w : Nat) (x1 : Int32) (r0 : Int32) (h : f_X8_venues w μ ν x1 = some (0, r0)) : ∀ D E sz, Met l yX8_venues gwX8_venues ({ frames := 5, cells := 0, slots := 0, locals := 124 } : Room) (cP D E sz (zS μ ν a Ad) [] [.ref (Ad 0 0), .int x1]) (cQ D E sz (zS μ ν a Ad) [] (pI (fun r u => r = r0 ∧ u = (zS μ ν a Ad, [])))) (0) (0) (Aof (zS μ ν a Ad) [] sz) := by
  intro D E sz
  refine g_of (cc := cX8_venues) (maxL := 5) (ret := (some .int)) (own := "TradeLine") (by decide) rfl rfl (Nat.le_of_ble_eq_true rfl) ?_
  intro p e s m args below meth c C hr hin hz ha hwr
  refine g_lv (lv' := [(0, .ref (Ad 0 0)), (1, .int x1)]) [0, 1] rfl ?_
  exact lb_X8_venues_0 C hr hz h
set_option maxHeartbeats 4000000 in
set_option maxRecDepth 100000 in
theorem lx_X8_venues_30 {p : Program} {l : Launch} {e : Env} {s : State} {m : MethodId} {args : Array Value} {below : List Frame} {meth : Method} {c : Code} {D : va_G} {E : Nat → ClassId} {sz : Nat} {μ : MP} {ν : NC} {a : AS} {Ad : Nat → Nat → Nat} {w nx : Nat} {B : Nat × (Nat → Nat)} {r0 : Int32} (C : cx p s m args meth c D E (Aof (zS μ ν a Ad) [] s.heap.size) cX8_venues 5 "TradeLine") (hEv : eV (Ad 30 0) (Ad 31 0) B (Aof (zS μ ν a Ad) [] s.heap.size) s s.heap) (hl : l.stackTraces = false) (hT : ∀ x ∈ c.exceptionTable.toList, False) (hz : s.heap.size = sz) {p2 : Nat} {x3 : Int32} {x4 : Int32} {k11 : Nat → Int32 → Int32 → Option (Nat × (Int32))} (hk11 : ∀ (z2 : Nat) (z3 : Int32) (z4 : Int32), k11 z2 z3 z4 = some (nx + 1, r0) → G p l e ({ frames := 7, cells := 1, slots := 6, locals := 124 } : Room) s m args below meth c D E (Aof (zS μ ν a Ad) [] s.heap.size) 5 (vx_MQ below (fun _ _ _ _ => False) (cX D E sz (zS μ ν a Ad) (nx + 1)) args s 1 6 (Aof (zS μ ν a Ad) [] s.heap.size)) (zS μ ν a Ad) [] 0 0 11 [(0, .ref (Ad 0 0)), (2, nv (Ad 20) z2), (3, .int z3), (4, .int z4)] []) (h : b_X8_venues_30 k11 w μ ν p2 x3 x4 = some (nx + 1, r0)) : G p l e ({ frames := 7, cells := 1, slots := 6, locals := 124 } : Room) s m args below meth c D E (Aof (zS μ ν a Ad) [] s.heap.size) 5 (vx_MQ below (fun _ _ _ _ => False) (cX D E sz (zS μ ν a Ad) (nx + 1)) args s 1 6 (Aof (zS μ ν a Ad) [] s.heap.size)) (zS μ ν a Ad) [] 0 0 30 [(0, .ref (Ad 0 0)), (2, nv (Ad 20) p2), (3, .int x3), (4, .int x4)] [] := by
  unfold b_X8_venues_30 at h
  obtain ⟨t5, et5⟩ : ∃ y : Int32, x4 + (1 : Int32) = y := ⟨_, rfl⟩
  replace h := yl_of h et5
  refine g_iinc (v := t5) (lv' := [(4, .int t5), (0, .ref (Ad 0 0)), (2, nv (Ad 20) p2), (3, .int x3)]) C dX8_venues_30 3 rfl (by rw [← et5]; rfl) (by decide) (by simp [nv_cat, cat_i, cat_r, cat_n]) ?_
  refine g_goto (tgt := 11) C dX8_venues_33 (by decide) ?_
  refine g_lv [1, 2, 3, 0] rfl ?_
  exact hk11 _ _ _ h
set_option maxHeartbeats 4000000 in
set_option maxRecDepth 100000 in
theorem lx_X8_venues_11 {p : Program} {l : Launch} {e : Env} {s : State} {m : MethodId} {args : Array Value} {below : List Frame} {meth : Method} {c : Code} {D : va_G} {E : Nat → ClassId} {sz : Nat} {μ : MP} {ν : NC} {a : AS} {Ad : Nat → Nat → Nat} {w nx : Nat} {B : Nat × (Nat → Nat)} {r0 : Int32} (C : cx p s m args meth c D E (Aof (zS μ ν a Ad) [] s.heap.size) cX8_venues 5 "TradeLine") (hEv : eV (Ad 30 0) (Ad 31 0) B (Aof (zS μ ν a Ad) [] s.heap.size) s s.heap) (hl : l.stackTraces = false) (hT : ∀ x ∈ c.exceptionTable.toList, False) (hz : s.heap.size = sz) {p2 : Nat} {x3 : Int32} {x4 : Int32} {k11 : Nat → Int32 → Int32 → Option (Nat × (Int32))} (hk11 : ∀ (z2 : Nat) (z3 : Int32) (z4 : Int32), k11 z2 z3 z4 = some (nx + 1, r0) → G p l e ({ frames := 7, cells := 1, slots := 6, locals := 124 } : Room) s m args below meth c D E (Aof (zS μ ν a Ad) [] s.heap.size) 5 (vx_MQ below (fun _ _ _ _ => False) (cX D E sz (zS μ ν a Ad) (nx + 1)) args s 1 6 (Aof (zS μ ν a Ad) [] s.heap.size)) (zS μ ν a Ad) [] 0 0 11 [(0, .ref (Ad 0 0)), (2, nv (Ad 20) z2), (3, .int z3), (4, .int z4)] []) (h : b_X8_venues_11 k11 w μ ν p2 x3 x4 = some (nx + 1, r0)) : G p l e ({ frames := 7, cells := 1, slots := 6, locals := 124 } : Room) s m args below meth c D E (Aof (zS μ ν a Ad) [] s.heap.size) 5 (vx_MQ below (fun _ _ _ _ => False) (cX D E sz (zS μ ν a Ad) (nx + 1)) args s 1 6 (Aof (zS μ ν a Ad) [] s.heap.size)) (zS μ ν a Ad) [] 0 0 11 [(0, .ref (Ad 0 0)), (2, nv (Ad 20) p2), (3, .int x3), (4, .int x4)] [] := by
  unfold b_X8_venues_11 at h
  refine g_iload C dX8_venues_11 3 rfl ?_
  refine g_iconst (v := (3 : Int32)) C dX8_venues_13 (by decide) ?_
  refine g_icmp_ge (tgt := 36) C dX8_venues_14 (by decide) (fun c14 => ?_) (fun c14 => ?_)
  · replace h := (if_pos c14).symm.trans h
    refine g_iload_n C dX8_venues_36 rfl 2 rfl ?_
    exact absurd (congrArg Prod.fst (Option.some.inj h)) (by simp)
  · replace h := (if_neg c14).symm.trans h
    refine g_aload_n C dX8_venues_17 rfl 0 rfl ?_
    refine z_aload_n C dX8_venues_18 rfl 1 rfl (nv_or _ _) ?_
    refine g_iload C dX8_venues_19 3 rfl ?_
    obtain ⟨g3, h⟩ := of_guard h
    obtain ⟨v4, hv4, h⟩ := bind_of h
    refine g_cVi (n := 2) (exc := []) (exr := []) C [_, _] _ rfl rfl [] [] rfl rfl rfl rfl (fun _ h => absurd h (by simp)) (fun _ h => absurd h (by simp)) (fun _ h => absurd h (by simp)) (fun sz => c_X8_hasExecutedAt l μ ν a Ad w p2 x4 _ hv4 D E sz) rfl gw_1323 gw_1 gw_1320 gw_1322 gs_40 ⟨by decide +kernel, by decide +kernel, by decide +kernel⟩ ⟨rfl, rfl⟩ ⟨Nat.le_of_ble_eq_true rfl, Nat.le_of_ble_eq_true rfl⟩ (rcvT (lvZ g3 rfl) rfl rfl rfl) (Nat.le_of_ble_eq_true rfl) dX8_venues_21 ⟨by decide, by decide⟩ (fun r u hp hx => ?_)
    obtain ⟨er, rfl⟩ := hp
    rw [er]
    try dsimp only [List.append_nil]
    refine g_if_eq (tgt := 30) C dX8_venues_24 (by decide) (fun c24 => ?_) (fun c24 => ?_)
    · replace h := (if_pos c24).symm.trans h
      refine g_lv [0, 1, 2, 3] rfl ?_
      exact lx_X8_venues_30 C hEv hl hT hz hk11 h
    · replace h := (if_neg c24).symm.trans h
      obtain ⟨t6, et6⟩ : ∃ y : Int32, x3 + (1 : Int32) = y := ⟨_, rfl⟩
      replace h := yl_of h et6
      refine g_iinc (v := t6) (lv' := [(3, .int t6), (0, .ref (Ad 0 0)), (2, nv (Ad 20) p2), (4, .int x4)]) C dX8_venues_27 2 rfl (by rw [← et6]; rfl) (by decide) (by simp [nv_cat, cat_i, cat_r, cat_n]) ?_
      refine g_lv [1, 2, 0, 3] rfl ?_
      exact lx_X8_venues_30 C hEv hl hT hz hk11 h
theorem lxl_X8_venues_11 {p : Program} {l : Launch} {e : Env} {s : State} {m : MethodId} {args : Array Value} {below : List Frame} {meth : Method} {c : Code} {D : va_G} {E : Nat → ClassId} {sz : Nat} {μ : MP} {ν : NC} {a : AS} {Ad : Nat → Nat → Nat} {w nx : Nat} {B : Nat × (Nat → Nat)} {r0 : Int32} (C : cx p s m args meth c D E (Aof (zS μ ν a Ad) [] s.heap.size) cX8_venues 5 "TradeLine") (hEv : eV (Ad 30 0) (Ad 31 0) B (Aof (zS μ ν a Ad) [] s.heap.size) s s.heap) (hl : l.stackTraces = false) (hT : ∀ x ∈ c.exceptionTable.toList, False) (hz : s.heap.size = sz)   : ∀ (n : Nat) (p2 : Nat) (x3 : Int32) (x4 : Int32), l_X8_venues_11  w μ ν n p2 x3 x4 = some (nx + 1, r0) → G p l e ({ frames := 7, cells := 1, slots := 6, locals := 124 } : Room) s m args below meth c D E (Aof (zS μ ν a Ad) [] s.heap.size) 5 (vx_MQ below (fun _ _ _ _ => False) (cX D E sz (zS μ ν a Ad) (nx + 1)) args s 1 6 (Aof (zS μ ν a Ad) [] s.heap.size)) (zS μ ν a Ad) [] 0 0 11 [(0, .ref (Ad 0 0)), (2, nv (Ad 20) p2), (3, .int x3), (4, .int x4)] [] := by
  intro n
  induction n with
  | zero => exact fun p2 x3 x4 h => absurd (show (none : Option (Nat × (Int32))) = some (nx + 1, r0) from h) (by simp)
  | succ n ih => exact fun p2 x3 x4 h => lx_X8_venues_11 (w := w) C hEv hl hT hz  ih h
set_option maxHeartbeats 4000000 in
set_option maxRecDepth 100000 in
theorem lx_X8_venues_0 {p : Program} {l : Launch} {e : Env} {s : State} {m : MethodId} {args : Array Value} {below : List Frame} {meth : Method} {c : Code} {D : va_G} {E : Nat → ClassId} {sz : Nat} {μ : MP} {ν : NC} {a : AS} {Ad : Nat → Nat → Nat} {w nx : Nat} {B : Nat × (Nat → Nat)} {r0 : Int32} (C : cx p s m args meth c D E (Aof (zS μ ν a Ad) [] s.heap.size) cX8_venues 5 "TradeLine") (hEv : eV (Ad 30 0) (Ad 31 0) B (Aof (zS μ ν a Ad) [] s.heap.size) s s.heap) (hl : l.stackTraces = false) (hT : ∀ x ∈ c.exceptionTable.toList, False) (hz : s.heap.size = sz) {x1 : Int32}   (h : f_X8_venues  w μ ν x1 = some (nx + 1, r0)) : G p l e ({ frames := 7, cells := 1, slots := 6, locals := 124 } : Room) s m args below meth c D E (Aof (zS μ ν a Ad) [] s.heap.size) 5 (vx_MQ below (fun _ _ _ _ => False) (cX D E sz (zS μ ν a Ad) (nx + 1)) args s 1 6 (Aof (zS μ ν a Ad) [] s.heap.size)) (zS μ ν a Ad) [] 0 0 0 [(0, .ref (Ad 0 0)), (1, .int x1)] [] := by
  unfold f_X8_venues at h
  refine g_aload_n C dX8_venues_0 rfl 0 rfl ?_
  refine g_iload_n C dX8_venues_1 rfl 1 rfl ?_
  obtain ⟨g1, h⟩ := of_guard h
  obtain ⟨v2, hv2, h⟩ := bind_of h
  rcases of_thx h with ⟨nv2, h⟩ | nv2
  · refine g_cVq (n := 1) (exc := []) (exr := []) C [_] _ rfl rfl [] [] rfl rfl rfl rfl (fun _ h => absurd h (by simp)) (fun _ h => absurd h (by simp)) (fun _ h => absurd h (by simp)) (fun sz => c_X8_requireOrder l μ ν a Ad w x1 _ (thr0 hv2 nv2) D E sz) rfl gw_1155 gw_1 gw_1152 gw_1154 gs_35 ⟨by decide +kernel, by decide +kernel, by decide +kernel⟩ ⟨rfl, rfl⟩ ⟨Nat.le_of_ble_eq_true rfl, Nat.le_of_ble_eq_true rfl⟩ (rcvT (lvZ g1 rfl) rfl rfl rfl) (Nat.le_of_ble_eq_true rfl) dX8_venues_2 ⟨by decide, by decide⟩ (fun r u hp hx => ?_)
    obtain ⟨er, rfl⟩ := hp
    rw [er]
    try dsimp only [List.append_nil]
    refine z_astore_n (i := 2) (lv' := [(2, nv (Ad 20) v2.2), (0, .ref (Ad 0 0)), (1, .int x1)]) C dX8_venues_5 (nv_or _ _) rfl (by decide) (by simp [nv_cat, cat_i, cat_r, cat_n]) ?_
    refine g_iconst (v := (0 : Int32)) C dX8_venues_6 (by decide) ?_
    refine g_istore_n (i := 3) (lv' := [(3, .int (0 : Int32)), (2, nv (Ad 20) v2.2), (0, .ref (Ad 0 0)), (1, .int x1)]) C dX8_venues_7 rfl (by decide) (by simp [nv_cat, cat_i, cat_r, cat_n]) ?_
    refine g_iconst (v := (0 : Int32)) C dX8_venues_8 (by decide) ?_
    refine g_istore (lv' := [(4, .int (0 : Int32)), (3, .int (0 : Int32)), (2, nv (Ad 20) v2.2), (0, .ref (Ad 0 0)), (1, .int x1)]) C dX8_venues_9 (by decide) (by simp [nv_cat, cat_i, cat_r, cat_n]) ?_
    refine g_lv [3, 2, 1, 0] rfl ?_
    exact lxl_X8_venues_11 C hEv hl hT hz  w _ _ _ h
  · exact g_xV (index := 1) C hEv ⟨rfl, rfl⟩ hT hz [_] _ rfl rfl (fun sz => x_X8_requireOrder l hl B μ ν a Ad w x1 _ _ (thrS hv2 nv2) D E sz) rfl gw_1155 gw_1 gw_1152 gw_1154 gs_35 ⟨by decide +kernel, by decide +kernel, by decide +kernel⟩ ⟨rfl, rfl⟩ ⟨Nat.le_of_ble_eq_true rfl, Nat.le_of_ble_eq_true rfl⟩ (rcvT (lvZ g1 rfl) rfl rfl rfl) (Nat.le_of_ble_eq_true rfl) dX8_venues_2 ⟨by decide, by decide⟩
theorem x_X8_venues (l : Launch) (hl : l.stackTraces = false) (B : Nat × (Nat → Nat)) (μ : MP) (ν : NC) (a : AS) (Ad : Nat → Nat → Nat) (w : Nat) (x1 : Int32) (nx : Nat) (r0 : Int32) (h : f_X8_venues w μ ν x1 = some (nx + 1, r0)) : ∀ D E sz, vx_Met l yX8_venues gwX8_venues ({ frames := 7, cells := 1, slots := 6, locals := 124 } : Room) (cPe D E sz B (zS μ ν a Ad) [] [] [.ref (Ad 0 0), .int x1]) (fun _ _ _ _ => False) (cX D E sz (zS μ ν a Ad) (nx + 1)) 1 6 (Aof (zS μ ν a Ad) [] sz) := by
  intro D E sz
  refine g_ofx (cc := cX8_venues) (maxL := 5) (ret := (some .int)) (own := "TradeLine") (by decide) rfl rfl (Nat.le_of_ble_eq_true rfl) ?_
  intro p e s m args below meth c C hT hz ha hEv
  refine g_lv (lv' := [(0, .ref (Ad 0 0)), (1, .int x1)]) [0, 1] rfl ?_
  exact lx_X8_venues_0 C hEv hl hT hz h
noncomputable def b_X8_total_16  (w : Nat) (μ : MP) (ν : NC) : Option (Nat × (Int32)) := some ((1 : Nat), (0 : Int32))
set_option maxHeartbeats 4000000 in
set_option maxRecDepth 100000 in
theorem lb_X8_total_16 {p : Program} {l : Launch} {e : Env} {s : State} {m : MethodId} {args : Array Value} {below : List Frame} {meth : Method} {c : Code} {D : va_G} {E : Nat → ClassId} {sz : Nat} {μ : MP} {ν : NC} {a : AS} {Ad : Nat → Nat → Nat} {w : Nat} {r0 : Int32} (C : cx p s m args meth c D E (Aof (zS μ ν a Ad) [] s.heap.size) cX8_total 8 "TradeLine") (hr : meth.sig.returnType = (some .int)) (hz : s.heap.size = sz)   (h : b_X8_total_16  w μ ν  = some (0, r0)) : G p l e ({ frames := 3, cells := 0, slots := 0, locals := 81 } : Room) s m args below meth c D E (Aof (zS μ ν a Ad) [] s.heap.size) 8 (MQ below (cQ D E sz (zS μ ν a Ad) [] (pI (fun r u => r = r0 ∧ u = (zS μ ν a Ad, [])))) args s 0 0 (Aof (zS μ ν a Ad) [] s.heap.size)) (zS μ ν a Ad) [] 0 0 16 [(0, .ref (Ad 0 0))] [] := by
  unfold b_X8_total_16 at h
  exact absurd (congrArg Prod.fst (Option.some.inj h)) (by simp)
noncomputable def b_X8_total_126 (k40 : Int32 → Int32 → Int32 → Int32 → Int32 → Int32 → Option (Nat × (Int32))) (w : Nat) (μ : MP) (ν : NC) (x1 : Int32) (x2 : Int32) (x3 : Int32) (x4 : Int32) (x5 : Int32) (x6 : Int32) : Option (Nat × (Int32)) := yl (x6 + (1 : Int32)) (fun t9 => k40 x1 x2 x3 x4 x5 t9)
set_option maxHeartbeats 4000000 in
set_option maxRecDepth 100000 in
theorem lb_X8_total_126 {p : Program} {l : Launch} {e : Env} {s : State} {m : MethodId} {args : Array Value} {below : List Frame} {meth : Method} {c : Code} {D : va_G} {E : Nat → ClassId} {sz : Nat} {μ : MP} {ν : NC} {a : AS} {Ad : Nat → Nat → Nat} {w : Nat} {r0 : Int32} (C : cx p s m args meth c D E (Aof (zS μ ν a Ad) [] s.heap.size) cX8_total 8 "TradeLine") (hr : meth.sig.returnType = (some .int)) (hz : s.heap.size = sz) {x1 : Int32} {x2 : Int32} {x3 : Int32} {x4 : Int32} {x5 : Int32} {x6 : Int32} {k40 : Int32 → Int32 → Int32 → Int32 → Int32 → Int32 → Option (Nat × (Int32))} (hk40 : ∀ (z1 : Int32) (z2 : Int32) (z3 : Int32) (z4 : Int32) (z5 : Int32) (z6 : Int32), k40 z1 z2 z3 z4 z5 z6 = some (0, r0) → G p l e ({ frames := 3, cells := 0, slots := 0, locals := 81 } : Room) s m args below meth c D E (Aof (zS μ ν a Ad) [] s.heap.size) 8 (MQ below (cQ D E sz (zS μ ν a Ad) [] (pI (fun r u => r = r0 ∧ u = (zS μ ν a Ad, [])))) args s 0 0 (Aof (zS μ ν a Ad) [] s.heap.size)) (zS μ ν a Ad) [] 0 0 40 [(0, .ref (Ad 0 0)), (1, .int z1), (2, .int z2), (3, .int z3), (4, .int z4), (5, .int z5), (6, .int z6)] []) (h : b_X8_total_126 k40 w μ ν x1 x2 x3 x4 x5 x6 = some (0, r0)) : G p l e ({ frames := 3, cells := 0, slots := 0, locals := 81 } : Room) s m args below meth c D E (Aof (zS μ ν a Ad) [] s.heap.size) 8 (MQ below (cQ D E sz (zS μ ν a Ad) [] (pI (fun r u => r = r0 ∧ u = (zS μ ν a Ad, [])))) args s 0 0 (Aof (zS μ ν a Ad) [] s.heap.size)) (zS μ ν a Ad) [] 0 0 126 [(0, .ref (Ad 0 0)), (1, .int x1), (2, .int x2), (3, .int x3), (4, .int x4), (5, .int x5), (6, .int x6)] [] := by
  unfold b_X8_total_126 at h
  obtain ⟨t9, et9⟩ : ∃ y : Int32, x6 + (1 : Int32) = y := ⟨_, rfl⟩
  replace h := yl_of h et9
  refine g_iinc (v := t9) (lv' := [(6, .int t9), (0, .ref (Ad 0 0)), (1, .int x1), (2, .int x2), (3, .int x3), (4, .int x4), (5, .int x5)]) C dX8_total_126 6 rfl (by rw [← et9]; rfl) (by decide) rfl ?_
  refine g_goto (tgt := 40) C dX8_total_129 (by decide) ?_
  refine g_lv [1, 2, 3, 4, 5, 6, 0] rfl ?_
  exact hk40 _ _ _ _ _ _ h
noncomputable def b_X8_total_123 (k40 : Int32 → Int32 → Int32 → Int32 → Int32 → Int32 → Option (Nat × (Int32))) (w : Nat) (μ : MP) (ν : NC) (x1 : Int32) (x2 : Int32) (x3 : Int32) (x4 : Int32) (x6 : Int32) (s0 : Int32) (s1 : Int32) : Option (Nat × (Int32)) := yl ((s1 + s0)) (fun t13 => b_X8_total_126 k40 w μ ν x1 x2 x3 x4 t13 x6)
set_option maxHeartbeats 4000000 in
set_option maxRecDepth 100000 in
theorem lb_X8_total_123 {p : Program} {l : Launch} {e : Env} {s : State} {m : MethodId} {args : Array Value} {below : List Frame} {meth : Method} {c : Code} {D : va_G} {E : Nat → ClassId} {sz : Nat} {μ : MP} {ν : NC} {a : AS} {Ad : Nat → Nat → Nat} {w : Nat} {r0 : Int32} (C : cx p s m args meth c D E (Aof (zS μ ν a Ad) [] s.heap.size) cX8_total 8 "TradeLine") (hr : meth.sig.returnType = (some .int)) (hz : s.heap.size = sz) {x1 : Int32} {x2 : Int32} {x3 : Int32} {x4 : Int32} {x6 : Int32} {s0 : Int32} {s1 : Int32} {k40 : Int32 → Int32 → Int32 → Int32 → Int32 → Int32 → Option (Nat × (Int32))} (hk40 : ∀ (z1 : Int32) (z2 : Int32) (z3 : Int32) (z4 : Int32) (z5 : Int32) (z6 : Int32), k40 z1 z2 z3 z4 z5 z6 = some (0, r0) → G p l e ({ frames := 3, cells := 0, slots := 0, locals := 81 } : Room) s m args below meth c D E (Aof (zS μ ν a Ad) [] s.heap.size) 8 (MQ below (cQ D E sz (zS μ ν a Ad) [] (pI (fun r u => r = r0 ∧ u = (zS μ ν a Ad, [])))) args s 0 0 (Aof (zS μ ν a Ad) [] s.heap.size)) (zS μ ν a Ad) [] 0 0 40 [(0, .ref (Ad 0 0)), (1, .int z1), (2, .int z2), (3, .int z3), (4, .int z4), (5, .int z5), (6, .int z6)] []) (h : b_X8_total_123 k40 w μ ν x1 x2 x3 x4 x6 s0 s1 = some (0, r0)) : G p l e ({ frames := 3, cells := 0, slots := 0, locals := 81 } : Room) s m args below meth c D E (Aof (zS μ ν a Ad) [] s.heap.size) 8 (MQ below (cQ D E sz (zS μ ν a Ad) [] (pI (fun r u => r = r0 ∧ u = (zS μ ν a Ad, [])))) args s 0 0 (Aof (zS μ ν a Ad) [] s.heap.size)) (zS μ ν a Ad) [] 0 0 123 [(0, .ref (Ad 0 0)), (1, .int x1), (2, .int x2), (3, .int x3), (4, .int x4), (6, .int x6)] [.int s0, .int s1] := by
  unfold b_X8_total_123 at h
  refine g_iadd C dX8_total_123 ?_
  refine q_topi (fun t13 et13 => ?_)
  replace h := yl_of h et13
  refine g_istore (lv' := [(5, .int t13), (0, .ref (Ad 0 0)), (1, .int x1), (2, .int x2), (3, .int x3), (4, .int x4), (6, .int x6)]) C dX8_total_124 (by decide) rfl ?_
  refine g_lv [1, 2, 3, 4, 5, 0, 6] rfl ?_
  exact lb_X8_total_126 C hr hz hk40 h
noncomputable def b_X8_total_40 (k40 : Int32 → Int32 → Int32 → Int32 → Int32 → Int32 → Option (Nat × (Int32))) (w : Nat) (μ : MP) (ν : NC) (x1 : Int32) (x2 : Int32) (x3 : Int32) (x4 : Int32) (x5 : Int32) (x6 : Int32) : Option (Nat × (Int32)) := bif ltB 0 (ν.2 0) then bif ltB 5 (ν.2 4) then (if (μ.1 4 5 2) ≤ x6 then (some ((0 : Nat), x5)) else ((ls_get μ ν 5 x6).bind (fun v6 => bif eqB (eK 5 5) 23 then bif ltB v6 (ν.2 23) then (if (μ.1 23 v6 3) = x2 then (bif ltB (μ.2 23 v6 0) (ν.2 20) then (if (μ.1 20 (μ.2 23 v6 0) 1) = x3 then ((f_X2_countsFor w μ ν v6 x1).bind (fun v11 => (if v11 = (0 : Int32) then (b_X8_total_126 k40 w μ ν x1 x2 x3 x4 x5 x6) else ((if x4 = (0 : Int32) then (b_X8_total_123 k40 w μ ν x1 x2 x3 x4 x6 (μ.1 23 v6 2) x5) else ((f_X2_priceFor w μ ν v6 x1).bind (fun v12 => b_X8_total_123 k40 w μ ν x1 x2 x3 x4 x6 ((μ.1 23 v6 2) * v12) x5))))))) else (b_X8_total_126 k40 w μ ν x1 x2 x3 x4 x5 x6)) else none) else (b_X8_total_126 k40 w μ ν x1 x2 x3 x4 x5 x6)) else none else none))) else none else none
set_option maxHeartbeats 4000000 in
set_option maxRecDepth 100000 in
theorem lb_X8_total_40 {p : Program} {l : Launch} {e : Env} {s : State} {m : MethodId} {args : Array Value} {below : List Frame} {meth : Method} {c : Code} {D : va_G} {E : Nat → ClassId} {sz : Nat} {μ : MP} {ν : NC} {a : AS} {Ad : Nat → Nat → Nat} {w : Nat} {r0 : Int32} (C : cx p s m args meth c D E (Aof (zS μ ν a Ad) [] s.heap.size) cX8_total 8 "TradeLine") (hr : meth.sig.returnType = (some .int)) (hz : s.heap.size = sz) {x1 : Int32} {x2 : Int32} {x3 : Int32} {x4 : Int32} {x5 : Int32} {x6 : Int32} {k40 : Int32 → Int32 → Int32 → Int32 → Int32 → Int32 → Option (Nat × (Int32))} (hk40 : ∀ (z1 : Int32) (z2 : Int32) (z3 : Int32) (z4 : Int32) (z5 : Int32) (z6 : Int32), k40 z1 z2 z3 z4 z5 z6 = some (0, r0) → G p l e ({ frames := 3, cells := 0, slots := 0, locals := 81 } : Room) s m args below meth c D E (Aof (zS μ ν a Ad) [] s.heap.size) 8 (MQ below (cQ D E sz (zS μ ν a Ad) [] (pI (fun r u => r = r0 ∧ u = (zS μ ν a Ad, [])))) args s 0 0 (Aof (zS μ ν a Ad) [] s.heap.size)) (zS μ ν a Ad) [] 0 0 40 [(0, .ref (Ad 0 0)), (1, .int z1), (2, .int z2), (3, .int z3), (4, .int z4), (5, .int z5), (6, .int z6)] []) (h : b_X8_total_40 k40 w μ ν x1 x2 x3 x4 x5 x6 = some (0, r0)) : G p l e ({ frames := 3, cells := 0, slots := 0, locals := 81 } : Room) s m args below meth c D E (Aof (zS μ ν a Ad) [] s.heap.size) 8 (MQ below (cQ D E sz (zS μ ν a Ad) [] (pI (fun r u => r = r0 ∧ u = (zS μ ν a Ad, [])))) args s 0 0 (Aof (zS μ ν a Ad) [] s.heap.size)) (zS μ ν a Ad) [] 0 0 40 [(0, .ref (Ad 0 0)), (1, .int x1), (2, .int x2), (3, .int x3), (4, .int x4), (5, .int x5), (6, .int x6)] [] := by
  unfold b_X8_total_40 at h
  refine g_iload C dX8_total_40 6 rfl ?_
  refine g_aload_n C dX8_total_42 rfl 0 rfl ?_
  obtain ⟨g4, h⟩ := of_guard h
  refine g_get (k := 0) (i := 0) (ref := "TradeLine") (v := .ref (Ad 4 5)) C rfl (lvZ g4 rfl) rfl rfl inGX8 5 (by decide) gw_175 (fun _ h => h) rfl dX8_total_43 ?_
  obtain ⟨g5, h⟩ := of_guard h
  refine g_cVi (n := 0) (exc := []) (exr := []) C [] _ rfl rfl [] [] rfl rfl rfl rfl (fun _ h => absurd h (by simp)) (fun _ h => absurd h (by simp)) (fun _ h => absurd h (by simp)) (fun sz => c_Jx4a65c_size_8abf5 l μ ν a Ad _ g5 D E sz) rfl gw_308 gw_5 gw_305 gw_306 gw_307 ⟨by decide +kernel, by decide +kernel, by decide +kernel⟩ ⟨rfl, rfl⟩ ⟨Nat.le_of_ble_eq_true rfl, Nat.le_of_ble_eq_true rfl⟩ (rcvT (lvZ g5 rfl) rfl rfl rfl) (Nat.le_of_ble_eq_true rfl) dX8_total_46 ⟨by decide, by decide⟩ (fun r u hp hx => ?_)
  obtain ⟨er, rfl⟩ := hp
  rw [er]
  try dsimp only [List.append_nil]
  refine g_icmp_ge (tgt := 132) C dX8_total_49 (by decide) (fun c49 => ?_) (fun c49 => ?_)
  · replace h := (if_pos c49).symm.trans h
    refine g_iload C dX8_total_132 5 rfl ?_
    obtain rfl := congrArg Prod.snd (Option.some.inj h)
    exact g_iret C hr rfl hz ⟨rfl, rfl, fun _ => rfl, fun _ => rfl⟩ ⟨rfl, rfl⟩ (fun j x h => by simp at h) dX8_total_134
  · replace h := (if_neg c49).symm.trans h
    refine g_aload_n C dX8_total_52 rfl 0 rfl ?_
    refine g_get (k := 0) (i := 0) (ref := "TradeLine") (v := .ref (Ad 4 5)) C rfl (lvZ g4 rfl) rfl rfl inGX8 5 (by decide) gw_175 (fun _ h => h) rfl dX8_total_53 ?_
    refine g_iload C dX8_total_56 6 rfl ?_
    obtain ⟨v6, hv6, h⟩ := bind_of h
    refine g_cVq (n := 1) (exc := []) (exr := []) C [_] _ rfl rfl [] [] rfl rfl rfl rfl (fun _ h => absurd h (by simp)) (fun _ h => absurd h (by simp)) (fun _ h => absurd h (by simp)) (fun sz => c_Jx4a65c_get_915e3 l μ ν a Ad _ _ _ hv6 D E sz) rfl gw_543 gw_5 gw_576 gw_541 gw_542 ⟨by decide +kernel, by decide +kernel, by decide +kernel⟩ ⟨rfl, rfl⟩ ⟨Nat.le_of_ble_eq_true rfl, Nat.le_of_ble_eq_true rfl⟩ (rcvT (lvZ g5 rfl) rfl rfl rfl) (Nat.le_of_ble_eq_true rfl) dX8_total_58 ⟨by decide, by decide⟩ (fun r u hp hx => ?_)
    obtain ⟨er, rfl⟩ := hp
    rw [er]
    try dsimp only [List.append_nil]
    obtain ⟨g7, h⟩ := of_guard h
    rw [eqB_e g7]
    obtain ⟨g8, h⟩ := of_guard h
    refine z_cast (k := 23) (i := v6) C (lvZ g8 rfl) rfl rfl gw_893 dX8_total_61 ?_
    refine z_astore (lv' := [(7, .ref (Ad 23 v6)), (0, .ref (Ad 0 0)), (1, .int x1), (2, .int x2), (3, .int x3), (4, .int x4), (5, .int x5), (6, .int x6)]) C dX8_total_64 (Or.inr ⟨_, rfl⟩) (by decide) rfl ?_
    refine g_aload C dX8_total_66 0 rfl ?_
    refine g_get (k := 23) (i := v6) (ref := "TradeLine$Execution") (v := .int (μ.1 23 v6 3)) C rfl (lvZ g8 rfl) rfl rfl inGX2 3 (by decide) gw_906 (fun _ h => h) rfl dX8_total_68 ?_
    refine g_iload_n C dX8_total_71 rfl 3 rfl ?_
    refine g_icmp_ne (tgt := 126) C dX8_total_72 (by decide) (fun c72 => ?_) (fun c72 => ?_)
    · replace h := (if_neg c72).symm.trans h
      refine g_lv [1, 2, 3, 4, 5, 6, 7] rfl ?_
      exact lb_X8_total_126 C hr hz hk40 h
    · replace h := (if_pos c72).symm.trans h
      refine g_aload C dX8_total_75 0 rfl ?_
      refine g_get (k := 23) (i := v6) (ref := "TradeLine$Execution") (v := .ref (Ad 20 (μ.2 23 v6 0))) C rfl (lvZ g8 rfl) rfl rfl inGX2 0 (by decide) gw_900 (fun _ h => h) rfl dX8_total_77 ?_
      obtain ⟨g10, h⟩ := of_guard h
      refine g_get (k := 20) (i := (μ.2 23 v6 0)) (ref := "TradeLine$Order") (v := .int (μ.1 20 (μ.2 23 v6 0) 1)) C rfl (lvZ g10 rfl) rfl rfl inGX4 1 (by decide) gw_1112 (fun _ h => h) rfl dX8_total_80 ?_
      refine g_iload_n C dX8_total_83 rfl 4 rfl ?_
      refine g_icmp_ne (tgt := 126) C dX8_total_84 (by decide) (fun c84 => ?_) (fun c84 => ?_)
      · replace h := (if_neg c84).symm.trans h
        refine g_lv [1, 2, 3, 4, 5, 6, 7] rfl ?_
        exact lb_X8_total_126 C hr hz hk40 h
      · replace h := (if_pos c84).symm.trans h
        refine g_aload C dX8_total_87 0 rfl ?_
        refine g_iload_n C dX8_total_89 rfl 2 rfl ?_
        obtain ⟨v11, hv11, h⟩ := bind_of h
        refine g_cVi (n := 1) (exc := []) (exr := []) C [_] _ rfl rfl [] [] rfl rfl rfl rfl (fun _ h => absurd h (by simp)) (fun _ h => absurd h (by simp)) (fun _ h => absurd h (by simp)) (fun sz => c_X2_countsFor l μ ν a Ad w v6 x1 _ hv11 D E sz) rfl gw_1361 gw_29 gw_1358 gw_1359 gw_1360 ⟨by decide +kernel, by decide +kernel, by decide +kernel⟩ ⟨rfl, rfl⟩ ⟨Nat.le_of_ble_eq_true rfl, Nat.le_of_ble_eq_true rfl⟩ (rcvT (lvZ g8 rfl) rfl rfl rfl) (Nat.le_of_ble_eq_true rfl) dX8_total_90 ⟨by decide, by decide⟩ (fun r u hp hx => ?_)
        obtain ⟨er, rfl⟩ := hp
        rw [er]
        try dsimp only [List.append_nil]
        refine g_if_eq (tgt := 126) C dX8_total_93 (by decide) (fun c93 => ?_) (fun c93 => ?_)
        · replace h := (if_pos c93).symm.trans h
          refine g_lv [1, 2, 3, 4, 5, 6, 7] rfl ?_
          exact lb_X8_total_126 C hr hz hk40 h
        · replace h := (if_neg c93).symm.trans h
          refine g_iload C dX8_total_96 6 rfl ?_
          refine g_iload C dX8_total_98 5 rfl ?_
          refine g_if_ne (tgt := 111) C dX8_total_100 (by decide) (fun c100 => ?_) (fun c100 => ?_)
          · replace h := (if_neg c100).symm.trans h
            refine g_aload C dX8_total_111 0 rfl ?_
            refine g_get (k := 23) (i := v6) (ref := "TradeLine$Execution") (v := .int (μ.1 23 v6 2)) C rfl (lvZ g8 rfl) rfl rfl inGX2 2 (by decide) gw_904 (fun _ h => h) rfl dX8_total_113 ?_
            refine g_aload C dX8_total_116 0 rfl ?_
            refine g_iload_n C dX8_total_118 rfl 2 rfl ?_
            obtain ⟨v12, hv12, h⟩ := bind_of h
            refine g_cVi (n := 1) (exc := []) (exr := []) C [_] _ rfl rfl [] [] rfl rfl rfl rfl (fun _ h => absurd h (by simp)) (fun _ h => absurd h (by simp)) (fun _ h => absurd h (by simp)) (fun sz => c_X2_priceFor l μ ν a Ad w v6 x1 _ hv12 D E sz) rfl gw_1387 gw_29 gw_1384 gw_1385 gw_1386 ⟨by decide +kernel, by decide +kernel, by decide +kernel⟩ ⟨rfl, rfl⟩ ⟨Nat.le_of_ble_eq_true rfl, Nat.le_of_ble_eq_true rfl⟩ (rcvT (lvZ g8 rfl) rfl rfl rfl) (Nat.le_of_ble_eq_true rfl) dX8_total_119 ⟨by decide, by decide⟩ (fun r u hp hx => ?_)
            obtain ⟨er, rfl⟩ := hp
            rw [er]
            try dsimp only [List.append_nil]
            refine g_imul C dX8_total_122 ?_
            refine g_lv [1, 2, 3, 4, 5, 7] rfl ?_
            exact lb_X8_total_123 C hr hz hk40 h
          · replace h := (if_pos c100).symm.trans h
            refine g_aload C dX8_total_103 0 rfl ?_
            refine g_get (k := 23) (i := v6) (ref := "TradeLine$Execution") (v := .int (μ.1 23 v6 2)) C rfl (lvZ g8 rfl) rfl rfl inGX2 2 (by decide) gw_904 (fun _ h => h) rfl dX8_total_105 ?_
            refine g_goto (tgt := 123) C dX8_total_108 (by decide) ?_
            refine g_lv [1, 2, 3, 4, 5, 7] rfl ?_
            exact lb_X8_total_123 C hr hz hk40 h
noncomputable def l_X8_total_40  (w : Nat) (μ : MP) (ν : NC) : Nat → Int32 → Int32 → Int32 → Int32 → Int32 → Int32 → Option (Nat × (Int32))
  | 0 => fun _ _ _ _ _ _ => none
  | n + 1 => fun x1 x2 x3 x4 x5 x6 => b_X8_total_40  (l_X8_total_40  w μ ν n) w μ ν x1 x2 x3 x4 x5 x6
theorem ll_X8_total_40 {p : Program} {l : Launch} {e : Env} {s : State} {m : MethodId} {args : Array Value} {below : List Frame} {meth : Method} {c : Code} {D : va_G} {E : Nat → ClassId} {sz : Nat} {μ : MP} {ν : NC} {a : AS} {Ad : Nat → Nat → Nat} {w : Nat} {r0 : Int32} (C : cx p s m args meth c D E (Aof (zS μ ν a Ad) [] s.heap.size) cX8_total 8 "TradeLine") (hr : meth.sig.returnType = (some .int)) (hz : s.heap.size = sz)   : ∀ (n : Nat) (x1 : Int32) (x2 : Int32) (x3 : Int32) (x4 : Int32) (x5 : Int32) (x6 : Int32), l_X8_total_40  w μ ν n x1 x2 x3 x4 x5 x6 = some (0, r0) → G p l e ({ frames := 3, cells := 0, slots := 0, locals := 81 } : Room) s m args below meth c D E (Aof (zS μ ν a Ad) [] s.heap.size) 8 (MQ below (cQ D E sz (zS μ ν a Ad) [] (pI (fun r u => r = r0 ∧ u = (zS μ ν a Ad, [])))) args s 0 0 (Aof (zS μ ν a Ad) [] s.heap.size)) (zS μ ν a Ad) [] 0 0 40 [(0, .ref (Ad 0 0)), (1, .int x1), (2, .int x2), (3, .int x3), (4, .int x4), (5, .int x5), (6, .int x6)] [] := by
  intro n
  induction n with
  | zero => exact fun x1 x2 x3 x4 x5 x6 h => absurd (show (none : Option (Nat × (Int32))) = some (0, r0) from h) (by simp)
  | succ n ih => exact fun x1 x2 x3 x4 x5 x6 h => lb_X8_total_40 (w := w) C hr hz  ih h
noncomputable def f_X8_total  (w : Nat) (μ : MP) (ν : NC) (x1 : Int32) (x2 : Int32) (x3 : Int32) (x4 : Int32) : Option (Nat × (Int32)) := (f_X8_requireSide w μ ν x1).bind (fun v1 => bif eqB v1.1 0 then (if x2 < (0 : Int32) then (b_X8_total_16  w μ ν ) else (bif ltB 0 (ν.2 0) then (if x2 ≤ (μ.1 0 0 10) then ((f_X8_requireRange w μ ν x4 (0 : Int32) (1 : Int32)).bind (fun v3 => bif eqB v3.1 0 then l_X8_total_40  w μ ν w x1 x2 x3 x4 (0 : Int32) (0 : Int32) else some (v3.1, (0 : Int32)))) else (b_X8_total_16  w μ ν )) else none)) else some (v1.1, (0 : Int32)))
set_option maxHeartbeats 4000000 in
set_option maxRecDepth 100000 in
theorem lb_X8_total_0 {p : Program} {l : Launch} {e : Env} {s : State} {m : MethodId} {args : Array Value} {below : List Frame} {meth : Method} {c : Code} {D : va_G} {E : Nat → ClassId} {sz : Nat} {μ : MP} {ν : NC} {a : AS} {Ad : Nat → Nat → Nat} {w : Nat} {r0 : Int32} (C : cx p s m args meth c D E (Aof (zS μ ν a Ad) [] s.heap.size) cX8_total 8 "TradeLine") (hr : meth.sig.returnType = (some .int)) (hz : s.heap.size = sz) {x1 : Int32} {x2 : Int32} {x3 : Int32} {x4 : Int32}   (h : f_X8_total  w μ ν x1 x2 x3 x4 = some (0, r0)) : G p l e ({ frames := 3, cells := 0, slots := 0, locals := 81 } : Room) s m args below meth c D E (Aof (zS μ ν a Ad) [] s.heap.size) 8 (MQ below (cQ D E sz (zS μ ν a Ad) [] (pI (fun r u => r = r0 ∧ u = (zS μ ν a Ad, [])))) args s 0 0 (Aof (zS μ ν a Ad) [] s.heap.size)) (zS μ ν a Ad) [] 0 0 0 [(0, .ref (Ad 0 0)), (1, .int x1), (2, .int x2), (3, .int x3), (4, .int x4)] [] := by
  unfold f_X8_total at h
  refine g_iload_n C dX8_total_0 rfl 1 rfl ?_
  obtain ⟨v1, hv1, h⟩ := bind_of h
  obtain ⟨nv1, h⟩ := of_thr h
  refine g_cSv (n := 1) (exc := []) (exr := []) C [_] _ rfl rfl [] [] rfl rfl rfl rfl (fun _ h => absurd h (by simp)) (fun _ h => absurd h (by simp)) (fun _ h => absurd h (by simp)) (fun sz => c_X8_requireSide l μ ν a Ad w x1 _ (thr0 hv1 nv1) D E sz) rfl gw_481 gw_1 gw_479 gw_480 ⟨by decide +kernel, by decide +kernel, by decide +kernel⟩ ⟨rfl, rfl⟩ ⟨Nat.le_of_ble_eq_true rfl, Nat.le_of_ble_eq_true rfl⟩ (Nat.le_of_ble_eq_true rfl) dX8_total_1 ⟨by decide, by decide⟩ (fun u hp hx => ?_)
  obtain rfl := hp
  try dsimp only [List.append_nil]
  refine g_iload_n C dX8_total_4 rfl 2 rfl ?_
  refine g_if_lt (tgt := 16) C dX8_total_5 (by decide) (fun c5 => ?_) (fun c5 => ?_)
  · replace h := (if_pos c5).symm.trans h
    refine g_lv [0] rfl ?_
    exact lb_X8_total_16 C hr hz  h
  · replace h := (if_neg c5).symm.trans h
    refine g_iload_n C dX8_total_8 rfl 2 rfl ?_
    refine g_aload_n C dX8_total_9 rfl 0 rfl ?_
    obtain ⟨g2, h⟩ := of_guard h
    refine g_get (k := 0) (i := 0) (ref := "TradeLine") (v := .int (μ.1 0 0 10)) C rfl (lvZ g2 rfl) rfl rfl inGX8 10 (by decide) gw_180 (fun _ h => h) rfl dX8_total_10 ?_
    refine g_icmp_le (tgt := 27) C dX8_total_13 (by decide) (fun c13 => ?_) (fun c13 => ?_)
    · replace h := (if_pos c13).symm.trans h
      refine g_iload C dX8_total_27 4 rfl ?_
      refine g_iconst (v := (0 : Int32)) C dX8_total_29 (by decide) ?_
      refine g_iconst (v := (1 : Int32)) C dX8_total_30 (by decide) ?_
      obtain ⟨v3, hv3, h⟩ := bind_of h
      obtain ⟨nv3, h⟩ := of_thr h
      refine g_cSv (n := 3) (exc := []) (exr := []) C [_, _, _] _ rfl rfl [] [] rfl rfl rfl rfl (fun _ h => absurd h (by simp)) (fun _ h => absurd h (by simp)) (fun _ h => absurd h (by simp)) (fun sz => c_X8_requireRange l μ ν a Ad w x4 (0 : Int32) (1 : Int32) _ (thr0 hv3 nv3) D E sz) rfl gw_1075 gw_1 gw_1073 gw_1074 ⟨by decide +kernel, by decide +kernel, by decide +kernel⟩ ⟨rfl, rfl⟩ ⟨Nat.le_of_ble_eq_true rfl, Nat.le_of_ble_eq_true rfl⟩ (Nat.le_of_ble_eq_true rfl) dX8_total_31 ⟨by decide, by decide⟩ (fun u hp hx => ?_)
      obtain rfl := hp
      try dsimp only [List.append_nil]
      refine g_iconst (v := (0 : Int32)) C dX8_total_34 (by decide) ?_
      refine g_istore (lv' := [(5, .int (0 : Int32)), (0, .ref (Ad 0 0)), (1, .int x1), (2, .int x2), (3, .int x3), (4, .int x4)]) C dX8_total_35 (by decide) rfl ?_
      refine g_iconst (v := (0 : Int32)) C dX8_total_37 (by decide) ?_
      refine g_istore (lv' := [(6, .int (0 : Int32)), (5, .int (0 : Int32)), (0, .ref (Ad 0 0)), (1, .int x1), (2, .int x2), (3, .int x3), (4, .int x4)]) C dX8_total_38 (by decide) rfl ?_
      refine g_lv [2, 3, 4, 5, 6, 1, 0] rfl ?_
      exact ll_X8_total_40 C hr hz  w _ _ _ _ _ _ h
    · replace h := (if_neg c13).symm.trans h
      refine g_lv [0] rfl ?_
      exact lb_X8_total_16 C hr hz  h
theorem c_X8_total (l : Launch) (μ : MP) (ν : NC) (a : AS) (Ad : Nat → Nat → Nat) (w : Nat) (x1 : Int32) (x2 : Int32) (x3 : Int32) (x4 : Int32) (r0 : Int32) (h : f_X8_total w μ ν x1 x2 x3 x4 = some (0, r0)) : ∀ D E sz, Met l yX8_total gwX8_total ({ frames := 3, cells := 0, slots := 0, locals := 81 } : Room) (cP D E sz (zS μ ν a Ad) [] [.ref (Ad 0 0), .int x1, .int x2, .int x3, .int x4]) (cQ D E sz (zS μ ν a Ad) [] (pI (fun r u => r = r0 ∧ u = (zS μ ν a Ad, [])))) (0) (0) (Aof (zS μ ν a Ad) [] sz) := by
  intro D E sz
  refine g_of (cc := cX8_total) (maxL := 8) (ret := (some .int)) (own := "TradeLine") (by decide) rfl rfl (Nat.le_of_ble_eq_true rfl) ?_
  intro p e s m args below meth c C hr hin hz ha hwr
  refine g_lv (lv' := [(0, .ref (Ad 0 0)), (1, .int x1), (2, .int x2), (3, .int x3), (4, .int x4)]) [0, 1, 2, 3, 4] rfl ?_
  exact lb_X8_total_0 C hr hz h
set_option maxHeartbeats 4000000 in
set_option maxRecDepth 100000 in
theorem lx_X8_total_16 {p : Program} {l : Launch} {e : Env} {s : State} {m : MethodId} {args : Array Value} {below : List Frame} {meth : Method} {c : Code} {D : va_G} {E : Nat → ClassId} {sz : Nat} {μ : MP} {ν : NC} {a : AS} {Ad : Nat → Nat → Nat} {w nx : Nat} {B : Nat × (Nat → Nat)} {r0 : Int32} (C : cx p s m args meth c D E (Aof (zS μ ν a Ad) [] s.heap.size) cX8_total 8 "TradeLine") (hEv : eV (Ad 30 0) (Ad 31 0) B (Aof (zS μ ν a Ad) [] s.heap.size) s s.heap) (hl : l.stackTraces = false) (hT : ∀ x ∈ c.exceptionTable.toList, False) (hz : s.heap.size = sz)   (h : b_X8_total_16  w μ ν  = some (nx + 1, r0)) : G p l e ({ frames := 7, cells := 1, slots := 6, locals := 122 } : Room) s m args below meth c D E (Aof (zS μ ν a Ad) [] s.heap.size) 8 (vx_MQ below (fun _ _ _ _ => False) (cX D E sz (zS μ ν a Ad) (nx + 1)) args s 1 6 (Aof (zS μ ν a Ad) [] s.heap.size)) (zS μ ν a Ad) [] 0 0 16 [(0, .ref (Ad 0 0))] [] := by
  unfold b_X8_total_16 at h
  obtain rfl : nx = 0 := by have := congrArg Prod.fst (Option.some.inj h); simp at this; omega
  exact g_thW (n := 1) (ic := 134) (text := "no such day") C hEv hl hT hz (by decide) gw_482 gw_12 (by decide +kernel) exA_1 (by decide) exG_1 dX8_total_16 dX8_total_19 dX8_total_20 dX8_total_23 dX8_total_26 (by decide) (Nat.le_of_ble_eq_true rfl) (by decide) (by decide)
set_option maxHeartbeats 4000000 in
set_option maxRecDepth 100000 in
theorem lx_X8_total_126 {p : Program} {l : Launch} {e : Env} {s : State} {m : MethodId} {args : Array Value} {below : List Frame} {meth : Method} {c : Code} {D : va_G} {E : Nat → ClassId} {sz : Nat} {μ : MP} {ν : NC} {a : AS} {Ad : Nat → Nat → Nat} {w nx : Nat} {B : Nat × (Nat → Nat)} {r0 : Int32} (C : cx p s m args meth c D E (Aof (zS μ ν a Ad) [] s.heap.size) cX8_total 8 "TradeLine") (hEv : eV (Ad 30 0) (Ad 31 0) B (Aof (zS μ ν a Ad) [] s.heap.size) s s.heap) (hl : l.stackTraces = false) (hT : ∀ x ∈ c.exceptionTable.toList, False) (hz : s.heap.size = sz) {x1 : Int32} {x2 : Int32} {x3 : Int32} {x4 : Int32} {x5 : Int32} {x6 : Int32} {k40 : Int32 → Int32 → Int32 → Int32 → Int32 → Int32 → Option (Nat × (Int32))} (hk40 : ∀ (z1 : Int32) (z2 : Int32) (z3 : Int32) (z4 : Int32) (z5 : Int32) (z6 : Int32), k40 z1 z2 z3 z4 z5 z6 = some (nx + 1, r0) → G p l e ({ frames := 7, cells := 1, slots := 6, locals := 122 } : Room) s m args below meth c D E (Aof (zS μ ν a Ad) [] s.heap.size) 8 (vx_MQ below (fun _ _ _ _ => False) (cX D E sz (zS μ ν a Ad) (nx + 1)) args s 1 6 (Aof (zS μ ν a Ad) [] s.heap.size)) (zS μ ν a Ad) [] 0 0 40 [(0, .ref (Ad 0 0)), (1, .int z1), (2, .int z2), (3, .int z3), (4, .int z4), (5, .int z5), (6, .int z6)] []) (h : b_X8_total_126 k40 w μ ν x1 x2 x3 x4 x5 x6 = some (nx + 1, r0)) : G p l e ({ frames := 7, cells := 1, slots := 6, locals := 122 } : Room) s m args below meth c D E (Aof (zS μ ν a Ad) [] s.heap.size) 8 (vx_MQ below (fun _ _ _ _ => False) (cX D E sz (zS μ ν a Ad) (nx + 1)) args s 1 6 (Aof (zS μ ν a Ad) [] s.heap.size)) (zS μ ν a Ad) [] 0 0 126 [(0, .ref (Ad 0 0)), (1, .int x1), (2, .int x2), (3, .int x3), (4, .int x4), (5, .int x5), (6, .int x6)] [] := by
  unfold b_X8_total_126 at h
  obtain ⟨t9, et9⟩ : ∃ y : Int32, x6 + (1 : Int32) = y := ⟨_, rfl⟩
  replace h := yl_of h et9
  refine g_iinc (v := t9) (lv' := [(6, .int t9), (0, .ref (Ad 0 0)), (1, .int x1), (2, .int x2), (3, .int x3), (4, .int x4), (5, .int x5)]) C dX8_total_126 6 rfl (by rw [← et9]; rfl) (by decide) rfl ?_
  refine g_goto (tgt := 40) C dX8_total_129 (by decide) ?_
  refine g_lv [1, 2, 3, 4, 5, 6, 0] rfl ?_
  exact hk40 _ _ _ _ _ _ h
set_option maxHeartbeats 4000000 in
set_option maxRecDepth 100000 in
theorem lx_X8_total_123 {p : Program} {l : Launch} {e : Env} {s : State} {m : MethodId} {args : Array Value} {below : List Frame} {meth : Method} {c : Code} {D : va_G} {E : Nat → ClassId} {sz : Nat} {μ : MP} {ν : NC} {a : AS} {Ad : Nat → Nat → Nat} {w nx : Nat} {B : Nat × (Nat → Nat)} {r0 : Int32} (C : cx p s m args meth c D E (Aof (zS μ ν a Ad) [] s.heap.size) cX8_total 8 "TradeLine") (hEv : eV (Ad 30 0) (Ad 31 0) B (Aof (zS μ ν a Ad) [] s.heap.size) s s.heap) (hl : l.stackTraces = false) (hT : ∀ x ∈ c.exceptionTable.toList, False) (hz : s.heap.size = sz) {x1 : Int32} {x2 : Int32} {x3 : Int32} {x4 : Int32} {x6 : Int32} {s0 : Int32} {s1 : Int32} {k40 : Int32 → Int32 → Int32 → Int32 → Int32 → Int32 → Option (Nat × (Int32))} (hk40 : ∀ (z1 : Int32) (z2 : Int32) (z3 : Int32) (z4 : Int32) (z5 : Int32) (z6 : Int32), k40 z1 z2 z3 z4 z5 z6 = some (nx + 1, r0) → G p l e ({ frames := 7, cells := 1, slots := 6, locals := 122 } : Room) s m args below meth c D E (Aof (zS μ ν a Ad) [] s.heap.size) 8 (vx_MQ below (fun _ _ _ _ => False) (cX D E sz (zS μ ν a Ad) (nx + 1)) args s 1 6 (Aof (zS μ ν a Ad) [] s.heap.size)) (zS μ ν a Ad) [] 0 0 40 [(0, .ref (Ad 0 0)), (1, .int z1), (2, .int z2), (3, .int z3), (4, .int z4), (5, .int z5), (6, .int z6)] []) (h : b_X8_total_123 k40 w μ ν x1 x2 x3 x4 x6 s0 s1 = some (nx + 1, r0)) : G p l e ({ frames := 7, cells := 1, slots := 6, locals := 122 } : Room) s m args below meth c D E (Aof (zS μ ν a Ad) [] s.heap.size) 8 (vx_MQ below (fun _ _ _ _ => False) (cX D E sz (zS μ ν a Ad) (nx + 1)) args s 1 6 (Aof (zS μ ν a Ad) [] s.heap.size)) (zS μ ν a Ad) [] 0 0 123 [(0, .ref (Ad 0 0)), (1, .int x1), (2, .int x2), (3, .int x3), (4, .int x4), (6, .int x6)] [.int s0, .int s1] := by
  unfold b_X8_total_123 at h
  refine g_iadd C dX8_total_123 ?_
  refine q_topi (fun t13 et13 => ?_)
  replace h := yl_of h et13
  refine g_istore (lv' := [(5, .int t13), (0, .ref (Ad 0 0)), (1, .int x1), (2, .int x2), (3, .int x3), (4, .int x4), (6, .int x6)]) C dX8_total_124 (by decide) rfl ?_
  refine g_lv [1, 2, 3, 4, 5, 0, 6] rfl ?_
  exact lx_X8_total_126 C hEv hl hT hz hk40 h
set_option maxHeartbeats 4000000 in
set_option maxRecDepth 100000 in
theorem lx_X8_total_40 {p : Program} {l : Launch} {e : Env} {s : State} {m : MethodId} {args : Array Value} {below : List Frame} {meth : Method} {c : Code} {D : va_G} {E : Nat → ClassId} {sz : Nat} {μ : MP} {ν : NC} {a : AS} {Ad : Nat → Nat → Nat} {w nx : Nat} {B : Nat × (Nat → Nat)} {r0 : Int32} (C : cx p s m args meth c D E (Aof (zS μ ν a Ad) [] s.heap.size) cX8_total 8 "TradeLine") (hEv : eV (Ad 30 0) (Ad 31 0) B (Aof (zS μ ν a Ad) [] s.heap.size) s s.heap) (hl : l.stackTraces = false) (hT : ∀ x ∈ c.exceptionTable.toList, False) (hz : s.heap.size = sz) {x1 : Int32} {x2 : Int32} {x3 : Int32} {x4 : Int32} {x5 : Int32} {x6 : Int32} {k40 : Int32 → Int32 → Int32 → Int32 → Int32 → Int32 → Option (Nat × (Int32))} (hk40 : ∀ (z1 : Int32) (z2 : Int32) (z3 : Int32) (z4 : Int32) (z5 : Int32) (z6 : Int32), k40 z1 z2 z3 z4 z5 z6 = some (nx + 1, r0) → G p l e ({ frames := 7, cells := 1, slots := 6, locals := 122 } : Room) s m args below meth c D E (Aof (zS μ ν a Ad) [] s.heap.size) 8 (vx_MQ below (fun _ _ _ _ => False) (cX D E sz (zS μ ν a Ad) (nx + 1)) args s 1 6 (Aof (zS μ ν a Ad) [] s.heap.size)) (zS μ ν a Ad) [] 0 0 40 [(0, .ref (Ad 0 0)), (1, .int z1), (2, .int z2), (3, .int z3), (4, .int z4), (5, .int z5), (6, .int z6)] []) (h : b_X8_total_40 k40 w μ ν x1 x2 x3 x4 x5 x6 = some (nx + 1, r0)) : G p l e ({ frames := 7, cells := 1, slots := 6, locals := 122 } : Room) s m args below meth c D E (Aof (zS μ ν a Ad) [] s.heap.size) 8 (vx_MQ below (fun _ _ _ _ => False) (cX D E sz (zS μ ν a Ad) (nx + 1)) args s 1 6 (Aof (zS μ ν a Ad) [] s.heap.size)) (zS μ ν a Ad) [] 0 0 40 [(0, .ref (Ad 0 0)), (1, .int x1), (2, .int x2), (3, .int x3), (4, .int x4), (5, .int x5), (6, .int x6)] [] := by
  unfold b_X8_total_40 at h
  refine g_iload C dX8_total_40 6 rfl ?_
  refine g_aload_n C dX8_total_42 rfl 0 rfl ?_
  obtain ⟨g4, h⟩ := of_guard h
  refine g_get (k := 0) (i := 0) (ref := "TradeLine") (v := .ref (Ad 4 5)) C rfl (lvZ g4 rfl) rfl rfl inGX8 5 (by decide) gw_175 (fun _ h => h) rfl dX8_total_43 ?_
  obtain ⟨g5, h⟩ := of_guard h
  refine g_cVi (n := 0) (exc := []) (exr := []) C [] _ rfl rfl [] [] rfl rfl rfl rfl (fun _ h => absurd h (by simp)) (fun _ h => absurd h (by simp)) (fun _ h => absurd h (by simp)) (fun sz => c_Jx4a65c_size_8abf5 l μ ν a Ad _ g5 D E sz) rfl gw_308 gw_5 gw_305 gw_306 gw_307 ⟨by decide +kernel, by decide +kernel, by decide +kernel⟩ ⟨rfl, rfl⟩ ⟨Nat.le_of_ble_eq_true rfl, Nat.le_of_ble_eq_true rfl⟩ (rcvT (lvZ g5 rfl) rfl rfl rfl) (Nat.le_of_ble_eq_true rfl) dX8_total_46 ⟨by decide, by decide⟩ (fun r u hp hx => ?_)
  obtain ⟨er, rfl⟩ := hp
  rw [er]
  try dsimp only [List.append_nil]
  refine g_icmp_ge (tgt := 132) C dX8_total_49 (by decide) (fun c49 => ?_) (fun c49 => ?_)
  · replace h := (if_pos c49).symm.trans h
    refine g_iload C dX8_total_132 5 rfl ?_
    exact absurd (congrArg Prod.fst (Option.some.inj h)) (by simp)
  · replace h := (if_neg c49).symm.trans h
    refine g_aload_n C dX8_total_52 rfl 0 rfl ?_
    refine g_get (k := 0) (i := 0) (ref := "TradeLine") (v := .ref (Ad 4 5)) C rfl (lvZ g4 rfl) rfl rfl inGX8 5 (by decide) gw_175 (fun _ h => h) rfl dX8_total_53 ?_
    refine g_iload C dX8_total_56 6 rfl ?_
    obtain ⟨v6, hv6, h⟩ := bind_of h
    refine g_cVq (n := 1) (exc := []) (exr := []) C [_] _ rfl rfl [] [] rfl rfl rfl rfl (fun _ h => absurd h (by simp)) (fun _ h => absurd h (by simp)) (fun _ h => absurd h (by simp)) (fun sz => c_Jx4a65c_get_915e3 l μ ν a Ad _ _ _ hv6 D E sz) rfl gw_543 gw_5 gw_576 gw_541 gw_542 ⟨by decide +kernel, by decide +kernel, by decide +kernel⟩ ⟨rfl, rfl⟩ ⟨Nat.le_of_ble_eq_true rfl, Nat.le_of_ble_eq_true rfl⟩ (rcvT (lvZ g5 rfl) rfl rfl rfl) (Nat.le_of_ble_eq_true rfl) dX8_total_58 ⟨by decide, by decide⟩ (fun r u hp hx => ?_)
    obtain ⟨er, rfl⟩ := hp
    rw [er]
    try dsimp only [List.append_nil]
    obtain ⟨g7, h⟩ := of_guard h
    rw [eqB_e g7]
    obtain ⟨g8, h⟩ := of_guard h
    refine z_cast (k := 23) (i := v6) C (lvZ g8 rfl) rfl rfl gw_893 dX8_total_61 ?_
    refine z_astore (lv' := [(7, .ref (Ad 23 v6)), (0, .ref (Ad 0 0)), (1, .int x1), (2, .int x2), (3, .int x3), (4, .int x4), (5, .int x5), (6, .int x6)]) C dX8_total_64 (Or.inr ⟨_, rfl⟩) (by decide) rfl ?_
    refine g_aload C dX8_total_66 0 rfl ?_
    refine g_get (k := 23) (i := v6) (ref := "TradeLine$Execution") (v := .int (μ.1 23 v6 3)) C rfl (lvZ g8 rfl) rfl rfl inGX2 3 (by decide) gw_906 (fun _ h => h) rfl dX8_total_68 ?_
    refine g_iload_n C dX8_total_71 rfl 3 rfl ?_
    refine g_icmp_ne (tgt := 126) C dX8_total_72 (by decide) (fun c72 => ?_) (fun c72 => ?_)
    · replace h := (if_neg c72).symm.trans h
      refine g_lv [1, 2, 3, 4, 5, 6, 7] rfl ?_
      exact lx_X8_total_126 C hEv hl hT hz hk40 h
    · replace h := (if_pos c72).symm.trans h
      refine g_aload C dX8_total_75 0 rfl ?_
      refine g_get (k := 23) (i := v6) (ref := "TradeLine$Execution") (v := .ref (Ad 20 (μ.2 23 v6 0))) C rfl (lvZ g8 rfl) rfl rfl inGX2 0 (by decide) gw_900 (fun _ h => h) rfl dX8_total_77 ?_
      obtain ⟨g10, h⟩ := of_guard h
      refine g_get (k := 20) (i := (μ.2 23 v6 0)) (ref := "TradeLine$Order") (v := .int (μ.1 20 (μ.2 23 v6 0) 1)) C rfl (lvZ g10 rfl) rfl rfl inGX4 1 (by decide) gw_1112 (fun _ h => h) rfl dX8_total_80 ?_
      refine g_iload_n C dX8_total_83 rfl 4 rfl ?_
      refine g_icmp_ne (tgt := 126) C dX8_total_84 (by decide) (fun c84 => ?_) (fun c84 => ?_)
      · replace h := (if_neg c84).symm.trans h
        refine g_lv [1, 2, 3, 4, 5, 6, 7] rfl ?_
        exact lx_X8_total_126 C hEv hl hT hz hk40 h
      · replace h := (if_pos c84).symm.trans h
        refine g_aload C dX8_total_87 0 rfl ?_
        refine g_iload_n C dX8_total_89 rfl 2 rfl ?_
        obtain ⟨v11, hv11, h⟩ := bind_of h
        refine g_cVi (n := 1) (exc := []) (exr := []) C [_] _ rfl rfl [] [] rfl rfl rfl rfl (fun _ h => absurd h (by simp)) (fun _ h => absurd h (by simp)) (fun _ h => absurd h (by simp)) (fun sz => c_X2_countsFor l μ ν a Ad w v6 x1 _ hv11 D E sz) rfl gw_1361 gw_29 gw_1358 gw_1359 gw_1360 ⟨by decide +kernel, by decide +kernel, by decide +kernel⟩ ⟨rfl, rfl⟩ ⟨Nat.le_of_ble_eq_true rfl, Nat.le_of_ble_eq_true rfl⟩ (rcvT (lvZ g8 rfl) rfl rfl rfl) (Nat.le_of_ble_eq_true rfl) dX8_total_90 ⟨by decide, by decide⟩ (fun r u hp hx => ?_)
        obtain ⟨er, rfl⟩ := hp
        rw [er]
        try dsimp only [List.append_nil]
        refine g_if_eq (tgt := 126) C dX8_total_93 (by decide) (fun c93 => ?_) (fun c93 => ?_)
        · replace h := (if_pos c93).symm.trans h
          refine g_lv [1, 2, 3, 4, 5, 6, 7] rfl ?_
          exact lx_X8_total_126 C hEv hl hT hz hk40 h
        · replace h := (if_neg c93).symm.trans h
          refine g_iload C dX8_total_96 6 rfl ?_
          refine g_iload C dX8_total_98 5 rfl ?_
          refine g_if_ne (tgt := 111) C dX8_total_100 (by decide) (fun c100 => ?_) (fun c100 => ?_)
          · replace h := (if_neg c100).symm.trans h
            refine g_aload C dX8_total_111 0 rfl ?_
            refine g_get (k := 23) (i := v6) (ref := "TradeLine$Execution") (v := .int (μ.1 23 v6 2)) C rfl (lvZ g8 rfl) rfl rfl inGX2 2 (by decide) gw_904 (fun _ h => h) rfl dX8_total_113 ?_
            refine g_aload C dX8_total_116 0 rfl ?_
            refine g_iload_n C dX8_total_118 rfl 2 rfl ?_
            obtain ⟨v12, hv12, h⟩ := bind_of h
            refine g_cVi (n := 1) (exc := []) (exr := []) C [_] _ rfl rfl [] [] rfl rfl rfl rfl (fun _ h => absurd h (by simp)) (fun _ h => absurd h (by simp)) (fun _ h => absurd h (by simp)) (fun sz => c_X2_priceFor l μ ν a Ad w v6 x1 _ hv12 D E sz) rfl gw_1387 gw_29 gw_1384 gw_1385 gw_1386 ⟨by decide +kernel, by decide +kernel, by decide +kernel⟩ ⟨rfl, rfl⟩ ⟨Nat.le_of_ble_eq_true rfl, Nat.le_of_ble_eq_true rfl⟩ (rcvT (lvZ g8 rfl) rfl rfl rfl) (Nat.le_of_ble_eq_true rfl) dX8_total_119 ⟨by decide, by decide⟩ (fun r u hp hx => ?_)
            obtain ⟨er, rfl⟩ := hp
            rw [er]
            try dsimp only [List.append_nil]
            refine g_imul C dX8_total_122 ?_
            refine g_lv [1, 2, 3, 4, 5, 7] rfl ?_
            exact lx_X8_total_123 C hEv hl hT hz hk40 h
          · replace h := (if_pos c100).symm.trans h
            refine g_aload C dX8_total_103 0 rfl ?_
            refine g_get (k := 23) (i := v6) (ref := "TradeLine$Execution") (v := .int (μ.1 23 v6 2)) C rfl (lvZ g8 rfl) rfl rfl inGX2 2 (by decide) gw_904 (fun _ h => h) rfl dX8_total_105 ?_
            refine g_goto (tgt := 123) C dX8_total_108 (by decide) ?_
            refine g_lv [1, 2, 3, 4, 5, 7] rfl ?_
            exact lx_X8_total_123 C hEv hl hT hz hk40 h
theorem lxl_X8_total_40 {p : Program} {l : Launch} {e : Env} {s : State} {m : MethodId} {args : Array Value} {below : List Frame} {meth : Method} {c : Code} {D : va_G} {E : Nat → ClassId} {sz : Nat} {μ : MP} {ν : NC} {a : AS} {Ad : Nat → Nat → Nat} {w nx : Nat} {B : Nat × (Nat → Nat)} {r0 : Int32} (C : cx p s m args meth c D E (Aof (zS μ ν a Ad) [] s.heap.size) cX8_total 8 "TradeLine") (hEv : eV (Ad 30 0) (Ad 31 0) B (Aof (zS μ ν a Ad) [] s.heap.size) s s.heap) (hl : l.stackTraces = false) (hT : ∀ x ∈ c.exceptionTable.toList, False) (hz : s.heap.size = sz)   : ∀ (n : Nat) (x1 : Int32) (x2 : Int32) (x3 : Int32) (x4 : Int32) (x5 : Int32) (x6 : Int32), l_X8_total_40  w μ ν n x1 x2 x3 x4 x5 x6 = some (nx + 1, r0) → G p l e ({ frames := 7, cells := 1, slots := 6, locals := 122 } : Room) s m args below meth c D E (Aof (zS μ ν a Ad) [] s.heap.size) 8 (vx_MQ below (fun _ _ _ _ => False) (cX D E sz (zS μ ν a Ad) (nx + 1)) args s 1 6 (Aof (zS μ ν a Ad) [] s.heap.size)) (zS μ ν a Ad) [] 0 0 40 [(0, .ref (Ad 0 0)), (1, .int x1), (2, .int x2), (3, .int x3), (4, .int x4), (5, .int x5), (6, .int x6)] [] := by
  intro n
  induction n with
  | zero => exact fun x1 x2 x3 x4 x5 x6 h => absurd (show (none : Option (Nat × (Int32))) = some (nx + 1, r0) from h) (by simp)
  | succ n ih => exact fun x1 x2 x3 x4 x5 x6 h => lx_X8_total_40 (w := w) C hEv hl hT hz  ih h
set_option maxHeartbeats 4000000 in
set_option maxRecDepth 100000 in
theorem lx_X8_total_0 {p : Program} {l : Launch} {e : Env} {s : State} {m : MethodId} {args : Array Value} {below : List Frame} {meth : Method} {c : Code} {D : va_G} {E : Nat → ClassId} {sz : Nat} {μ : MP} {ν : NC} {a : AS} {Ad : Nat → Nat → Nat} {w nx : Nat} {B : Nat × (Nat → Nat)} {r0 : Int32} (C : cx p s m args meth c D E (Aof (zS μ ν a Ad) [] s.heap.size) cX8_total 8 "TradeLine") (hEv : eV (Ad 30 0) (Ad 31 0) B (Aof (zS μ ν a Ad) [] s.heap.size) s s.heap) (hl : l.stackTraces = false) (hT : ∀ x ∈ c.exceptionTable.toList, False) (hz : s.heap.size = sz) {x1 : Int32} {x2 : Int32} {x3 : Int32} {x4 : Int32}   (h : f_X8_total  w μ ν x1 x2 x3 x4 = some (nx + 1, r0)) : G p l e ({ frames := 7, cells := 1, slots := 6, locals := 122 } : Room) s m args below meth c D E (Aof (zS μ ν a Ad) [] s.heap.size) 8 (vx_MQ below (fun _ _ _ _ => False) (cX D E sz (zS μ ν a Ad) (nx + 1)) args s 1 6 (Aof (zS μ ν a Ad) [] s.heap.size)) (zS μ ν a Ad) [] 0 0 0 [(0, .ref (Ad 0 0)), (1, .int x1), (2, .int x2), (3, .int x3), (4, .int x4)] [] := by
  unfold f_X8_total at h
  refine g_iload_n C dX8_total_0 rfl 1 rfl ?_
  obtain ⟨v1, hv1, h⟩ := bind_of h
  rcases of_thx h with ⟨nv1, h⟩ | nv1
  · refine g_cSv (n := 1) (exc := []) (exr := []) C [_] _ rfl rfl [] [] rfl rfl rfl rfl (fun _ h => absurd h (by simp)) (fun _ h => absurd h (by simp)) (fun _ h => absurd h (by simp)) (fun sz => c_X8_requireSide l μ ν a Ad w x1 _ (thr0 hv1 nv1) D E sz) rfl gw_481 gw_1 gw_479 gw_480 ⟨by decide +kernel, by decide +kernel, by decide +kernel⟩ ⟨rfl, rfl⟩ ⟨Nat.le_of_ble_eq_true rfl, Nat.le_of_ble_eq_true rfl⟩ (Nat.le_of_ble_eq_true rfl) dX8_total_1 ⟨by decide, by decide⟩ (fun u hp hx => ?_)
    obtain rfl := hp
    try dsimp only [List.append_nil]
    refine g_iload_n C dX8_total_4 rfl 2 rfl ?_
    refine g_if_lt (tgt := 16) C dX8_total_5 (by decide) (fun c5 => ?_) (fun c5 => ?_)
    · replace h := (if_pos c5).symm.trans h
      refine g_lv [0] rfl ?_
      exact lx_X8_total_16 C hEv hl hT hz  h
    · replace h := (if_neg c5).symm.trans h
      refine g_iload_n C dX8_total_8 rfl 2 rfl ?_
      refine g_aload_n C dX8_total_9 rfl 0 rfl ?_
      obtain ⟨g2, h⟩ := of_guard h
      refine g_get (k := 0) (i := 0) (ref := "TradeLine") (v := .int (μ.1 0 0 10)) C rfl (lvZ g2 rfl) rfl rfl inGX8 10 (by decide) gw_180 (fun _ h => h) rfl dX8_total_10 ?_
      refine g_icmp_le (tgt := 27) C dX8_total_13 (by decide) (fun c13 => ?_) (fun c13 => ?_)
      · replace h := (if_pos c13).symm.trans h
        refine g_iload C dX8_total_27 4 rfl ?_
        refine g_iconst (v := (0 : Int32)) C dX8_total_29 (by decide) ?_
        refine g_iconst (v := (1 : Int32)) C dX8_total_30 (by decide) ?_
        obtain ⟨v3, hv3, h⟩ := bind_of h
        rcases of_thx h with ⟨nv3, h⟩ | nv3
        · refine g_cSv (n := 3) (exc := []) (exr := []) C [_, _, _] _ rfl rfl [] [] rfl rfl rfl rfl (fun _ h => absurd h (by simp)) (fun _ h => absurd h (by simp)) (fun _ h => absurd h (by simp)) (fun sz => c_X8_requireRange l μ ν a Ad w x4 (0 : Int32) (1 : Int32) _ (thr0 hv3 nv3) D E sz) rfl gw_1075 gw_1 gw_1073 gw_1074 ⟨by decide +kernel, by decide +kernel, by decide +kernel⟩ ⟨rfl, rfl⟩ ⟨Nat.le_of_ble_eq_true rfl, Nat.le_of_ble_eq_true rfl⟩ (Nat.le_of_ble_eq_true rfl) dX8_total_31 ⟨by decide, by decide⟩ (fun u hp hx => ?_)
          obtain rfl := hp
          try dsimp only [List.append_nil]
          refine g_iconst (v := (0 : Int32)) C dX8_total_34 (by decide) ?_
          refine g_istore (lv' := [(5, .int (0 : Int32)), (0, .ref (Ad 0 0)), (1, .int x1), (2, .int x2), (3, .int x3), (4, .int x4)]) C dX8_total_35 (by decide) rfl ?_
          refine g_iconst (v := (0 : Int32)) C dX8_total_37 (by decide) ?_
          refine g_istore (lv' := [(6, .int (0 : Int32)), (5, .int (0 : Int32)), (0, .ref (Ad 0 0)), (1, .int x1), (2, .int x2), (3, .int x3), (4, .int x4)]) C dX8_total_38 (by decide) rfl ?_
          refine g_lv [2, 3, 4, 5, 6, 1, 0] rfl ?_
          exact lxl_X8_total_40 C hEv hl hT hz  w _ _ _ _ _ _ h
        · exact g_xS (index := 3) C hEv ⟨rfl, rfl⟩ hT hz [_, _, _] _ rfl rfl (fun sz => x_X8_requireRange l hl B μ ν a Ad w x4 (0 : Int32) (1 : Int32) _ _ (thrS hv3 nv3) D E sz) rfl gw_1075 gw_1 gw_1073 gw_1074 ⟨by decide +kernel, by decide +kernel, by decide +kernel⟩ ⟨rfl, rfl⟩ ⟨Nat.le_of_ble_eq_true rfl, Nat.le_of_ble_eq_true rfl⟩ (Nat.le_of_ble_eq_true rfl) dX8_total_31 ⟨by decide, by decide⟩
      · replace h := (if_neg c13).symm.trans h
        refine g_lv [0] rfl ?_
        exact lx_X8_total_16 C hEv hl hT hz  h
  · exact g_xS (index := 1) C hEv ⟨rfl, rfl⟩ hT hz [_] _ rfl rfl (fun sz => x_X8_requireSide l hl B μ ν a Ad w x1 _ _ (thrS hv1 nv1) D E sz) rfl gw_481 gw_1 gw_479 gw_480 ⟨by decide +kernel, by decide +kernel, by decide +kernel⟩ ⟨rfl, rfl⟩ ⟨Nat.le_of_ble_eq_true rfl, Nat.le_of_ble_eq_true rfl⟩ (Nat.le_of_ble_eq_true rfl) dX8_total_1 ⟨by decide, by decide⟩
theorem x_X8_total (l : Launch) (hl : l.stackTraces = false) (B : Nat × (Nat → Nat)) (μ : MP) (ν : NC) (a : AS) (Ad : Nat → Nat → Nat) (w : Nat) (x1 : Int32) (x2 : Int32) (x3 : Int32) (x4 : Int32) (nx : Nat) (r0 : Int32) (h : f_X8_total w μ ν x1 x2 x3 x4 = some (nx + 1, r0)) : ∀ D E sz, vx_Met l yX8_total gwX8_total ({ frames := 7, cells := 1, slots := 6, locals := 122 } : Room) (cPe D E sz B (zS μ ν a Ad) [] [] [.ref (Ad 0 0), .int x1, .int x2, .int x3, .int x4]) (fun _ _ _ _ => False) (cX D E sz (zS μ ν a Ad) (nx + 1)) 1 6 (Aof (zS μ ν a Ad) [] sz) := by
  intro D E sz
  refine g_ofx (cc := cX8_total) (maxL := 8) (ret := (some .int)) (own := "TradeLine") (by decide) rfl rfl (Nat.le_of_ble_eq_true rfl) ?_
  intro p e s m args below meth c C hT hz ha hEv
  refine g_lv (lv' := [(0, .ref (Ad 0 0)), (1, .int x1), (2, .int x2), (3, .int x3), (4, .int x4)]) [0, 1, 2, 3, 4] rfl ?_
  exact lx_X8_total_0 C hEv hl hT hz h
