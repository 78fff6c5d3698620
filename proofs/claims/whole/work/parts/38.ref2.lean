noncomputable def b_X9_routes_51  (w : Nat) (a : AS) (x1 x2 : Int32) : Option (AS × Int32) := (if (a 0 35) ≤ x2 then (some (a, (0 : Int32))) else ((f_X9_reports w a (1 : Int32) x1 x2 ((a 0 35) - x2)).bind (fun v3 => some (v3.1, (0 : Int32)))))
set_option maxHeartbeats 4000000 in
set_option maxRecDepth 100000 in
theorem lb_X9_routes_51 {p : Program} {l : Launch} {e : Env} {s : State} {m : MethodId} {args : Array Value} {below : List Frame} {meth : Method} {c : Code} {D : va_G} {E : Nat → ClassId} {sz : Nat} {M : Nat → Nat → Nat → Int32} {a0 : AS} {ρ : YR} {w : Nat} {r0 : AS × Int32} (C : cx p s m args meth c D E (Aof (mx M a0, ρ) [] s.heap.size) cX9_routes 4 "TradeLineModel") (hr : meth.sig.returnType = none) (hz : s.heap.size = sz) (hρ : rsh ρ) {a : AS} {x1 x2 : Int32}   (h : b_X9_routes_51  w a x1 x2 = some r0) : G p l e ({ frames := 4, cells := 0, slots := 0, locals := 97 } : Room) s m args below meth c D E (Aof (mx M a0, ρ) [] s.heap.size) 4 (MQ below (cQ D E sz (mx M a0, ρ) [] (pV (fun u => u = ((mx M r0.1, ρ), [])))) args s 0 0 (Aof (mx M a0, ρ) [] s.heap.size)) (mx M a, ρ) [] 0 0 51 [(0, .ref (ρ.2.2.2 40 0)), (1, .int x1), (2, .int x2)] [] := by
  unfold b_X9_routes_51 at h
  refine g_aload_n C dX9_routes_51 rfl 0 rfl ?_
  refine g_get (k := 40) (i := 0) (ref := "TradeLineModel") (v := .int (a 0 35)) C rfl (lvY0 hρ) rfl rfl inGX9 35 (by decide) gw_1364 (fun _ h => h) rfl dX9_routes_52 ?_
  refine g_iload_n C dX9_routes_55 rfl 2 rfl ?_
  refine g_icmp_le (tgt := 72) C dX9_routes_56 (by decide) (fun c56 => ?_) (fun c56 => ?_)
  · replace h := (if_pos c56).symm.trans h
    obtain rfl := Option.some.inj h
    exact g_vret C hr hz ⟨rfl, rfl, fun _ => rfl, fun _ => rfl⟩ rfl (fun j x h => by simp at h) dX9_routes_72
  · replace h := (if_neg c56).symm.trans h
    refine g_aload_n C dX9_routes_59 rfl 0 rfl ?_
    refine g_iconst (v := (1 : Int32)) C dX9_routes_60 (by decide) ?_
    refine g_iload_n C dX9_routes_61 rfl 1 rfl ?_
    refine g_iload_n C dX9_routes_62 rfl 2 rfl ?_
    refine g_aload_n C dX9_routes_63 rfl 0 rfl ?_
    refine g_get (k := 40) (i := 0) (ref := "TradeLineModel") (v := .int (a 0 35)) C rfl (lvY0 hρ) rfl rfl inGX9 35 (by decide) gw_1364 (fun _ h => h) rfl dX9_routes_64 ?_
    refine g_iload_n C dX9_routes_67 rfl 2 rfl ?_
    refine g_isub C dX9_routes_68 ?_
    obtain ⟨v3, hv3, h⟩ := bind_of h
    refine g_cVv (n := 4) (exc := []) (exr := []) C [_, _, _, _] _ rfl rfl [] [] rfl rfl rfl rfl (fun _ h => absurd h (by simp)) (fun _ h => absurd h (by simp)) (fun _ h => absurd h (by simp)) (fun sz => k_X9_reports l M ρ hρ w _ _ _ _ _ _ hv3 D E sz) rfl gw_1547 gw_9 gw_1544 gw_1546 gs_55 ⟨by decide +kernel, by decide +kernel, by decide +kernel⟩ ⟨rfl, rfl⟩ ⟨Nat.le_of_ble_eq_true rfl, Nat.le_of_ble_eq_true rfl⟩ (rcvT (lvY0 hρ) rfl rfl rfl) (Nat.le_of_ble_eq_true rfl) dX9_routes_69 ⟨by decide, by decide⟩ (fun u hp hx => ?_)
    obtain rfl := hp
    try dsimp only [List.append_nil]
    obtain rfl := Option.some.inj h
    exact g_vret C hr hz ⟨rfl, rfl, fun _ => rfl, fun _ => rfl⟩ rfl (fun j x h => by simp at h) dX9_routes_72
noncomputable def b_X9_routes_11 (k11 : AS → Int32 → Int32 → Int32 → Option (AS × Int32)) (w : Nat) (a : AS) (x1 x2 x3 : Int32) : Option (AS × Int32) := (if x3 = (-1 : Int32) then (b_X9_routes_51  w a x1 x2) else ((f_X9_leftIn w a ((40 : Int32) + x1)).bind (fun v4 => (if v4 ≤ (0 : Int32) then (b_X9_routes_51  w a x1 x2) else ((if (100 : Int32) ≤ (a 0 35) then (b_X9_routes_51  w a x1 x2) else ((f_X9_trades w a x1 x3).bind (fun v5 => (f_X9_quoteFor w v5.1 x1).bind (fun v6 => k11 v5.1 x1 x2 v6)))))))))
set_option maxHeartbeats 4000000 in
set_option maxRecDepth 100000 in
theorem lb_X9_routes_11 {p : Program} {l : Launch} {e : Env} {s : State} {m : MethodId} {args : Array Value} {below : List Frame} {meth : Method} {c : Code} {D : va_G} {E : Nat → ClassId} {sz : Nat} {M : Nat → Nat → Nat → Int32} {a0 : AS} {ρ : YR} {w : Nat} {r0 : AS × Int32} (C : cx p s m args meth c D E (Aof (mx M a0, ρ) [] s.heap.size) cX9_routes 4 "TradeLineModel") (hr : meth.sig.returnType = none) (hz : s.heap.size = sz) (hρ : rsh ρ) {a : AS} {x1 x2 x3 : Int32} {k11 : AS → Int32 → Int32 → Int32 → Option (AS × Int32)} (hk11 : ∀ (a1 : AS) (z1 z2 z3 : Int32), k11 a1 z1 z2 z3 = some r0 → G p l e ({ frames := 4, cells := 0, slots := 0, locals := 97 } : Room) s m args below meth c D E (Aof (mx M a0, ρ) [] s.heap.size) 4 (MQ below (cQ D E sz (mx M a0, ρ) [] (pV (fun u => u = ((mx M r0.1, ρ), [])))) args s 0 0 (Aof (mx M a0, ρ) [] s.heap.size)) (mx M a1, ρ) [] 0 0 11 [(0, .ref (ρ.2.2.2 40 0)), (1, .int z1), (2, .int z2), (3, .int z3)] []) (h : b_X9_routes_11 k11 w a x1 x2 x3 = some r0) : G p l e ({ frames := 4, cells := 0, slots := 0, locals := 97 } : Room) s m args below meth c D E (Aof (mx M a0, ρ) [] s.heap.size) 4 (MQ below (cQ D E sz (mx M a0, ρ) [] (pV (fun u => u = ((mx M r0.1, ρ), [])))) args s 0 0 (Aof (mx M a0, ρ) [] s.heap.size)) (mx M a, ρ) [] 0 0 11 [(0, .ref (ρ.2.2.2 40 0)), (1, .int x1), (2, .int x2), (3, .int x3)] [] := by
  unfold b_X9_routes_11 at h
  refine g_iload_n C dX9_routes_11 rfl 3 rfl ?_
  refine g_iconst (v := (-1 : Int32)) C dX9_routes_12 (by decide) ?_
  refine g_icmp_eq (tgt := 51) C dX9_routes_13 (by decide) (fun c13 => ?_) (fun c13 => ?_)
  · replace h := (if_pos c13).symm.trans h
    refine g_lv [0, 1, 2] rfl ?_
    exact lb_X9_routes_51 C hr hz hρ  h
  · replace h := (if_neg c13).symm.trans h
    refine g_aload_n C dX9_routes_16 rfl 0 rfl ?_
    refine g_bipush (v := (40 : Int32)) C dX9_routes_17 (by decide) ?_
    refine g_iload_n C dX9_routes_19 rfl 1 rfl ?_
    refine g_iadd C dX9_routes_20 ?_
    obtain ⟨v4, hv4, h⟩ := bind_of h
    refine g_cVi (n := 1) (exc := []) (exr := []) C [_] _ rfl rfl [] [] rfl rfl rfl rfl (fun _ h => absurd h (by simp)) (fun _ h => absurd h (by simp)) (fun _ h => absurd h (by simp)) (fun sz => k_X9_leftIn l M ρ hρ w _ _ _ hv4 D E sz) rfl gw_1563 gw_9 gw_1560 gw_1562 gs_59 ⟨by decide +kernel, by decide +kernel, by decide +kernel⟩ ⟨rfl, rfl⟩ ⟨Nat.le_of_ble_eq_true rfl, Nat.le_of_ble_eq_true rfl⟩ (rcvT (lvY0 hρ) rfl rfl rfl) (Nat.le_of_ble_eq_true rfl) dX9_routes_21 ⟨by decide, by decide⟩ (fun r u hp hx => ?_)
    obtain ⟨er, rfl⟩ := hp
    rw [er]
    try dsimp only [List.append_nil]
    refine g_if_le (tgt := 51) C dX9_routes_24 (by decide) (fun c24 => ?_) (fun c24 => ?_)
    · replace h := (if_pos c24).symm.trans h
      refine g_lv [0, 1, 2] rfl ?_
      exact lb_X9_routes_51 C hr hz hρ  h
    · replace h := (if_neg c24).symm.trans h
      refine g_aload_n C dX9_routes_27 rfl 0 rfl ?_
      refine g_get (k := 40) (i := 0) (ref := "TradeLineModel") (v := .int (a 0 35)) C rfl (lvY0 hρ) rfl rfl inGX9 35 (by decide) gw_1364 (fun _ h => h) rfl dX9_routes_28 ?_
      refine g_bipush (v := (100 : Int32)) C dX9_routes_31 (by decide) ?_
      refine g_icmp_ge (tgt := 51) C dX9_routes_33 (by decide) (fun c33 => ?_) (fun c33 => ?_)
      · replace h := (if_pos c33).symm.trans h
        refine g_lv [0, 1, 2] rfl ?_
        exact lb_X9_routes_51 C hr hz hρ  h
      · replace h := (if_neg c33).symm.trans h
        refine g_aload_n C dX9_routes_36 rfl 0 rfl ?_
        refine g_iload_n C dX9_routes_37 rfl 1 rfl ?_
        refine g_iload_n C dX9_routes_38 rfl 3 rfl ?_
        obtain ⟨v5, hv5, h⟩ := bind_of h
        refine g_cVv (n := 2) (exc := []) (exr := []) C [_, _] _ rfl rfl [] [] rfl rfl rfl rfl (fun _ h => absurd h (by simp)) (fun _ h => absurd h (by simp)) (fun _ h => absurd h (by simp)) (fun sz => k_X9_trades l M ρ hρ w _ _ _ _ hv5 D E sz) rfl gw_1567 gw_9 gw_1564 gw_1566 gs_60 ⟨by decide +kernel, by decide +kernel, by decide +kernel⟩ ⟨rfl, rfl⟩ ⟨Nat.le_of_ble_eq_true rfl, Nat.le_of_ble_eq_true rfl⟩ (rcvT (lvY0 hρ) rfl rfl rfl) (Nat.le_of_ble_eq_true rfl) dX9_routes_39 ⟨by decide, by decide⟩ (fun u hp hx => ?_)
        obtain rfl := hp
        try dsimp only [List.append_nil]
        refine g_aload_n C dX9_routes_42 rfl 0 rfl ?_
        refine g_iload_n C dX9_routes_43 rfl 1 rfl ?_
        obtain ⟨v6, hv6, h⟩ := bind_of h
        refine g_cVi (n := 1) (exc := []) (exr := []) C [_] _ rfl rfl [] [] rfl rfl rfl rfl (fun _ h => absurd h (by simp)) (fun _ h => absurd h (by simp)) (fun _ h => absurd h (by simp)) (fun sz => k_X9_quoteFor l M ρ hρ w _ _ _ hv6 D E sz) rfl gw_1555 gw_9 gw_1552 gw_1554 gs_57 ⟨by decide +kernel, by decide +kernel, by decide +kernel⟩ ⟨rfl, rfl⟩ ⟨Nat.le_of_ble_eq_true rfl, Nat.le_of_ble_eq_true rfl⟩ (rcvT (lvY0 hρ) rfl rfl rfl) (Nat.le_of_ble_eq_true rfl) dX9_routes_44 ⟨by decide, by decide⟩ (fun r u hp hx => ?_)
        obtain ⟨er, rfl⟩ := hp
        rw [er]
        try dsimp only [List.append_nil]
        refine g_istore_n (lv' := [(3, .int v6), (0, .ref (ρ.2.2.2 40 0)), (1, .int x1), (2, .int x2)]) C dX9_routes_47 rfl (by decide) rfl ?_
        refine g_goto (tgt := 11) C dX9_routes_48 (by decide) ?_
        refine g_lv [1, 2, 3, 0] rfl ?_
        exact hk11 _ _ _ _ h
noncomputable def l_X9_routes_11  (w : Nat) : Nat → AS → Int32 → Int32 → Int32 → Option (AS × Int32)
  | 0 => fun _ _ _ _ => none
  | n + 1 => fun a x1 x2 x3 => b_X9_routes_11  (l_X9_routes_11  w n) w a x1 x2 x3
theorem ll_X9_routes_11 {p : Program} {l : Launch} {e : Env} {s : State} {m : MethodId} {args : Array Value} {below : List Frame} {meth : Method} {c : Code} {D : va_G} {E : Nat → ClassId} {sz : Nat} {M : Nat → Nat → Nat → Int32} {a0 : AS} {ρ : YR} {w : Nat} {r0 : AS × Int32} (C : cx p s m args meth c D E (Aof (mx M a0, ρ) [] s.heap.size) cX9_routes 4 "TradeLineModel") (hr : meth.sig.returnType = none) (hz : s.heap.size = sz) (hρ : rsh ρ)   : ∀ (n : Nat) (a : AS) (x1 x2 x3 : Int32), l_X9_routes_11  w n a x1 x2 x3 = some r0 → G p l e ({ frames := 4, cells := 0, slots := 0, locals := 97 } : Room) s m args below meth c D E (Aof (mx M a0, ρ) [] s.heap.size) 4 (MQ below (cQ D E sz (mx M a0, ρ) [] (pV (fun u => u = ((mx M r0.1, ρ), [])))) args s 0 0 (Aof (mx M a0, ρ) [] s.heap.size)) (mx M a, ρ) [] 0 0 11 [(0, .ref (ρ.2.2.2 40 0)), (1, .int x1), (2, .int x2), (3, .int x3)] [] := by
  intro n
  induction n with
  | zero => exact fun a x1 x2 x3 h => absurd (show (none : Option (AS × Int32)) = some r0 from h) (by simp)
  | succ n ih => exact fun a x1 x2 x3 h => lb_X9_routes_11 (w := w) C hr hz hρ  ih h
noncomputable def f_X9_routes  (w : Nat) (a : AS) (x1 : Int32) : Option (AS × Int32) := yl ((a 0 35)) (fun t1 => (f_X9_quoteFor w a x1).bind (fun v2 => l_X9_routes_11  w w a x1 t1 v2))
set_option maxHeartbeats 4000000 in
set_option maxRecDepth 100000 in
theorem lb_X9_routes_0 {p : Program} {l : Launch} {e : Env} {s : State} {m : MethodId} {args : Array Value} {below : List Frame} {meth : Method} {c : Code} {D : va_G} {E : Nat → ClassId} {sz : Nat} {M : Nat → Nat → Nat → Int32} {a0 : AS} {ρ : YR} {w : Nat} {r0 : AS × Int32} (C : cx p s m args meth c D E (Aof (mx M a0, ρ) [] s.heap.size) cX9_routes 4 "TradeLineModel") (hr : meth.sig.returnType = none) (hz : s.heap.size = sz) (hρ : rsh ρ) {a : AS} {x1 : Int32}   (h : f_X9_routes  w a x1 = some r0) : G p l e ({ frames := 4, cells := 0, slots := 0, locals := 97 } : Room) s m args below meth c D E (Aof (mx M a0, ρ) [] s.heap.size) 4 (MQ below (cQ D E sz (mx M a0, ρ) [] (pV (fun u => u = ((mx M r0.1, ρ), [])))) args s 0 0 (Aof (mx M a0, ρ) [] s.heap.size)) (mx M a, ρ) [] 0 0 0 [(0, .ref (ρ.2.2.2 40 0)), (1, .int x1)] [] := by
  unfold f_X9_routes at h
  refine g_aload_n C dX9_routes_0 rfl 0 rfl ?_
  refine g_get (k := 40) (i := 0) (ref := "TradeLineModel") (v := .int (a 0 35)) C rfl (lvY0 hρ) rfl rfl inGX9 35 (by decide) gw_1364 (fun _ h => h) rfl dX9_routes_1 ?_
  refine q_topi (fun t1 et1 => ?_)
  replace h := yl_of h et1
  refine g_istore_n (lv' := [(2, .int t1), (0, .ref (ρ.2.2.2 40 0)), (1, .int x1)]) C dX9_routes_4 rfl (by decide) rfl ?_
  refine g_aload_n C dX9_routes_5 rfl 1 rfl ?_
  refine g_iload_n C dX9_routes_6 rfl 2 rfl ?_
  obtain ⟨v2, hv2, h⟩ := bind_of h
  refine g_cVi (n := 1) (exc := []) (exr := []) C [_] _ rfl rfl [] [] rfl rfl rfl rfl (fun _ h => absurd h (by simp)) (fun _ h => absurd h (by simp)) (fun _ h => absurd h (by simp)) (fun sz => k_X9_quoteFor l M ρ hρ w _ _ _ hv2 D E sz) rfl gw_1555 gw_9 gw_1552 gw_1554 gs_57 ⟨by decide +kernel, by decide +kernel, by decide +kernel⟩ ⟨rfl, rfl⟩ ⟨Nat.le_of_ble_eq_true rfl, Nat.le_of_ble_eq_true rfl⟩ (rcvT (lvY0 hρ) rfl rfl rfl) (Nat.le_of_ble_eq_true rfl) dX9_routes_7 ⟨by decide, by decide⟩ (fun r u hp hx => ?_)
  obtain ⟨er, rfl⟩ := hp
  rw [er]
  try dsimp only [List.append_nil]
  refine g_istore_n (lv' := [(3, .int v2), (2, .int t1), (0, .ref (ρ.2.2.2 40 0)), (1, .int x1)]) C dX9_routes_10 rfl (by decide) rfl ?_
  refine g_lv [2, 3, 1, 0] rfl ?_
  exact ll_X9_routes_11 C hr hz hρ  w _ _ _ _ h
theorem k_X9_routes (l : Launch) (M : Nat → Nat → Nat → Int32) (ρ : YR) (hρ : rsh ρ) (w : Nat) (a : AS) (x1 : Int32) (r0 : AS × Int32) (h : f_X9_routes w a x1 = some r0) : ∀ D E sz, Met l yX9_routes gwX9_routes ({ frames := 4, cells := 0, slots := 0, locals := 97 } : Room) (cP D E sz (mx M a, ρ) [] [.ref (ρ.2.2.2 40 0), .int x1]) (cQ D E sz (mx M a, ρ) [] (pV (fun u => u = ((mx M r0.1, ρ), [])))) (0) (0) (Aof (mx M a, ρ) [] sz) := by
  intro D E sz
  refine g_of (cc := cX9_routes) (maxL := 4) (ret := none) (own := "TradeLineModel") (by decide) rfl rfl (Nat.le_of_ble_eq_true rfl) ?_
  intro p e s m args below meth c C hr hin hz ha hwr
  refine g_lv [0, 1] rfl ?_
  exact lb_X9_routes_0 C hr hz hρ h
noncomputable def b_X9_worksOff_133  (w : Nat) (a : AS) (x2 : Int32) : Option (AS × Int32) := (f_X9_reports w a (4 : Int32) x2 (0 : Int32) (0 : Int32)).bind (fun v5 => some (v5.1, (0 : Int32)))
set_option maxHeartbeats 4000000 in
set_option maxRecDepth 100000 in
theorem lb_X9_worksOff_133 {p : Program} {l : Launch} {e : Env} {s : State} {m : MethodId} {args : Array Value} {below : List Frame} {meth : Method} {c : Code} {D : va_G} {E : Nat → ClassId} {sz : Nat} {M : Nat → Nat → Nat → Int32} {a0 : AS} {ρ : YR} {w : Nat} {r0 : AS × Int32} (C : cx p s m args meth c D E (Aof (mx M a0, ρ) [] s.heap.size) cX9_worksOff 5 "TradeLineModel") (hr : meth.sig.returnType = none) (hz : s.heap.size = sz) (hρ : rsh ρ) {a : AS} {x2 : Int32}   (h : b_X9_worksOff_133  w a x2 = some r0) : G p l e ({ frames := 5, cells := 0, slots := 0, locals := 120 } : Room) s m args below meth c D E (Aof (mx M a0, ρ) [] s.heap.size) 5 (MQ below (cQ D E sz (mx M a0, ρ) [] (pV (fun u => u = ((mx M r0.1, ρ), [])))) args s 0 0 (Aof (mx M a0, ρ) [] s.heap.size)) (mx M a, ρ) [] 0 0 133 [(0, .ref (ρ.2.2.2 40 0)), (2, .int x2)] [] := by
  unfold b_X9_worksOff_133 at h
  refine g_aload_n C dX9_worksOff_133 rfl 0 rfl ?_
  refine g_iconst (v := (4 : Int32)) C dX9_worksOff_134 (by decide) ?_
  refine g_iload_n C dX9_worksOff_135 rfl 1 rfl ?_
  refine g_iconst (v := (0 : Int32)) C dX9_worksOff_136 (by decide) ?_
  refine g_iconst (v := (0 : Int32)) C dX9_worksOff_137 (by decide) ?_
  obtain ⟨v5, hv5, h⟩ := bind_of h
  refine g_cVv (n := 4) (exc := []) (exr := []) C [_, _, _, _] _ rfl rfl [] [] rfl rfl rfl rfl (fun _ h => absurd h (by simp)) (fun _ h => absurd h (by simp)) (fun _ h => absurd h (by simp)) (fun sz => k_X9_reports l M ρ hρ w _ _ _ _ _ _ hv5 D E sz) rfl gw_1547 gw_9 gw_1544 gw_1546 gs_55 ⟨by decide +kernel, by decide +kernel, by decide +kernel⟩ ⟨rfl, rfl⟩ ⟨Nat.le_of_ble_eq_true rfl, Nat.le_of_ble_eq_true rfl⟩ (rcvT (lvY0 hρ) rfl rfl rfl) (Nat.le_of_ble_eq_true rfl) dX9_worksOff_138 ⟨by decide, by decide⟩ (fun u hp hx => ?_)
  obtain rfl := hp
  try dsimp only [List.append_nil]
  refine g_goto (tgt := 237) C dX9_worksOff_141 (by decide) ?_
  obtain rfl := Option.some.inj h
  exact g_vret C hr hz ⟨rfl, rfl, fun _ => rfl, fun _ => rfl⟩ rfl (fun j x h => by simp at h) dX9_worksOff_237
noncomputable def b_X9_worksOff_144  (w : Nat) (a : AS) (x1 x2 x3 : Int32) : Option (AS × Int32) := bif ixB x1 16384 then (if (a 11 x1.toNatClampNeg) = (6 : Int32) then ((f_X9_leftIn w a x3).bind (fun v14 => bif ixB x3 80 then yl (up2 a 28 x3.toNatClampNeg ((a 28 x3.toNatClampNeg) + v14)) (fun a16 => (f_X9_reports w a16 (2 : Int32) x2 v14 (0 : Int32)).bind (fun v17 => some (v17.1, (0 : Int32)))) else none)) else (bif ixB x3 80 then yl (up2 a 25 x3.toNatClampNeg (a 15 x1.toNatClampNeg)) (fun a9 => yl (up2 a9 26 x3.toNatClampNeg (a9 16 x1.toNatClampNeg)) (fun a10 => (f_X9_comesBehind w a10 x2).bind (fun v11 => (f_X9_reports w v11.1 (3 : Int32) x2 (v11.1 15 x1.toNatClampNeg) (v11.1 16 x1.toNatClampNeg)).bind (fun v12 => (f_X9_routes w v12.1 x2).bind (fun v13 => some (v13.1, (0 : Int32))))))) else none)) else none
set_option maxHeartbeats 4000000 in
set_option maxRecDepth 100000 in
theorem lb_X9_worksOff_144 {p : Program} {l : Launch} {e : Env} {s : State} {m : MethodId} {args : Array Value} {below : List Frame} {meth : Method} {c : Code} {D : va_G} {E : Nat → ClassId} {sz : Nat} {M : Nat → Nat → Nat → Int32} {a0 : AS} {ρ : YR} {w : Nat} {r0 : AS × Int32} (C : cx p s m args meth c D E (Aof (mx M a0, ρ) [] s.heap.size) cX9_worksOff 5 "TradeLineModel") (hr : meth.sig.returnType = none) (hz : s.heap.size = sz) (hρ : rsh ρ) {a : AS} {x1 x2 x3 : Int32}   (h : b_X9_worksOff_144  w a x1 x2 x3 = some r0) : G p l e ({ frames := 5, cells := 0, slots := 0, locals := 120 } : Room) s m args below meth c D E (Aof (mx M a0, ρ) [] s.heap.size) 5 (MQ below (cQ D E sz (mx M a0, ρ) [] (pV (fun u => u = ((mx M r0.1, ρ), [])))) args s 0 0 (Aof (mx M a0, ρ) [] s.heap.size)) (mx M a, ρ) [] 0 0 144 [(0, .ref (ρ.2.2.2 40 0)), (1, .int x1), (2, .int x2), (3, .int x3)] [] := by
  unfold b_X9_worksOff_144 at h
  refine g_aload_n C dX9_worksOff_144 rfl 0 rfl ?_
  refine g_get (k := 40) (i := 0) (ref := "TradeLineModel") (v := .ref (ρ.2.2.2 (40 + 11) 0)) C rfl (lvY0 hρ) rfl rfl inGX9 11 (by decide) gw_1340 (fun _ h => h) rfl dX9_worksOff_145 ?_
  refine g_iload_n C dX9_worksOff_148 rfl 1 rfl ?_
  obtain ⟨g7, h⟩ := of_guard h
  refine q_iald C hρ (j := 11) (N := 16384) (List.mem_of_getElem? (i := 8) rfl) rfl rfl g7 dX9_worksOff_149 ?_
  refine g_bipush (v := (6 : Int32)) C dX9_worksOff_150 (by decide) ?_
  refine g_icmp_ne (tgt := 185) C dX9_worksOff_152 (by decide) (fun c152 => ?_) (fun c152 => ?_)
  · replace h := (if_neg c152).symm.trans h
    refine g_aload_n C dX9_worksOff_185 rfl 0 rfl ?_
    refine g_get (k := 40) (i := 0) (ref := "TradeLineModel") (v := .ref (ρ.2.2.2 (40 + 25) 0)) C rfl (lvY0 hρ) rfl rfl inGX9 25 (by decide) gw_1354 (fun _ h => h) rfl dX9_worksOff_186 ?_
    refine g_iload_n C dX9_worksOff_189 rfl 3 rfl ?_
    refine g_aload_n C dX9_worksOff_190 rfl 0 rfl ?_
    refine g_get (k := 40) (i := 0) (ref := "TradeLineModel") (v := .ref (ρ.2.2.2 (40 + 15) 0)) C rfl (lvY0 hρ) rfl rfl inGX9 15 (by decide) gw_1344 (fun _ h => h) rfl dX9_worksOff_191 ?_
    refine g_iload_n C dX9_worksOff_194 rfl 1 rfl ?_
    refine q_iald C hρ (j := 15) (N := 16384) (List.mem_of_getElem? (i := 12) rfl) rfl rfl g7 dX9_worksOff_195 ?_
    obtain ⟨g8, h⟩ := of_guard h
    refine q_iast C hρ (j := 25) (N := 80) (List.mem_of_getElem? (i := 21) rfl) rfl rfl g8 dX9_worksOff_196 (fun a9 ea9 => ?_)
    replace h := yl_of h ea9
    refine g_aload_n C dX9_worksOff_197 rfl 0 rfl ?_
    refine g_get (k := 40) (i := 0) (ref := "TradeLineModel") (v := .ref (ρ.2.2.2 (40 + 26) 0)) C rfl (lvY0 hρ) rfl rfl inGX9 26 (by decide) gw_1355 (fun _ h => h) rfl dX9_worksOff_198 ?_
    refine g_iload_n C dX9_worksOff_201 rfl 3 rfl ?_
    refine g_aload_n C dX9_worksOff_202 rfl 0 rfl ?_
    refine g_get (k := 40) (i := 0) (ref := "TradeLineModel") (v := .ref (ρ.2.2.2 (40 + 16) 0)) C rfl (lvY0 hρ) rfl rfl inGX9 16 (by decide) gw_1345 (fun _ h => h) rfl dX9_worksOff_203 ?_
    refine g_iload_n C dX9_worksOff_206 rfl 1 rfl ?_
    refine q_iald C hρ (j := 16) (N := 16384) (List.mem_of_getElem? (i := 13) rfl) rfl rfl g7 dX9_worksOff_207 ?_
    refine q_iast C hρ (j := 26) (N := 80) (List.mem_of_getElem? (i := 22) rfl) rfl rfl g8 dX9_worksOff_208 (fun a10 ea10 => ?_)
    replace h := yl_of h ea10
    refine g_aload_n C dX9_worksOff_209 rfl 0 rfl ?_
    refine g_iload_n C dX9_worksOff_210 rfl 2 rfl ?_
    obtain ⟨v11, hv11, h⟩ := bind_of h
    refine g_cVv (n := 1) (exc := []) (exr := []) C [_] _ rfl rfl [] [] rfl rfl rfl rfl (fun _ h => absurd h (by simp)) (fun _ h => absurd h (by simp)) (fun _ h => absurd h (by simp)) (fun sz => k_X9_comesBehind l M ρ hρ w _ _ _ hv11 D E sz) rfl gw_1543 gw_9 gw_1540 gw_1542 gs_54 ⟨by decide +kernel, by decide +kernel, by decide +kernel⟩ ⟨rfl, rfl⟩ ⟨Nat.le_of_ble_eq_true rfl, Nat.le_of_ble_eq_true rfl⟩ (rcvT (lvY0 hρ) rfl rfl rfl) (Nat.le_of_ble_eq_true rfl) dX9_worksOff_211 ⟨by decide, by decide⟩ (fun u hp hx => ?_)
    obtain rfl := hp
    try dsimp only [List.append_nil]
    refine g_aload_n C dX9_worksOff_214 rfl 0 rfl ?_
    refine g_iconst (v := (3 : Int32)) C dX9_worksOff_215 (by decide) ?_
    refine g_iload_n C dX9_worksOff_216 rfl 2 rfl ?_
    refine g_aload_n C dX9_worksOff_217 rfl 0 rfl ?_
    refine g_get (k := 40) (i := 0) (ref := "TradeLineModel") (v := .ref (ρ.2.2.2 (40 + 15) 0)) C rfl (lvY0 hρ) rfl rfl inGX9 15 (by decide) gw_1344 (fun _ h => h) rfl dX9_worksOff_218 ?_
    refine g_iload_n C dX9_worksOff_221 rfl 1 rfl ?_
    refine q_iald C hρ (j := 15) (N := 16384) (List.mem_of_getElem? (i := 12) rfl) rfl rfl g7 dX9_worksOff_222 ?_
    refine g_aload_n C dX9_worksOff_223 rfl 0 rfl ?_
    refine g_get (k := 40) (i := 0) (ref := "TradeLineModel") (v := .ref (ρ.2.2.2 (40 + 16) 0)) C rfl (lvY0 hρ) rfl rfl inGX9 16 (by decide) gw_1345 (fun _ h => h) rfl dX9_worksOff_224 ?_
    refine g_iload_n C dX9_worksOff_227 rfl 1 rfl ?_
    refine q_iald C hρ (j := 16) (N := 16384) (List.mem_of_getElem? (i := 13) rfl) rfl rfl g7 dX9_worksOff_228 ?_
    obtain ⟨v12, hv12, h⟩ := bind_of h
    refine g_cVv (n := 4) (exc := []) (exr := []) C [_, _, _, _] _ rfl rfl [] [] rfl rfl rfl rfl (fun _ h => absurd h (by simp)) (fun _ h => absurd h (by simp)) (fun _ h => absurd h (by simp)) (fun sz => k_X9_reports l M ρ hρ w _ _ _ _ _ _ hv12 D E sz) rfl gw_1547 gw_9 gw_1544 gw_1546 gs_55 ⟨by decide +kernel, by decide +kernel, by decide +kernel⟩ ⟨rfl, rfl⟩ ⟨Nat.le_of_ble_eq_true rfl, Nat.le_of_ble_eq_true rfl⟩ (rcvT (lvY0 hρ) rfl rfl rfl) (Nat.le_of_ble_eq_true rfl) dX9_worksOff_229 ⟨by decide, by decide⟩ (fun u hp hx => ?_)
    obtain rfl := hp
    try dsimp only [List.append_nil]
    refine g_aload_n C dX9_worksOff_232 rfl 0 rfl ?_
    refine g_iload_n C dX9_worksOff_233 rfl 2 rfl ?_
    obtain ⟨v13, hv13, h⟩ := bind_of h
    refine g_cVv (n := 1) (exc := []) (exr := []) C [_] _ rfl rfl [] [] rfl rfl rfl rfl (fun _ h => absurd h (by simp)) (fun _ h => absurd h (by simp)) (fun _ h => absurd h (by simp)) (fun sz => k_X9_routes l M ρ hρ w _ _ _ hv13 D E sz) rfl gw_1551 gw_9 gw_1548 gw_1550 gs_56 ⟨by decide +kernel, by decide +kernel, by decide +kernel⟩ ⟨rfl, rfl⟩ ⟨Nat.le_of_ble_eq_true rfl, Nat.le_of_ble_eq_true rfl⟩ (rcvT (lvY0 hρ) rfl rfl rfl) (Nat.le_of_ble_eq_true rfl) dX9_worksOff_234 ⟨by decide, by decide⟩ (fun u hp hx => ?_)
    obtain rfl := hp
    try dsimp only [List.append_nil]
    obtain rfl := Option.some.inj h
    exact g_vret C hr hz ⟨rfl, rfl, fun _ => rfl, fun _ => rfl⟩ rfl (fun j x h => by simp at h) dX9_worksOff_237
  · replace h := (if_pos c152).symm.trans h
    refine g_aload_n C dX9_worksOff_155 rfl 0 rfl ?_
    refine g_iload_n C dX9_worksOff_156 rfl 3 rfl ?_
    obtain ⟨v14, hv14, h⟩ := bind_of h
    refine g_cVi (n := 1) (exc := []) (exr := []) C [_] _ rfl rfl [] [] rfl rfl rfl rfl (fun _ h => absurd h (by simp)) (fun _ h => absurd h (by simp)) (fun _ h => absurd h (by simp)) (fun sz => k_X9_leftIn l M ρ hρ w _ _ _ hv14 D E sz) rfl gw_1563 gw_9 gw_1560 gw_1562 gs_59 ⟨by decide +kernel, by decide +kernel, by decide +kernel⟩ ⟨rfl, rfl⟩ ⟨Nat.le_of_ble_eq_true rfl, Nat.le_of_ble_eq_true rfl⟩ (rcvT (lvY0 hρ) rfl rfl rfl) (Nat.le_of_ble_eq_true rfl) dX9_worksOff_157 ⟨by decide, by decide⟩ (fun r u hp hx => ?_)
    obtain ⟨er, rfl⟩ := hp
    rw [er]
    try dsimp only [List.append_nil]
    refine g_istore (lv' := [(4, .int v14), (0, .ref (ρ.2.2.2 40 0)), (1, .int x1), (2, .int x2), (3, .int x3)]) C dX9_worksOff_160 (by decide) rfl ?_
    refine g_aload_n C dX9_worksOff_162 rfl 1 rfl ?_
    refine g_get (k := 40) (i := 0) (ref := "TradeLineModel") (v := .ref (ρ.2.2.2 (40 + 28) 0)) C rfl (lvY0 hρ) rfl rfl inGX9 28 (by decide) gw_1357 (fun _ h => h) rfl dX9_worksOff_163 ?_
    refine g_iload_n C dX9_worksOff_166 rfl 4 rfl ?_
    refine g_dup2 C dX9_worksOff_167 rfl rfl ?_
    obtain ⟨g15, h⟩ := of_guard h
    refine q_iald C hρ (j := 28) (N := 80) (List.mem_of_getElem? (i := 24) rfl) rfl rfl g15 dX9_worksOff_168 ?_
    refine g_iload C dX9_worksOff_169 0 rfl ?_
    refine g_iadd C dX9_worksOff_171 ?_
    refine q_iast C hρ (j := 28) (N := 80) (List.mem_of_getElem? (i := 24) rfl) rfl rfl g15 dX9_worksOff_172 (fun a16 ea16 => ?_)
    replace h := yl_of h ea16
    refine g_aload_n C dX9_worksOff_173 rfl 1 rfl ?_
    refine g_iconst (v := (2 : Int32)) C dX9_worksOff_174 (by decide) ?_
    refine g_iload_n C dX9_worksOff_175 rfl 3 rfl ?_
    refine g_iload C dX9_worksOff_176 0 rfl ?_
    refine g_iconst (v := (0 : Int32)) C dX9_worksOff_178 (by decide) ?_
    obtain ⟨v17, hv17, h⟩ := bind_of h
    refine g_cVv (n := 4) (exc := []) (exr := []) C [_, _, _, _] _ rfl rfl [] [] rfl rfl rfl rfl (fun _ h => absurd h (by simp)) (fun _ h => absurd h (by simp)) (fun _ h => absurd h (by simp)) (fun sz => k_X9_reports l M ρ hρ w _ _ _ _ _ _ hv17 D E sz) rfl gw_1547 gw_9 gw_1544 gw_1546 gs_55 ⟨by decide +kernel, by decide +kernel, by decide +kernel⟩ ⟨rfl, rfl⟩ ⟨Nat.le_of_ble_eq_true rfl, Nat.le_of_ble_eq_true rfl⟩ (rcvT (lvY0 hρ) rfl rfl rfl) (Nat.le_of_ble_eq_true rfl) dX9_worksOff_179 ⟨by decide, by decide⟩ (fun u hp hx => ?_)
    obtain rfl := hp
    try dsimp only [List.append_nil]
    refine g_goto (tgt := 237) C dX9_worksOff_182 (by decide) ?_
    obtain rfl := Option.some.inj h
    exact g_vret C hr hz ⟨rfl, rfl, fun _ => rfl, fun _ => rfl⟩ rfl (fun j x h => by simp at h) dX9_worksOff_237
noncomputable def f_X9_worksOff  (w : Nat) (a : AS) (x1 : Int32) : Option (AS × Int32) := bif ixB x1 16384 then yl ((a 14 x1.toNatClampNeg)) (fun t2 => yl (((40 : Int32) + t2)) (fun t3 => (if (a 11 x1.toNatClampNeg) = (5 : Int32) then (bif ixB t3 80 then (if (a 24 t3.toNatClampNeg) = (0 : Int32) then (yl (up2 a 24 t3.toNatClampNeg (vp_nar .boolean (1 : Int32))) (fun a19 => yl (up2 a19 25 t3.toNatClampNeg (a19 16 x1.toNatClampNeg)) (fun a20 => yl (up2 a20 26 t3.toNatClampNeg (a20 17 x1.toNatClampNeg)) (fun a21 => (f_X9_comesBehind w a21 t2).bind (fun v22 => (f_X9_reports w v22.1 (0 : Int32) t2 (0 : Int32) (0 : Int32)).bind (fun v23 => (f_X9_routes w v23.1 t2).bind (fun v24 => some (v24.1, (0 : Int32))))))))) else (some (a, (0 : Int32)))) else none) else (bif ixB t3 80 then (if (a 24 t3.toNatClampNeg) = (0 : Int32) then (b_X9_worksOff_133  w a t2) else ((f_X9_leftIn w a t3).bind (fun v6 => (if v6 = (0 : Int32) then (b_X9_worksOff_133  w a t2) else ((if (a 11 x1.toNatClampNeg) = (7 : Int32) then ((if ((a 27 t3.toNatClampNeg) + (a 28 t3.toNatClampNeg)) < (a 16 x1.toNatClampNeg) then (b_X9_worksOff_144  w a x1 t2 t3) else (b_X9_worksOff_133  w a t2))) else (b_X9_worksOff_144  w a x1 t2 t3))))))) else none)))) else none
set_option maxHeartbeats 4000000 in
set_option maxRecDepth 100000 in
theorem lb_X9_worksOff_0 {p : Program} {l : Launch} {e : Env} {s : State} {m : MethodId} {args : Array Value} {below : List Frame} {meth : Method} {c : Code} {D : va_G} {E : Nat → ClassId} {sz : Nat} {M : Nat → Nat → Nat → Int32} {a0 : AS} {ρ : YR} {w : Nat} {r0 : AS × Int32} (C : cx p s m args meth c D E (Aof (mx M a0, ρ) [] s.heap.size) cX9_worksOff 5 "TradeLineModel") (hr : meth.sig.returnType = none) (hz : s.heap.size = sz) (hρ : rsh ρ) {a : AS} {x1 : Int32}   (h : f_X9_worksOff  w a x1 = some r0) : G p l e ({ frames := 5, cells := 0, slots := 0, locals := 120 } : Room) s m args below meth c D E (Aof (mx M a0, ρ) [] s.heap.size) 5 (MQ below (cQ D E sz (mx M a0, ρ) [] (pV (fun u => u = ((mx M r0.1, ρ), [])))) args s 0 0 (Aof (mx M a0, ρ) [] s.heap.size)) (mx M a, ρ) [] 0 0 0 [(0, .ref (ρ.2.2.2 40 0)), (1, .int x1)] [] := by
  unfold f_X9_worksOff at h
  refine g_aload_n C dX9_worksOff_0 rfl 0 rfl ?_
  refine g_get (k := 40) (i := 0) (ref := "TradeLineModel") (v := .ref (ρ.2.2.2 (40 + 14) 0)) C rfl (lvY0 hρ) rfl rfl inGX9 14 (by decide) gw_1343 (fun _ h => h) rfl dX9_worksOff_1 ?_
  refine g_iload_n C dX9_worksOff_4 rfl 1 rfl ?_
  obtain ⟨g1, h⟩ := of_guard h
  refine q_iald C hρ (j := 14) (N := 16384) (List.mem_of_getElem? (i := 11) rfl) rfl rfl g1 dX9_worksOff_5 ?_
  refine q_topi (fun t2 et2 => ?_)
  replace h := yl_of h et2
  refine g_istore_n (lv' := [(2, .int t2), (0, .ref (ρ.2.2.2 40 0)), (1, .int x1)]) C dX9_worksOff_6 rfl (by decide) rfl ?_
  refine g_bipush (v := (40 : Int32)) C dX9_worksOff_7 (by decide) ?_
  refine g_iload_n C dX9_worksOff_9 rfl 0 rfl ?_
  refine g_iadd C dX9_worksOff_10 ?_
  refine q_topi (fun t3 et3 => ?_)
  replace h := yl_of h et3
  refine g_istore_n (lv' := [(3, .int t3), (2, .int t2), (0, .ref (ρ.2.2.2 40 0)), (1, .int x1)]) C dX9_worksOff_11 rfl (by decide) rfl ?_
  refine g_aload_n C dX9_worksOff_12 rfl 2 rfl ?_
  refine g_get (k := 40) (i := 0) (ref := "TradeLineModel") (v := .ref (ρ.2.2.2 (40 + 11) 0)) C rfl (lvY0 hρ) rfl rfl inGX9 11 (by decide) gw_1340 (fun _ h => h) rfl dX9_worksOff_13 ?_
  refine g_iload_n C dX9_worksOff_16 rfl 3 rfl ?_
  refine q_iald C hρ (j := 11) (N := 16384) (List.mem_of_getElem? (i := 8) rfl) rfl rfl g1 dX9_worksOff_17 ?_
  refine g_iconst (v := (5 : Int32)) C dX9_worksOff_18 (by decide) ?_
  refine g_icmp_ne (tgt := 83) C dX9_worksOff_19 (by decide) (fun c19 => ?_) (fun c19 => ?_)
  · replace h := (if_neg c19).symm.trans h
    refine g_aload_n C dX9_worksOff_83 rfl 2 rfl ?_
    refine g_get (k := 40) (i := 0) (ref := "TradeLineModel") (v := .ref (ρ.2.2.2 (40 + 24) 0)) C rfl (lvY0 hρ) rfl rfl inGX9 24 (by decide) gw_1353 (fun _ h => h) rfl dX9_worksOff_84 ?_
    refine g_iload_n C dX9_worksOff_87 rfl 0 rfl ?_
    obtain ⟨g4, h⟩ := of_guard h
    refine q_zald C hρ (j := 24) (N := 80) (List.mem_of_getElem? (i := 20) rfl) rfl rfl g4 dX9_worksOff_88 ?_
    refine g_if_eq (tgt := 133) C dX9_worksOff_89 (by decide) (fun c89 => ?_) (fun c89 => ?_)
    · replace h := (if_pos c89).symm.trans h
      refine g_lv [2, 1] rfl ?_
      exact lb_X9_worksOff_133 C hr hz hρ  h
    · replace h := (if_neg c89).symm.trans h
      refine g_aload_n C dX9_worksOff_92 rfl 2 rfl ?_
      refine g_iload_n C dX9_worksOff_93 rfl 0 rfl ?_
      obtain ⟨v6, hv6, h⟩ := bind_of h
      refine g_cVi (n := 1) (exc := []) (exr := []) C [_] _ rfl rfl [] [] rfl rfl rfl rfl (fun _ h => absurd h (by simp)) (fun _ h => absurd h (by simp)) (fun _ h => absurd h (by simp)) (fun sz => k_X9_leftIn l M ρ hρ w _ _ _ hv6 D E sz) rfl gw_1563 gw_9 gw_1560 gw_1562 gs_59 ⟨by decide +kernel, by decide +kernel, by decide +kernel⟩ ⟨rfl, rfl⟩ ⟨Nat.le_of_ble_eq_true rfl, Nat.le_of_ble_eq_true rfl⟩ (rcvT (lvY0 hρ) rfl rfl rfl) (Nat.le_of_ble_eq_true rfl) dX9_worksOff_94 ⟨by decide, by decide⟩ (fun r u hp hx => ?_)
      obtain ⟨er, rfl⟩ := hp
      rw [er]
      try dsimp only [List.append_nil]
      refine g_if_eq (tgt := 133) C dX9_worksOff_97 (by decide) (fun c97 => ?_) (fun c97 => ?_)
      · replace h := (if_pos c97).symm.trans h
        refine g_lv [2, 1] rfl ?_
        exact lb_X9_worksOff_133 C hr hz hρ  h
      · replace h := (if_neg c97).symm.trans h
        refine g_aload_n C dX9_worksOff_100 rfl 2 rfl ?_
        refine g_get (k := 40) (i := 0) (ref := "TradeLineModel") (v := .ref (ρ.2.2.2 (40 + 11) 0)) C rfl (lvY0 hρ) rfl rfl inGX9 11 (by decide) gw_1340 (fun _ h => h) rfl dX9_worksOff_101 ?_
        refine g_iload_n C dX9_worksOff_104 rfl 3 rfl ?_
        refine q_iald C hρ (j := 11) (N := 16384) (List.mem_of_getElem? (i := 8) rfl) rfl rfl g1 dX9_worksOff_105 ?_
        refine g_bipush (v := (7 : Int32)) C dX9_worksOff_106 (by decide) ?_
        refine g_icmp_ne (tgt := 144) C dX9_worksOff_108 (by decide) (fun c108 => ?_) (fun c108 => ?_)
        · replace h := (if_neg c108).symm.trans h
          refine g_lv [2, 3, 1, 0] rfl ?_
          exact lb_X9_worksOff_144 C hr hz hρ  h
        · replace h := (if_pos c108).symm.trans h
          refine g_aload_n C dX9_worksOff_111 rfl 2 rfl ?_
          refine g_get (k := 40) (i := 0) (ref := "TradeLineModel") (v := .ref (ρ.2.2.2 (40 + 16) 0)) C rfl (lvY0 hρ) rfl rfl inGX9 16 (by decide) gw_1345 (fun _ h => h) rfl dX9_worksOff_112 ?_
          refine g_iload_n C dX9_worksOff_115 rfl 3 rfl ?_
          refine q_iald C hρ (j := 16) (N := 16384) (List.mem_of_getElem? (i := 13) rfl) rfl rfl g1 dX9_worksOff_116 ?_
          refine g_aload_n C dX9_worksOff_117 rfl 2 rfl ?_
          refine g_get (k := 40) (i := 0) (ref := "TradeLineModel") (v := .ref (ρ.2.2.2 (40 + 27) 0)) C rfl (lvY0 hρ) rfl rfl inGX9 27 (by decide) gw_1356 (fun _ h => h) rfl dX9_worksOff_118 ?_
          refine g_iload_n C dX9_worksOff_121 rfl 0 rfl ?_
          refine q_iald C hρ (j := 27) (N := 80) (List.mem_of_getElem? (i := 23) rfl) rfl rfl g4 dX9_worksOff_122 ?_
          refine g_aload_n C dX9_worksOff_123 rfl 2 rfl ?_
          refine g_get (k := 40) (i := 0) (ref := "TradeLineModel") (v := .ref (ρ.2.2.2 (40 + 28) 0)) C rfl (lvY0 hρ) rfl rfl inGX9 28 (by decide) gw_1357 (fun _ h => h) rfl dX9_worksOff_124 ?_
          refine g_iload_n C dX9_worksOff_127 rfl 0 rfl ?_
          refine q_iald C hρ (j := 28) (N := 80) (List.mem_of_getElem? (i := 24) rfl) rfl rfl g4 dX9_worksOff_128 ?_
          refine g_iadd C dX9_worksOff_129 ?_
          refine g_icmp_gt (tgt := 144) C dX9_worksOff_130 (by decide) (fun c130 => ?_) (fun c130 => ?_)
          · replace h := (if_pos c130).symm.trans h
            refine g_lv [2, 3, 1, 0] rfl ?_
            exact lb_X9_worksOff_144 C hr hz hρ  h
          · replace h := (if_neg c130).symm.trans h
            refine g_lv [2, 1] rfl ?_
            exact lb_X9_worksOff_133 C hr hz hρ  h
  · replace h := (if_pos c19).symm.trans h
    refine g_aload_n C dX9_worksOff_22 rfl 2 rfl ?_
    refine g_get (k := 40) (i := 0) (ref := "TradeLineModel") (v := .ref (ρ.2.2.2 (40 + 24) 0)) C rfl (lvY0 hρ) rfl rfl inGX9 24 (by decide) gw_1353 (fun _ h => h) rfl dX9_worksOff_23 ?_
    refine g_iload_n C dX9_worksOff_26 rfl 0 rfl ?_
    obtain ⟨g18, h⟩ := of_guard h
    refine q_zald C hρ (j := 24) (N := 80) (List.mem_of_getElem? (i := 20) rfl) rfl rfl g18 dX9_worksOff_27 ?_
    refine g_if_ne (tgt := 237) C dX9_worksOff_28 (by decide) (fun c28 => ?_) (fun c28 => ?_)
    · replace h := (if_neg c28).symm.trans h
      obtain rfl := Option.some.inj h
      exact g_vret C hr hz ⟨rfl, rfl, fun _ => rfl, fun _ => rfl⟩ rfl (fun j x h => by simp at h) dX9_worksOff_237
    · replace h := (if_pos c28).symm.trans h
      refine g_aload_n C dX9_worksOff_31 rfl 2 rfl ?_
      refine g_get (k := 40) (i := 0) (ref := "TradeLineModel") (v := .ref (ρ.2.2.2 (40 + 24) 0)) C rfl (lvY0 hρ) rfl rfl inGX9 24 (by decide) gw_1353 (fun _ h => h) rfl dX9_worksOff_32 ?_
      refine g_iload_n C dX9_worksOff_35 rfl 0 rfl ?_
      refine g_iconst (v := (1 : Int32)) C dX9_worksOff_36 (by decide) ?_
      refine q_zast C hρ (j := 24) (N := 80) (List.mem_of_getElem? (i := 20) rfl) rfl rfl g18 dX9_worksOff_37 (fun a19 ea19 => ?_)
      replace h := yl_of h ea19
      refine g_aload_n C dX9_worksOff_38 rfl 2 rfl ?_
      refine g_get (k := 40) (i := 0) (ref := "TradeLineModel") (v := .ref (ρ.2.2.2 (40 + 25) 0)) C rfl (lvY0 hρ) rfl rfl inGX9 25 (by decide) gw_1354 (fun _ h => h) rfl dX9_worksOff_39 ?_
      refine g_iload_n C dX9_worksOff_42 rfl 0 rfl ?_
      refine g_aload_n C dX9_worksOff_43 rfl 2 rfl ?_
      refine g_get (k := 40) (i := 0) (ref := "TradeLineModel") (v := .ref (ρ.2.2.2 (40 + 16) 0)) C rfl (lvY0 hρ) rfl rfl inGX9 16 (by decide) gw_1345 (fun _ h => h) rfl dX9_worksOff_44 ?_
      refine g_iload_n C dX9_worksOff_47 rfl 3 rfl ?_
      refine q_iald C hρ (j := 16) (N := 16384) (List.mem_of_getElem? (i := 13) rfl) rfl rfl g1 dX9_worksOff_48 ?_
      refine q_iast C hρ (j := 25) (N := 80) (List.mem_of_getElem? (i := 21) rfl) rfl rfl g18 dX9_worksOff_49 (fun a20 ea20 => ?_)
      replace h := yl_of h ea20
      refine g_aload_n C dX9_worksOff_50 rfl 2 rfl ?_
      refine g_get (k := 40) (i := 0) (ref := "TradeLineModel") (v := .ref (ρ.2.2.2 (40 + 26) 0)) C rfl (lvY0 hρ) rfl rfl inGX9 26 (by decide) gw_1355 (fun _ h => h) rfl dX9_worksOff_51 ?_
      refine g_iload_n C dX9_worksOff_54 rfl 0 rfl ?_
      refine g_aload_n C dX9_worksOff_55 rfl 2 rfl ?_
      refine g_get (k := 40) (i := 0) (ref := "TradeLineModel") (v := .ref (ρ.2.2.2 (40 + 17) 0)) C rfl (lvY0 hρ) rfl rfl inGX9 17 (by decide) gw_1346 (fun _ h => h) rfl dX9_worksOff_56 ?_
      refine g_iload_n C dX9_worksOff_59 rfl 3 rfl ?_
      refine q_iald C hρ (j := 17) (N := 16384) (List.mem_of_getElem? (i := 14) rfl) rfl rfl g1 dX9_worksOff_60 ?_
      refine q_iast C hρ (j := 26) (N := 80) (List.mem_of_getElem? (i := 22) rfl) rfl rfl g18 dX9_worksOff_61 (fun a21 ea21 => ?_)
      replace h := yl_of h ea21
      refine g_aload_n C dX9_worksOff_62 rfl 2 rfl ?_
      refine g_iload_n C dX9_worksOff_63 rfl 1 rfl ?_
      obtain ⟨v22, hv22, h⟩ := bind_of h
      refine g_cVv (n := 1) (exc := []) (exr := []) C [_] _ rfl rfl [] [] rfl rfl rfl rfl (fun _ h => absurd h (by simp)) (fun _ h => absurd h (by simp)) (fun _ h => absurd h (by simp)) (fun sz => k_X9_comesBehind l M ρ hρ w _ _ _ hv22 D E sz) rfl gw_1543 gw_9 gw_1540 gw_1542 gs_54 ⟨by decide +kernel, by decide +kernel, by decide +kernel⟩ ⟨rfl, rfl⟩ ⟨Nat.le_of_ble_eq_true rfl, Nat.le_of_ble_eq_true rfl⟩ (rcvT (lvY0 hρ) rfl rfl rfl) (Nat.le_of_ble_eq_true rfl) dX9_worksOff_64 ⟨by decide, by decide⟩ (fun u hp hx => ?_)
      obtain rfl := hp
      try dsimp only [List.append_nil]
      refine g_aload_n C dX9_worksOff_67 rfl 2 rfl ?_
      refine g_iconst (v := (0 : Int32)) C dX9_worksOff_68 (by decide) ?_
      refine g_iload_n C dX9_worksOff_69 rfl 1 rfl ?_
      refine g_iconst (v := (0 : Int32)) C dX9_worksOff_70 (by decide) ?_
      refine g_iconst (v := (0 : Int32)) C dX9_worksOff_71 (by decide) ?_
      obtain ⟨v23, hv23, h⟩ := bind_of h
      refine g_cVv (n := 4) (exc := []) (exr := []) C [_, _, _, _] _ rfl rfl [] [] rfl rfl rfl rfl (fun _ h => absurd h (by simp)) (fun _ h => absurd h (by simp)) (fun _ h => absurd h (by simp)) (fun sz => k_X9_reports l M ρ hρ w _ _ _ _ _ _ hv23 D E sz) rfl gw_1547 gw_9 gw_1544 gw_1546 gs_55 ⟨by decide +kernel, by decide +kernel, by decide +kernel⟩ ⟨rfl, rfl⟩ ⟨Nat.le_of_ble_eq_true rfl, Nat.le_of_ble_eq_true rfl⟩ (rcvT (lvY0 hρ) rfl rfl rfl) (Nat.le_of_ble_eq_true rfl) dX9_worksOff_72 ⟨by decide, by decide⟩ (fun u hp hx => ?_)
      obtain rfl := hp
      try dsimp only [List.append_nil]
      refine g_aload_n C dX9_worksOff_75 rfl 2 rfl ?_
      refine g_iload_n C dX9_worksOff_76 rfl 1 rfl ?_
      obtain ⟨v24, hv24, h⟩ := bind_of h
      refine g_cVv (n := 1) (exc := []) (exr := []) C [_] _ rfl rfl [] [] rfl rfl rfl rfl (fun _ h => absurd h (by simp)) (fun _ h => absurd h (by simp)) (fun _ h => absurd h (by simp)) (fun sz => k_X9_routes l M ρ hρ w _ _ _ hv24 D E sz) rfl gw_1551 gw_9 gw_1548 gw_1550 gs_56 ⟨by decide +kernel, by decide +kernel, by decide +kernel⟩ ⟨rfl, rfl⟩ ⟨Nat.le_of_ble_eq_true rfl, Nat.le_of_ble_eq_true rfl⟩ (rcvT (lvY0 hρ) rfl rfl rfl) (Nat.le_of_ble_eq_true rfl) dX9_worksOff_77 ⟨by decide, by decide⟩ (fun u hp hx => ?_)
      obtain rfl := hp
      try dsimp only [List.append_nil]
      refine g_goto (tgt := 237) C dX9_worksOff_80 (by decide) ?_
      obtain rfl := Option.some.inj h
      exact g_vret C hr hz ⟨rfl, rfl, fun _ => rfl, fun _ => rfl⟩ rfl (fun j x h => by simp at h) dX9_worksOff_237
theorem k_X9_worksOff (l : Launch) (M : Nat → Nat → Nat → Int32) (ρ : YR) (hρ : rsh ρ) (w : Nat) (a : AS) (x1 : Int32) (r0 : AS × Int32) (h : f_X9_worksOff w a x1 = some r0) : ∀ D E sz, Met l yX9_worksOff gwX9_worksOff ({ frames := 5, cells := 0, slots := 0, locals := 120 } : Room) (cP D E sz (mx M a, ρ) [] [.ref (ρ.2.2.2 40 0), .int x1]) (cQ D E sz (mx M a, ρ) [] (pV (fun u => u = ((mx M r0.1, ρ), [])))) (0) (0) (Aof (mx M a, ρ) [] sz) := by
  intro D E sz
  refine g_of (cc := cX9_worksOff) (maxL := 5) (ret := none) (own := "TradeLineModel") (by decide) rfl rfl (Nat.le_of_ble_eq_true rfl) ?_
  intro p e s m args below meth c C hr hin hz ha hwr
  refine g_lv [0, 1] rfl ?_
  exact lb_X9_worksOff_0 C hr hz hρ h
noncomputable def b_X9_takes_85  (w : Nat) (a : AS) (x1 x4 : Int32) : Option (AS × Int32) := bif ixB x4 16384 then (if (a 11 x4.toNatClampNeg) < (5 : Int32) then (some (a, (0 : Int32))) else ((if x1 = (1 : Int32) then ((f_X9_worksOff w a x4).bind (fun v6 => some (v6.1, (0 : Int32)))) else (some (a, (0 : Int32)))))) else none
set_option maxHeartbeats 4000000 in
set_option maxRecDepth 100000 in
theorem lb_X9_takes_85 {p : Program} {l : Launch} {e : Env} {s : State} {m : MethodId} {args : Array Value} {below : List Frame} {meth : Method} {c : Code} {D : va_G} {E : Nat → ClassId} {sz : Nat} {M : Nat → Nat → Nat → Int32} {a0 : AS} {ρ : YR} {w : Nat} {r0 : AS × Int32} (C : cx p s m args meth c D E (Aof (mx M a0, ρ) [] s.heap.size) cX9_takes 5 "TradeLineModel") (hr : meth.sig.returnType = none) (hz : s.heap.size = sz) (hρ : rsh ρ) {a : AS} {x1 x4 : Int32}   (h : b_X9_takes_85  w a x1 x4 = some r0) : G p l e ({ frames := 6, cells := 0, slots := 0, locals := 144 } : Room) s m args below meth c D E (Aof (mx M a0, ρ) [] s.heap.size) 5 (MQ below (cQ D E sz (mx M a0, ρ) [] (pV (fun u => u = ((mx M r0.1, ρ), [])))) args s 0 0 (Aof (mx M a0, ρ) [] s.heap.size)) (mx M a, ρ) [] 0 0 85 [(0, .ref (ρ.2.2.2 40 0)), (1, .int x1), (4, .int x4)] [] := by
  unfold b_X9_takes_85 at h
  refine g_aload_n C dX9_takes_85 rfl 0 rfl ?_
  refine g_get (k := 40) (i := 0) (ref := "TradeLineModel") (v := .ref (ρ.2.2.2 (40 + 11) 0)) C rfl (lvY0 hρ) rfl rfl inGX9 11 (by decide) gw_1340 (fun _ h => h) rfl dX9_takes_86 ?_
  refine g_iload C dX9_takes_89 2 rfl ?_
  obtain ⟨g5, h⟩ := of_guard h
  refine q_iald C hρ (j := 11) (N := 16384) (List.mem_of_getElem? (i := 8) rfl) rfl rfl g5 dX9_takes_91 ?_
  refine g_iconst (v := (5 : Int32)) C dX9_takes_92 (by decide) ?_
  refine g_icmp_lt (tgt := 107) C dX9_takes_93 (by decide) (fun c93 => ?_) (fun c93 => ?_)
  · replace h := (if_pos c93).symm.trans h
    obtain rfl := Option.some.inj h
    exact g_vret C hr hz ⟨rfl, rfl, fun _ => rfl, fun _ => rfl⟩ rfl (fun j x h => by simp at h) dX9_takes_107
  · replace h := (if_neg c93).symm.trans h
    refine g_iload_n C dX9_takes_96 rfl 1 rfl ?_
    refine g_iconst (v := (1 : Int32)) C dX9_takes_97 (by decide) ?_
    refine g_icmp_ne (tgt := 107) C dX9_takes_98 (by decide) (fun c98 => ?_) (fun c98 => ?_)
    · replace h := (if_neg c98).symm.trans h
      obtain rfl := Option.some.inj h
      exact g_vret C hr hz ⟨rfl, rfl, fun _ => rfl, fun _ => rfl⟩ rfl (fun j x h => by simp at h) dX9_takes_107
    · replace h := (if_pos c98).symm.trans h
      refine g_aload_n C dX9_takes_101 rfl 0 rfl ?_
      refine g_iload C dX9_takes_102 2 rfl ?_
      obtain ⟨v6, hv6, h⟩ := bind_of h
      refine g_cVv (n := 1) (exc := []) (exr := []) C [_] _ rfl rfl [] [] rfl rfl rfl rfl (fun _ h => absurd h (by simp)) (fun _ h => absurd h (by simp)) (fun _ h => absurd h (by simp)) (fun sz => k_X9_worksOff l M ρ hρ w _ _ _ hv6 D E sz) rfl gw_1539 gw_9 gw_1536 gw_1538 gs_53 ⟨by decide +kernel, by decide +kernel, by decide +kernel⟩ ⟨rfl, rfl⟩ ⟨Nat.le_of_ble_eq_true rfl, Nat.le_of_ble_eq_true rfl⟩ (rcvT (lvY0 hρ) rfl rfl rfl) (Nat.le_of_ble_eq_true rfl) dX9_takes_104 ⟨by decide, by decide⟩ (fun u hp hx => ?_)
      obtain rfl := hp
      try dsimp only [List.append_nil]
      obtain rfl := Option.some.inj h
      exact g_vret C hr hz ⟨rfl, rfl, fun _ => rfl, fun _ => rfl⟩ rfl (fun j x h => by simp at h) dX9_takes_107
noncomputable def b_X9_takes_19  (w : Nat) (a : AS) (x1 x2 x3 s0 s1 : Int32) : Option (AS × Int32) := bif ixB s1 2 then yl (up2 a 5 s1.toNatClampNeg s0) (fun a2 => yl ((((8192 : Int32) * ((1 : Int32) - x1)) + x2)) (fun t3 => (if x3 ≤ (0 : Int32) then (bif ixB t3 16384 then (if (a2 11 t3.toNatClampNeg) = (2 : Int32) then ((f_X9_sends w a2 x1 (1 : Int32) (0 : Int32) (0 : Int32) (0 : Int32) (0 : Int32)).bind (fun v8 => some (v8.1, (0 : Int32)))) else ((if (a2 11 t3.toNatClampNeg) = (8 : Int32) then ((if x1 = (0 : Int32) then ((f_X9_learns w a2 t3).bind (fun v7 => some (v7.1, (0 : Int32)))) else (b_X9_takes_85  w a2 x1 t3))) else (b_X9_takes_85  w a2 x1 t3)))) else none) else (some (a2, (0 : Int32)))))) else none
set_option maxHeartbeats 4000000 in
set_option maxRecDepth 100000 in
theorem lb_X9_takes_19 {p : Program} {l : Launch} {e : Env} {s : State} {m : MethodId} {args : Array Value} {below : List Frame} {meth : Method} {c : Code} {D : va_G} {E : Nat → ClassId} {sz : Nat} {M : Nat → Nat → Nat → Int32} {a0 : AS} {ρ : YR} {w : Nat} {r0 : AS × Int32} (C : cx p s m args meth c D E (Aof (mx M a0, ρ) [] s.heap.size) cX9_takes 5 "TradeLineModel") (hr : meth.sig.returnType = none) (hz : s.heap.size = sz) (hρ : rsh ρ) {a : AS} {x1 x2 x3 s0 s1 : Int32}   (h : b_X9_takes_19  w a x1 x2 x3 s0 s1 = some r0) : G p l e ({ frames := 6, cells := 0, slots := 0, locals := 144 } : Room) s m args below meth c D E (Aof (mx M a0, ρ) [] s.heap.size) 5 (MQ below (cQ D E sz (mx M a0, ρ) [] (pV (fun u => u = ((mx M r0.1, ρ), [])))) args s 0 0 (Aof (mx M a0, ρ) [] s.heap.size)) (mx M a, ρ) [] 0 0 19 [(0, .ref (ρ.2.2.2 40 0)), (1, .int x1), (2, .int x2), (3, .int x3)] [.int s0, .int s1, .ref (ρ.2.2.2 (40 + 5) 0)] := by
  unfold b_X9_takes_19 at h
  obtain ⟨g1, h⟩ := of_guard h
  refine q_iast C hρ (j := 5) (N := 2) (List.mem_of_getElem? (i := 2) rfl) rfl rfl g1 dX9_takes_19 (fun a2 ea2 => ?_)
  replace h := yl_of h ea2
  refine g_sipush (v := (8192 : Int32)) C dX9_takes_20 (by decide) ?_
  refine g_iconst (v := (1 : Int32)) C dX9_takes_23 (by decide) ?_
  refine g_iload_n C dX9_takes_24 rfl 1 rfl ?_
  refine g_isub C dX9_takes_25 ?_
  refine g_imul C dX9_takes_26 ?_
  refine g_iload_n C dX9_takes_27 rfl 2 rfl ?_
  refine g_iadd C dX9_takes_28 ?_
  refine q_topi (fun t3 et3 => ?_)
  replace h := yl_of h et3
  refine g_istore (lv' := [(4, .int t3), (0, .ref (ρ.2.2.2 40 0)), (1, .int x1), (2, .int x2), (3, .int x3)]) C dX9_takes_29 (by decide) rfl ?_
  refine g_iload_n C dX9_takes_31 rfl 4 rfl ?_
  refine g_if_le (tgt := 36) C dX9_takes_32 (by decide) (fun c32 => ?_) (fun c32 => ?_)
  · replace h := (if_pos c32).symm.trans h
    refine g_aload_n C dX9_takes_36 rfl 1 rfl ?_
    refine g_get (k := 40) (i := 0) (ref := "TradeLineModel") (v := .ref (ρ.2.2.2 (40 + 11) 0)) C rfl (lvY0 hρ) rfl rfl inGX9 11 (by decide) gw_1340 (fun _ h => h) rfl dX9_takes_37 ?_
    refine g_iload C dX9_takes_40 0 rfl ?_
    obtain ⟨g4, h⟩ := of_guard h
    refine q_iald C hρ (j := 11) (N := 16384) (List.mem_of_getElem? (i := 8) rfl) rfl rfl g4 dX9_takes_42 ?_
    refine g_iconst (v := (2 : Int32)) C dX9_takes_43 (by decide) ?_
    refine g_icmp_ne (tgt := 60) C dX9_takes_44 (by decide) (fun c44 => ?_) (fun c44 => ?_)
    · replace h := (if_neg c44).symm.trans h
      refine g_aload_n C dX9_takes_60 rfl 1 rfl ?_
      refine g_get (k := 40) (i := 0) (ref := "TradeLineModel") (v := .ref (ρ.2.2.2 (40 + 11) 0)) C rfl (lvY0 hρ) rfl rfl inGX9 11 (by decide) gw_1340 (fun _ h => h) rfl dX9_takes_61 ?_
      refine g_iload C dX9_takes_64 0 rfl ?_
      refine q_iald C hρ (j := 11) (N := 16384) (List.mem_of_getElem? (i := 8) rfl) rfl rfl g4 dX9_takes_66 ?_
      refine g_bipush (v := (8 : Int32)) C dX9_takes_67 (by decide) ?_
      refine g_icmp_ne (tgt := 85) C dX9_takes_69 (by decide) (fun c69 => ?_) (fun c69 => ?_)
      · replace h := (if_neg c69).symm.trans h
        refine g_lv [1, 2, 0] rfl ?_
        exact lb_X9_takes_85 C hr hz hρ  h
      · replace h := (if_pos c69).symm.trans h
        refine g_iload_n C dX9_takes_72 rfl 2 rfl ?_
        refine g_if_ne (tgt := 85) C dX9_takes_73 (by decide) (fun c73 => ?_) (fun c73 => ?_)
        · replace h := (if_neg c73).symm.trans h
          refine g_lv [1, 2, 0] rfl ?_
          exact lb_X9_takes_85 C hr hz hρ  h
        · replace h := (if_pos c73).symm.trans h
          refine g_aload_n C dX9_takes_76 rfl 1 rfl ?_
          refine g_iload C dX9_takes_77 0 rfl ?_
          obtain ⟨v7, hv7, h⟩ := bind_of h
          refine g_cVv (n := 1) (exc := []) (exr := []) C [_] _ rfl rfl [] [] rfl rfl rfl rfl (fun _ h => absurd h (by simp)) (fun _ h => absurd h (by simp)) (fun _ h => absurd h (by simp)) (fun sz => k_X9_learns l M ρ hρ w _ _ _ hv7 D E sz) rfl gw_1531 gw_9 gw_1528 gw_1530 gs_51 ⟨by decide +kernel, by decide +kernel, by decide +kernel⟩ ⟨rfl, rfl⟩ ⟨Nat.le_of_ble_eq_true rfl, Nat.le_of_ble_eq_true rfl⟩ (rcvT (lvY0 hρ) rfl rfl rfl) (Nat.le_of_ble_eq_true rfl) dX9_takes_79 ⟨by decide, by decide⟩ (fun u hp hx => ?_)
          obtain rfl := hp
          try dsimp only [List.append_nil]
          refine g_goto (tgt := 107) C dX9_takes_82 (by decide) ?_
          obtain rfl := Option.some.inj h
          exact g_vret C hr hz ⟨rfl, rfl, fun _ => rfl, fun _ => rfl⟩ rfl (fun j x h => by simp at h) dX9_takes_107
    · replace h := (if_pos c44).symm.trans h
      refine g_aload_n C dX9_takes_47 rfl 1 rfl ?_
      refine g_iload_n C dX9_takes_48 rfl 2 rfl ?_
      refine g_iconst (v := (1 : Int32)) C dX9_takes_49 (by decide) ?_
      refine g_iconst (v := (0 : Int32)) C dX9_takes_50 (by decide) ?_
      refine g_iconst (v := (0 : Int32)) C dX9_takes_51 (by decide) ?_
      refine g_iconst (v := (0 : Int32)) C dX9_takes_52 (by decide) ?_
      refine g_iconst (v := (0 : Int32)) C dX9_takes_53 (by decide) ?_
      obtain ⟨v8, hv8, h⟩ := bind_of h
      refine g_cVv (n := 6) (exc := []) (exr := []) C [_, _, _, _, _, _] _ rfl rfl [] [] rfl rfl rfl rfl (fun _ h => absurd h (by simp)) (fun _ h => absurd h (by simp)) (fun _ h => absurd h (by simp)) (fun sz => k_X9_sends l M ρ hρ w _ _ _ _ _ _ _ _ hv8 D E sz) rfl gw_1476 gw_9 gw_1473 gw_1475 gs_41 ⟨by decide +kernel, by decide +kernel, by decide +kernel⟩ ⟨rfl, rfl⟩ ⟨Nat.le_of_ble_eq_true rfl, Nat.le_of_ble_eq_true rfl⟩ (rcvT (lvY0 hρ) rfl rfl rfl) (Nat.le_of_ble_eq_true rfl) dX9_takes_54 ⟨by decide, by decide⟩ (fun u hp hx => ?_)
      obtain rfl := hp
      try dsimp only [List.append_nil]
      refine g_goto (tgt := 107) C dX9_takes_57 (by decide) ?_
      obtain rfl := Option.some.inj h
      exact g_vret C hr hz ⟨rfl, rfl, fun _ => rfl, fun _ => rfl⟩ rfl (fun j x h => by simp at h) dX9_takes_107
  · replace h := (if_neg c32).symm.trans h
    obtain rfl := Option.some.inj h
    exact g_vret C hr hz ⟨rfl, rfl, fun _ => rfl, fun _ => rfl⟩ rfl (fun j x h => by simp at h) dX9_takes_35
noncomputable def f_X9_takes  (w : Nat) (a : AS) (x1 x2 x3 : Int32) : Option (AS × Int32) := (if x3 ≤ (x2 + (1 : Int32)) then (b_X9_takes_19  w a x1 x2 x3 (x2 + (1 : Int32)) x1) else (b_X9_takes_19  w a x1 x2 x3 x3 x1))
set_option maxHeartbeats 4000000 in
set_option maxRecDepth 100000 in
theorem lb_X9_takes_0 {p : Program} {l : Launch} {e : Env} {s : State} {m : MethodId} {args : Array Value} {below : List Frame} {meth : Method} {c : Code} {D : va_G} {E : Nat → ClassId} {sz : Nat} {M : Nat → Nat → Nat → Int32} {a0 : AS} {ρ : YR} {w : Nat} {r0 : AS × Int32} (C : cx p s m args meth c D E (Aof (mx M a0, ρ) [] s.heap.size) cX9_takes 5 "TradeLineModel") (hr : meth.sig.returnType = none) (hz : s.heap.size = sz) (hρ : rsh ρ) {a : AS} {x1 x2 x3 : Int32}   (h : f_X9_takes  w a x1 x2 x3 = some r0) : G p l e ({ frames := 6, cells := 0, slots := 0, locals := 144 } : Room) s m args below meth c D E (Aof (mx M a0, ρ) [] s.heap.size) 5 (MQ below (cQ D E sz (mx M a0, ρ) [] (pV (fun u => u = ((mx M r0.1, ρ), [])))) args s 0 0 (Aof (mx M a0, ρ) [] s.heap.size)) (mx M a, ρ) [] 0 0 0 [(0, .ref (ρ.2.2.2 40 0)), (1, .int x1), (2, .int x2), (3, .int x3)] [] := by
  unfold f_X9_takes at h
  refine g_aload_n C dX9_takes_0 rfl 0 rfl ?_
  refine g_get (k := 40) (i := 0) (ref := "TradeLineModel") (v := .ref (ρ.2.2.2 (40 + 5) 0)) C rfl (lvY0 hρ) rfl rfl inGX9 5 (by decide) gw_1334 (fun _ h => h) rfl dX9_takes_1 ?_
  refine g_iload_n C dX9_takes_4 rfl 1 rfl ?_
  refine g_iload_n C dX9_takes_5 rfl 3 rfl ?_
  refine g_iload_n C dX9_takes_6 rfl 2 rfl ?_
  refine g_iconst (v := (1 : Int32)) C dX9_takes_7 (by decide) ?_
  refine g_iadd C dX9_takes_8 ?_
  refine g_icmp_le (tgt := 16) C dX9_takes_9 (by decide) (fun c9 => ?_) (fun c9 => ?_)
  · replace h := (if_pos c9).symm.trans h
    refine g_iload_n C dX9_takes_16 rfl 2 rfl ?_
    refine g_iconst (v := (1 : Int32)) C dX9_takes_17 (by decide) ?_
    refine g_iadd C dX9_takes_18 ?_
    refine g_lv [0, 1, 2, 3] rfl ?_
    exact lb_X9_takes_19 C hr hz hρ  h
  · replace h := (if_neg c9).symm.trans h
    refine g_iload_n C dX9_takes_12 rfl 3 rfl ?_
    refine g_goto (tgt := 19) C dX9_takes_13 (by decide) ?_
    refine g_lv [0, 1, 2, 3] rfl ?_
    exact lb_X9_takes_19 C hr hz hρ  h
theorem k_X9_takes (l : Launch) (M : Nat → Nat → Nat → Int32) (ρ : YR) (hρ : rsh ρ) (w : Nat) (a : AS) (x1 x2 x3 : Int32) (r0 : AS × Int32) (h : f_X9_takes w a x1 x2 x3 = some r0) : ∀ D E sz, Met l yX9_takes gwX9_takes ({ frames := 6, cells := 0, slots := 0, locals := 144 } : Room) (cP D E sz (mx M a, ρ) [] [.ref (ρ.2.2.2 40 0), .int x1, .int x2, .int x3]) (cQ D E sz (mx M a, ρ) [] (pV (fun u => u = ((mx M r0.1, ρ), [])))) (0) (0) (Aof (mx M a, ρ) [] sz) := by
  intro D E sz
  refine g_of (cc := cX9_takes) (maxL := 5) (ret := none) (own := "TradeLineModel") (by decide) rfl rfl (Nat.le_of_ble_eq_true rfl) ?_
  intro p e s m args below meth c C hr hin hz ha hwr
  refine g_lv [0, 1, 2, 3] rfl ?_
  exact lb_X9_takes_0 C hr hz hρ h
noncomputable def b_X9_throwsAway_39 (k2 : AS → Int32 → Int32 → Option (AS × Int32)) (w : Nat) (a : AS) (x1 x2 s0 s1 s2 : Int32) : Option (AS × Int32) := bif ixB s2 2 then yl (up2 a 6 s2.toNatClampNeg (s1 - s0)) (fun a4 => bif ixB (((8192 : Int32) * x1) + x2) 16384 then yl (up2 a4 18 (((8192 : Int32) * x1) + x2).toNatClampNeg (0 : Int32)) (fun a6 => yl (x2 + (1 : Int32)) (fun t7 => k2 a6 x1 t7)) else none) else none
set_option maxHeartbeats 4000000 in
set_option maxRecDepth 100000 in
theorem lb_X9_throwsAway_39 {p : Program} {l : Launch} {e : Env} {s : State} {m : MethodId} {args : Array Value} {below : List Frame} {meth : Method} {c : Code} {D : va_G} {E : Nat → ClassId} {sz : Nat} {M : Nat → Nat → Nat → Int32} {a0 : AS} {ρ : YR} {w : Nat} {r0 : AS × Int32} (C : cx p s m args meth c D E (Aof (mx M a0, ρ) [] s.heap.size) cX9_throwsAway 3 "TradeLineModel") (hr : meth.sig.returnType = none) (hz : s.heap.size = sz) (hρ : rsh ρ) {a : AS} {x1 x2 s0 s1 s2 : Int32} {k2 : AS → Int32 → Int32 → Option (AS × Int32)} (hk2 : ∀ (a1 : AS) (z1 z2 : Int32), k2 a1 z1 z2 = some r0 → G p l e ({ frames := 0, cells := 0, slots := 0, locals := 0 } : Room) s m args below meth c D E (Aof (mx M a0, ρ) [] s.heap.size) 3 (MQ below (cQ D E sz (mx M a0, ρ) [] (pV (fun u => u = ((mx M r0.1, ρ), [])))) args s 0 0 (Aof (mx M a0, ρ) [] s.heap.size)) (mx M a1, ρ) [] 0 0 2 [(0, .ref (ρ.2.2.2 40 0)), (1, .int z1), (2, .int z2)] []) (h : b_X9_throwsAway_39 k2 w a x1 x2 s0 s1 s2 = some r0) : G p l e ({ frames := 0, cells := 0, slots := 0, locals := 0 } : Room) s m args below meth c D E (Aof (mx M a0, ρ) [] s.heap.size) 3 (MQ below (cQ D E sz (mx M a0, ρ) [] (pV (fun u => u = ((mx M r0.1, ρ), [])))) args s 0 0 (Aof (mx M a0, ρ) [] s.heap.size)) (mx M a, ρ) [] 0 0 39 [(0, .ref (ρ.2.2.2 40 0)), (1, .int x1), (2, .int x2)] [.int s0, .int s1, .int s2, .ref (ρ.2.2.2 (40 + 6) 0)] := by
  unfold b_X9_throwsAway_39 at h
  refine g_isub C dX9_throwsAway_39 ?_
  obtain ⟨g3, h⟩ := of_guard h
  refine q_iast C hρ (j := 6) (N := 2) (List.mem_of_getElem? (i := 3) rfl) rfl rfl g3 dX9_throwsAway_40 (fun a4 ea4 => ?_)
  replace h := yl_of h ea4
  refine g_aload_n C dX9_throwsAway_41 rfl 0 rfl ?_
  refine g_get (k := 40) (i := 0) (ref := "TradeLineModel") (v := .ref (ρ.2.2.2 (40 + 18) 0)) C rfl (lvY0 hρ) rfl rfl inGX9 18 (by decide) gw_1347 (fun _ h => h) rfl dX9_throwsAway_42 ?_
  refine g_sipush (v := (8192 : Int32)) C dX9_throwsAway_45 (by decide) ?_
  refine g_iload_n C dX9_throwsAway_48 rfl 1 rfl ?_
  refine g_imul C dX9_throwsAway_49 ?_
  refine g_iload_n C dX9_throwsAway_50 rfl 2 rfl ?_
  refine g_iadd C dX9_throwsAway_51 ?_
  refine g_iconst (v := (0 : Int32)) C dX9_throwsAway_52 (by decide) ?_
  obtain ⟨g5, h⟩ := of_guard h
  refine q_iast C hρ (j := 18) (N := 16384) (List.mem_of_getElem? (i := 15) rfl) rfl rfl g5 dX9_throwsAway_53 (fun a6 ea6 => ?_)
  replace h := yl_of h ea6
  obtain ⟨t7, et7⟩ : ∃ y : Int32, x2 + (1 : Int32) = y := ⟨_, rfl⟩
  replace h := yl_of h et7
  refine g_iinc (v := t7) (lv' := [(2, .int t7), (0, .ref (ρ.2.2.2 40 0)), (1, .int x1)]) C dX9_throwsAway_54 2 rfl (by rw [← et7]; rfl) (by decide) rfl ?_
  refine g_goto (tgt := 2) C dX9_throwsAway_57 (by decide) ?_
  refine g_lv [1, 2, 0] rfl ?_
  exact hk2 _ _ _ h
noncomputable def b_X9_throwsAway_2 (k2 : AS → Int32 → Int32 → Option (AS × Int32)) (w : Nat) (a : AS) (x1 x2 : Int32) : Option (AS × Int32) := bif ixB x1 2 then (if (a 5 x1.toNatClampNeg) ≤ x2 then (some (a, (0 : Int32))) else (bif ixB (((8192 : Int32) * x1) + x2) 16384 then (if (a 18 (((8192 : Int32) * x1) + x2).toNatClampNeg) ≤ (0 : Int32) then (b_X9_throwsAway_39 k2 w a x1 x2 (0 : Int32) (a 6 x1.toNatClampNeg) x1) else (b_X9_throwsAway_39 k2 w a x1 x2 (1 : Int32) (a 6 x1.toNatClampNeg) x1)) else none)) else none
set_option maxHeartbeats 4000000 in
set_option maxRecDepth 100000 in
theorem lb_X9_throwsAway_2 {p : Program} {l : Launch} {e : Env} {s : State} {m : MethodId} {args : Array Value} {below : List Frame} {meth : Method} {c : Code} {D : va_G} {E : Nat → ClassId} {sz : Nat} {M : Nat → Nat → Nat → Int32} {a0 : AS} {ρ : YR} {w : Nat} {r0 : AS × Int32} (C : cx p s m args meth c D E (Aof (mx M a0, ρ) [] s.heap.size) cX9_throwsAway 3 "TradeLineModel") (hr : meth.sig.returnType = none) (hz : s.heap.size = sz) (hρ : rsh ρ) {a : AS} {x1 x2 : Int32} {k2 : AS → Int32 → Int32 → Option (AS × Int32)} (hk2 : ∀ (a1 : AS) (z1 z2 : Int32), k2 a1 z1 z2 = some r0 → G p l e ({ frames := 0, cells := 0, slots := 0, locals := 0 } : Room) s m args below meth c D E (Aof (mx M a0, ρ) [] s.heap.size) 3 (MQ below (cQ D E sz (mx M a0, ρ) [] (pV (fun u => u = ((mx M r0.1, ρ), [])))) args s 0 0 (Aof (mx M a0, ρ) [] s.heap.size)) (mx M a1, ρ) [] 0 0 2 [(0, .ref (ρ.2.2.2 40 0)), (1, .int z1), (2, .int z2)] []) (h : b_X9_throwsAway_2 k2 w a x1 x2 = some r0) : G p l e ({ frames := 0, cells := 0, slots := 0, locals := 0 } : Room) s m args below meth c D E (Aof (mx M a0, ρ) [] s.heap.size) 3 (MQ below (cQ D E sz (mx M a0, ρ) [] (pV (fun u => u = ((mx M r0.1, ρ), [])))) args s 0 0 (Aof (mx M a0, ρ) [] s.heap.size)) (mx M a, ρ) [] 0 0 2 [(0, .ref (ρ.2.2.2 40 0)), (1, .int x1), (2, .int x2)] [] := by
  unfold b_X9_throwsAway_2 at h
  refine g_iload_n C dX9_throwsAway_2 rfl 2 rfl ?_
  refine g_aload_n C dX9_throwsAway_3 rfl 0 rfl ?_
  refine g_get (k := 40) (i := 0) (ref := "TradeLineModel") (v := .ref (ρ.2.2.2 (40 + 5) 0)) C rfl (lvY0 hρ) rfl rfl inGX9 5 (by decide) gw_1334 (fun _ h => h) rfl dX9_throwsAway_4 ?_
  refine g_iload_n C dX9_throwsAway_7 rfl 1 rfl ?_
  obtain ⟨g1, h⟩ := of_guard h
  refine q_iald C hρ (j := 5) (N := 2) (List.mem_of_getElem? (i := 2) rfl) rfl rfl g1 dX9_throwsAway_8 ?_
  refine g_icmp_ge (tgt := 60) C dX9_throwsAway_9 (by decide) (fun c9 => ?_) (fun c9 => ?_)
  · replace h := (if_pos c9).symm.trans h
    obtain rfl := Option.some.inj h
    exact g_vret C hr hz ⟨rfl, rfl, fun _ => rfl, fun _ => rfl⟩ rfl (fun j x h => by simp at h) dX9_throwsAway_60
  · replace h := (if_neg c9).symm.trans h
    refine g_aload_n C dX9_throwsAway_12 rfl 0 rfl ?_
    refine g_get (k := 40) (i := 0) (ref := "TradeLineModel") (v := .ref (ρ.2.2.2 (40 + 6) 0)) C rfl (lvY0 hρ) rfl rfl inGX9 6 (by decide) gw_1335 (fun _ h => h) rfl dX9_throwsAway_13 ?_
    refine g_iload_n C dX9_throwsAway_16 rfl 1 rfl ?_
    refine g_dup2 C dX9_throwsAway_17 rfl rfl ?_
    refine q_iald C hρ (j := 6) (N := 2) (List.mem_of_getElem? (i := 3) rfl) rfl rfl g1 dX9_throwsAway_18 ?_
    refine g_aload_n C dX9_throwsAway_19 rfl 0 rfl ?_
    refine g_get (k := 40) (i := 0) (ref := "TradeLineModel") (v := .ref (ρ.2.2.2 (40 + 18) 0)) C rfl (lvY0 hρ) rfl rfl inGX9 18 (by decide) gw_1347 (fun _ h => h) rfl dX9_throwsAway_20 ?_
    refine g_sipush (v := (8192 : Int32)) C dX9_throwsAway_23 (by decide) ?_
    refine g_iload_n C dX9_throwsAway_26 rfl 1 rfl ?_
    refine g_imul C dX9_throwsAway_27 ?_
    refine g_iload_n C dX9_throwsAway_28 rfl 2 rfl ?_
    refine g_iadd C dX9_throwsAway_29 ?_
    obtain ⟨g2, h⟩ := of_guard h
    refine q_iald C hρ (j := 18) (N := 16384) (List.mem_of_getElem? (i := 15) rfl) rfl rfl g2 dX9_throwsAway_30 ?_
    refine g_if_le (tgt := 38) C dX9_throwsAway_31 (by decide) (fun c31 => ?_) (fun c31 => ?_)
    · replace h := (if_pos c31).symm.trans h
      refine g_iconst (v := (0 : Int32)) C dX9_throwsAway_38 (by decide) ?_
      refine g_lv [0, 1, 2] rfl ?_
      exact lb_X9_throwsAway_39 C hr hz hρ hk2 h
    · replace h := (if_neg c31).symm.trans h
      refine g_iconst (v := (1 : Int32)) C dX9_throwsAway_34 (by decide) ?_
      refine g_goto (tgt := 39) C dX9_throwsAway_35 (by decide) ?_
      refine g_lv [0, 1, 2] rfl ?_
      exact lb_X9_throwsAway_39 C hr hz hρ hk2 h
noncomputable def l_X9_throwsAway_2  (w : Nat) : Nat → AS → Int32 → Int32 → Option (AS × Int32)
  | 0 => fun _ _ _ => none
  | n + 1 => fun a x1 x2 => b_X9_throwsAway_2  (l_X9_throwsAway_2  w n) w a x1 x2
theorem ll_X9_throwsAway_2 {p : Program} {l : Launch} {e : Env} {s : State} {m : MethodId} {args : Array Value} {below : List Frame} {meth : Method} {c : Code} {D : va_G} {E : Nat → ClassId} {sz : Nat} {M : Nat → Nat → Nat → Int32} {a0 : AS} {ρ : YR} {w : Nat} {r0 : AS × Int32} (C : cx p s m args meth c D E (Aof (mx M a0, ρ) [] s.heap.size) cX9_throwsAway 3 "TradeLineModel") (hr : meth.sig.returnType = none) (hz : s.heap.size = sz) (hρ : rsh ρ)   : ∀ (n : Nat) (a : AS) (x1 x2 : Int32), l_X9_throwsAway_2  w n a x1 x2 = some r0 → G p l e ({ frames := 0, cells := 0, slots := 0, locals := 0 } : Room) s m args below meth c D E (Aof (mx M a0, ρ) [] s.heap.size) 3 (MQ below (cQ D E sz (mx M a0, ρ) [] (pV (fun u => u = ((mx M r0.1, ρ), [])))) args s 0 0 (Aof (mx M a0, ρ) [] s.heap.size)) (mx M a, ρ) [] 0 0 2 [(0, .ref (ρ.2.2.2 40 0)), (1, .int x1), (2, .int x2)] [] := by
  intro n
  induction n with
  | zero => exact fun a x1 x2 h => absurd (show (none : Option (AS × Int32)) = some r0 from h) (by simp)
  | succ n ih => exact fun a x1 x2 h => lb_X9_throwsAway_2 (w := w) C hr hz hρ  ih h
noncomputable def f_X9_throwsAway  (w : Nat) (a : AS) (x1 : Int32) : Option (AS × Int32) := l_X9_throwsAway_2  w w a x1 (0 : Int32)
set_option maxHeartbeats 4000000 in
set_option maxRecDepth 100000 in
theorem lb_X9_throwsAway_0 {p : Program} {l : Launch} {e : Env} {s : State} {m : MethodId} {args : Array Value} {below : List Frame} {meth : Method} {c : Code} {D : va_G} {E : Nat → ClassId} {sz : Nat} {M : Nat → Nat → Nat → Int32} {a0 : AS} {ρ : YR} {w : Nat} {r0 : AS × Int32} (C : cx p s m args meth c D E (Aof (mx M a0, ρ) [] s.heap.size) cX9_throwsAway 3 "TradeLineModel") (hr : meth.sig.returnType = none) (hz : s.heap.size = sz) (hρ : rsh ρ) {a : AS} {x1 : Int32}   (h : f_X9_throwsAway  w a x1 = some r0) : G p l e ({ frames := 0, cells := 0, slots := 0, locals := 0 } : Room) s m args below meth c D E (Aof (mx M a0, ρ) [] s.heap.size) 3 (MQ below (cQ D E sz (mx M a0, ρ) [] (pV (fun u => u = ((mx M r0.1, ρ), [])))) args s 0 0 (Aof (mx M a0, ρ) [] s.heap.size)) (mx M a, ρ) [] 0 0 0 [(0, .ref (ρ.2.2.2 40 0)), (1, .int x1)] [] := by
  unfold f_X9_throwsAway at h
  refine g_iconst (v := (0 : Int32)) C dX9_throwsAway_0 (by decide) ?_
  refine g_istore_n (lv' := [(2, .int (0 : Int32)), (0, .ref (ρ.2.2.2 40 0)), (1, .int x1)]) C dX9_throwsAway_1 rfl (by decide) rfl ?_
  refine g_lv [1, 2, 0] rfl ?_
  exact ll_X9_throwsAway_2 C hr hz hρ  w _ _ _ h
theorem k_X9_throwsAway (l : Launch) (M : Nat → Nat → Nat → Int32) (ρ : YR) (hρ : rsh ρ) (w : Nat) (a : AS) (x1 : Int32) (r0 : AS × Int32) (h : f_X9_throwsAway w a x1 = some r0) : ∀ D E sz, Met l yX9_throwsAway gwX9_throwsAway ({ frames := 0, cells := 0, slots := 0, locals := 0 } : Room) (cP D E sz (mx M a, ρ) [] [.ref (ρ.2.2.2 40 0), .int x1]) (cQ D E sz (mx M a, ρ) [] (pV (fun u => u = ((mx M r0.1, ρ), [])))) (0) (0) (Aof (mx M a, ρ) [] sz) := by
  intro D E sz
  refine g_of (cc := cX9_throwsAway) (maxL := 3) (ret := none) (own := "TradeLineModel") (by decide) rfl rfl (Nat.le_of_ble_eq_true rfl) ?_
  intro p e s m args below meth c C hr hin hz ha hwr
  refine g_lv [0, 1] rfl ?_
  exact lb_X9_throwsAway_0 C hr hz hρ h
noncomputable def b_X9_takesHeld_83 (k5 : AS → Int32 → Option (AS × Int32)) (w : Nat) (a : AS) (x1 s0 s1 s2 : Int32) : Option (AS × Int32) := (f_X9_takes w a s2 s1 s0).bind (fun v9 => (f_X9_throwsAway w v9.1 x1).bind (fun v10 => k5 v10.1 x1))
set_option maxHeartbeats 4000000 in
set_option maxRecDepth 100000 in
theorem lb_X9_takesHeld_83 {p : Program} {l : Launch} {e : Env} {s : State} {m : MethodId} {args : Array Value} {below : List Frame} {meth : Method} {c : Code} {D : va_G} {E : Nat → ClassId} {sz : Nat} {M : Nat → Nat → Nat → Int32} {a0 : AS} {ρ : YR} {w : Nat} {r0 : AS × Int32} (C : cx p s m args meth c D E (Aof (mx M a0, ρ) [] s.heap.size) cX9_takesHeld 4 "TradeLineModel") (hr : meth.sig.returnType = none) (hz : s.heap.size = sz) (hρ : rsh ρ) {a : AS} {x1 s0 s1 s2 : Int32} {k5 : AS → Int32 → Option (AS × Int32)} (hk5 : ∀ (a1 : AS) (z1 : Int32), k5 a1 z1 = some r0 → G p l e ({ frames := 7, cells := 0, slots := 0, locals := 168 } : Room) s m args below meth c D E (Aof (mx M a0, ρ) [] s.heap.size) 4 (MQ below (cQ D E sz (mx M a0, ρ) [] (pV (fun u => u = ((mx M r0.1, ρ), [])))) args s 0 0 (Aof (mx M a0, ρ) [] s.heap.size)) (mx M a1, ρ) [] 0 0 5 [(0, .ref (ρ.2.2.2 40 0)), (1, .int z1)] []) (h : b_X9_takesHeld_83 k5 w a x1 s0 s1 s2 = some r0) : G p l e ({ frames := 7, cells := 0, slots := 0, locals := 168 } : Room) s m args below meth c D E (Aof (mx M a0, ρ) [] s.heap.size) 4 (MQ below (cQ D E sz (mx M a0, ρ) [] (pV (fun u => u = ((mx M r0.1, ρ), [])))) args s 0 0 (Aof (mx M a0, ρ) [] s.heap.size)) (mx M a, ρ) [] 0 0 83 [(0, .ref (ρ.2.2.2 40 0)), (1, .int x1)] [.int s0, .int s1, .int s2, .ref (ρ.2.2.2 40 0)] := by
  unfold b_X9_takesHeld_83 at h
  obtain ⟨v9, hv9, h⟩ := bind_of h
  refine g_cVv (n := 3) (exc := []) (exr := []) C [_, _, _] _ rfl rfl [] [] rfl rfl rfl rfl (fun _ h => absurd h (by simp)) (fun _ h => absurd h (by simp)) (fun _ h => absurd h (by simp)) (fun sz => k_X9_takes l M ρ hρ w _ _ _ _ _ hv9 D E sz) rfl gw_1527 gw_9 gw_1524 gw_1526 gs_50 ⟨by decide +kernel, by decide +kernel, by decide +kernel⟩ ⟨rfl, rfl⟩ ⟨Nat.le_of_ble_eq_true rfl, Nat.le_of_ble_eq_true rfl⟩ (rcvT (lvY0 hρ) rfl rfl rfl) (Nat.le_of_ble_eq_true rfl) dX9_takesHeld_83 ⟨by decide, by decide⟩ (fun u hp hx => ?_)
  obtain rfl := hp
  try dsimp only [List.append_nil]
  refine g_aload_n C dX9_takesHeld_86 rfl 0 rfl ?_
  refine g_iload_n C dX9_takesHeld_87 rfl 1 rfl ?_
  obtain ⟨v10, hv10, h⟩ := bind_of h
  refine g_cVv (n := 1) (exc := []) (exr := []) C [_] _ rfl rfl [] [] rfl rfl rfl rfl (fun _ h => absurd h (by simp)) (fun _ h => absurd h (by simp)) (fun _ h => absurd h (by simp)) (fun sz => k_X9_throwsAway l M ρ hρ w _ _ _ hv10 D E sz) rfl gw_1575 gw_9 gw_1572 gw_1574 gs_62 ⟨by decide +kernel, by decide +kernel, by decide +kernel⟩ ⟨rfl, rfl⟩ ⟨Nat.le_of_ble_eq_true rfl, Nat.le_of_ble_eq_true rfl⟩ (rcvT (lvY0 hρ) rfl rfl rfl) (Nat.le_of_ble_eq_true rfl) dX9_takesHeld_88 ⟨by decide, by decide⟩ (fun u hp hx => ?_)
  obtain rfl := hp
  try dsimp only [List.append_nil]
  refine g_goto (tgt := 5) C dX9_takesHeld_91 (by decide) ?_
  refine g_lv [0, 1] rfl ?_
  exact hk5 _ _ h
noncomputable def b_X9_takesHeld_5 (k5 : AS → Int32 → Option (AS × Int32)) (w : Nat) (a : AS) (x1 : Int32) : Option (AS × Int32) := bif ixB x1 2 then bif ixB (((8192 : Int32) * x1) + (a 5 x1.toNatClampNeg)) 16384 then (if (a 18 (((8192 : Int32) * x1) + (a 5 x1.toNatClampNeg)).toNatClampNeg) ≤ (0 : Int32) then (some (a, (0 : Int32))) else (yl ((a 5 x1.toNatClampNeg)) (fun t4 => bif ixB (((8192 : Int32) * x1) + t4) 16384 then yl ((a 18 (((8192 : Int32) * x1) + t4).toNatClampNeg)) (fun t6 => yl (up2 a 18 (((8192 : Int32) * x1) + t4).toNatClampNeg (0 : Int32)) (fun a7 => yl (up2 a7 6 x1.toNatClampNeg ((a7 6 x1.toNatClampNeg) - (1 : Int32))) (fun a8 => (if t6 = (1 : Int32) then (b_X9_takesHeld_83 k5 w a8 x1 (0 : Int32) t4 x1) else (b_X9_takesHeld_83 k5 w a8 x1 (t6 - (2 : Int32)) t4 x1))))) else none))) else none else none
set_option maxHeartbeats 4000000 in
set_option maxRecDepth 100000 in
theorem lb_X9_takesHeld_5 {p : Program} {l : Launch} {e : Env} {s : State} {m : MethodId} {args : Array Value} {below : List Frame} {meth : Method} {c : Code} {D : va_G} {E : Nat → ClassId} {sz : Nat} {M : Nat → Nat → Nat → Int32} {a0 : AS} {ρ : YR} {w : Nat} {r0 : AS × Int32} (C : cx p s m args meth c D E (Aof (mx M a0, ρ) [] s.heap.size) cX9_takesHeld 4 "TradeLineModel") (hr : meth.sig.returnType = none) (hz : s.heap.size = sz) (hρ : rsh ρ) {a : AS} {x1 : Int32} {k5 : AS → Int32 → Option (AS × Int32)} (hk5 : ∀ (a1 : AS) (z1 : Int32), k5 a1 z1 = some r0 → G p l e ({ frames := 7, cells := 0, slots := 0, locals := 168 } : Room) s m args below meth c D E (Aof (mx M a0, ρ) [] s.heap.size) 4 (MQ below (cQ D E sz (mx M a0, ρ) [] (pV (fun u => u = ((mx M r0.1, ρ), [])))) args s 0 0 (Aof (mx M a0, ρ) [] s.heap.size)) (mx M a1, ρ) [] 0 0 5 [(0, .ref (ρ.2.2.2 40 0)), (1, .int z1)] []) (h : b_X9_takesHeld_5 k5 w a x1 = some r0) : G p l e ({ frames := 7, cells := 0, slots := 0, locals := 168 } : Room) s m args below meth c D E (Aof (mx M a0, ρ) [] s.heap.size) 4 (MQ below (cQ D E sz (mx M a0, ρ) [] (pV (fun u => u = ((mx M r0.1, ρ), [])))) args s 0 0 (Aof (mx M a0, ρ) [] s.heap.size)) (mx M a, ρ) [] 0 0 5 [(0, .ref (ρ.2.2.2 40 0)), (1, .int x1)] [] := by
  unfold b_X9_takesHeld_5 at h
  refine g_aload_n C dX9_takesHeld_5 rfl 0 rfl ?_
  refine g_get (k := 40) (i := 0) (ref := "TradeLineModel") (v := .ref (ρ.2.2.2 (40 + 18) 0)) C rfl (lvY0 hρ) rfl rfl inGX9 18 (by decide) gw_1347 (fun _ h => h) rfl dX9_takesHeld_6 ?_
  refine g_sipush (v := (8192 : Int32)) C dX9_takesHeld_9 (by decide) ?_
  refine g_iload_n C dX9_takesHeld_12 rfl 1 rfl ?_
  refine g_imul C dX9_takesHeld_13 ?_
  refine g_aload_n C dX9_takesHeld_14 rfl 0 rfl ?_
  refine g_get (k := 40) (i := 0) (ref := "TradeLineModel") (v := .ref (ρ.2.2.2 (40 + 5) 0)) C rfl (lvY0 hρ) rfl rfl inGX9 5 (by decide) gw_1334 (fun _ h => h) rfl dX9_takesHeld_15 ?_
  refine g_iload_n C dX9_takesHeld_18 rfl 1 rfl ?_
  obtain ⟨g2, h⟩ := of_guard h
  refine q_iald C hρ (j := 5) (N := 2) (List.mem_of_getElem? (i := 2) rfl) rfl rfl g2 dX9_takesHeld_19 ?_
  refine g_iadd C dX9_takesHeld_20 ?_
  obtain ⟨g3, h⟩ := of_guard h
  refine q_iald C hρ (j := 18) (N := 16384) (List.mem_of_getElem? (i := 15) rfl) rfl rfl g3 dX9_takesHeld_21 ?_
  refine g_if_le (tgt := 94) C dX9_takesHeld_22 (by decide) (fun c22 => ?_) (fun c22 => ?_)
  · replace h := (if_pos c22).symm.trans h
    obtain rfl := Option.some.inj h
    exact g_vret C hr hz ⟨rfl, rfl, fun _ => rfl, fun _ => rfl⟩ rfl (fun j x h => by simp at h) dX9_takesHeld_94
  · replace h := (if_neg c22).symm.trans h
    refine g_aload_n C dX9_takesHeld_25 rfl 0 rfl ?_
    refine g_get (k := 40) (i := 0) (ref := "TradeLineModel") (v := .ref (ρ.2.2.2 (40 + 5) 0)) C rfl (lvY0 hρ) rfl rfl inGX9 5 (by decide) gw_1334 (fun _ h => h) rfl dX9_takesHeld_26 ?_
    refine g_iload_n C dX9_takesHeld_29 rfl 1 rfl ?_
    refine q_iald C hρ (j := 5) (N := 2) (List.mem_of_getElem? (i := 2) rfl) rfl rfl g2 dX9_takesHeld_30 ?_
    refine q_topi (fun t4 et4 => ?_)
    replace h := yl_of h et4
    refine g_istore_n (lv' := [(2, .int t4), (0, .ref (ρ.2.2.2 40 0)), (1, .int x1)]) C dX9_takesHeld_31 rfl (by decide) rfl ?_
    refine g_aload_n C dX9_takesHeld_32 rfl 1 rfl ?_
    refine g_get (k := 40) (i := 0) (ref := "TradeLineModel") (v := .ref (ρ.2.2.2 (40 + 18) 0)) C rfl (lvY0 hρ) rfl rfl inGX9 18 (by decide) gw_1347 (fun _ h => h) rfl dX9_takesHeld_33 ?_
    refine g_sipush (v := (8192 : Int32)) C dX9_takesHeld_36 (by decide) ?_
    refine g_iload_n C dX9_takesHeld_39 rfl 2 rfl ?_
    refine g_imul C dX9_takesHeld_40 ?_
    refine g_iload_n C dX9_takesHeld_41 rfl 0 rfl ?_
    refine g_iadd C dX9_takesHeld_42 ?_
    obtain ⟨g5, h⟩ := of_guard h
    refine q_iald C hρ (j := 18) (N := 16384) (List.mem_of_getElem? (i := 15) rfl) rfl rfl g5 dX9_takesHeld_43 ?_
    refine q_topi (fun t6 et6 => ?_)
    replace h := yl_of h et6
    refine g_istore_n (lv' := [(3, .int t6), (2, .int t4), (0, .ref (ρ.2.2.2 40 0)), (1, .int x1)]) C dX9_takesHeld_44 rfl (by decide) rfl ?_
    refine g_aload_n C dX9_takesHeld_45 rfl 2 rfl ?_
    refine g_get (k := 40) (i := 0) (ref := "TradeLineModel") (v := .ref (ρ.2.2.2 (40 + 18) 0)) C rfl (lvY0 hρ) rfl rfl inGX9 18 (by decide) gw_1347 (fun _ h => h) rfl dX9_takesHeld_46 ?_
    refine g_sipush (v := (8192 : Int32)) C dX9_takesHeld_49 (by decide) ?_
    refine g_iload_n C dX9_takesHeld_52 rfl 3 rfl ?_
    refine g_imul C dX9_takesHeld_53 ?_
    refine g_iload_n C dX9_takesHeld_54 rfl 1 rfl ?_
    refine g_iadd C dX9_takesHeld_55 ?_
    refine g_iconst (v := (0 : Int32)) C dX9_takesHeld_56 (by decide) ?_
    refine q_iast C hρ (j := 18) (N := 16384) (List.mem_of_getElem? (i := 15) rfl) rfl rfl g5 dX9_takesHeld_57 (fun a7 ea7 => ?_)
    replace h := yl_of h ea7
    refine g_aload_n C dX9_takesHeld_58 rfl 2 rfl ?_
    refine g_get (k := 40) (i := 0) (ref := "TradeLineModel") (v := .ref (ρ.2.2.2 (40 + 6) 0)) C rfl (lvY0 hρ) rfl rfl inGX9 6 (by decide) gw_1335 (fun _ h => h) rfl dX9_takesHeld_59 ?_
    refine g_iload_n C dX9_takesHeld_62 rfl 3 rfl ?_
    refine g_dup2 C dX9_takesHeld_63 rfl rfl ?_
    refine q_iald C hρ (j := 6) (N := 2) (List.mem_of_getElem? (i := 3) rfl) rfl rfl g2 dX9_takesHeld_64 ?_
    refine g_iconst (v := (1 : Int32)) C dX9_takesHeld_65 (by decide) ?_
    refine g_isub C dX9_takesHeld_66 ?_
    refine q_iast C hρ (j := 6) (N := 2) (List.mem_of_getElem? (i := 3) rfl) rfl rfl g2 dX9_takesHeld_67 (fun a8 ea8 => ?_)
    replace h := yl_of h ea8
    refine g_aload_n C dX9_takesHeld_68 rfl 2 rfl ?_
    refine g_iload_n C dX9_takesHeld_69 rfl 3 rfl ?_
    refine g_iload_n C dX9_takesHeld_70 rfl 1 rfl ?_
    refine g_iload_n C dX9_takesHeld_71 rfl 0 rfl ?_
    refine g_iconst (v := (1 : Int32)) C dX9_takesHeld_72 (by decide) ?_
    refine g_icmp_ne (tgt := 80) C dX9_takesHeld_73 (by decide) (fun c73 => ?_) (fun c73 => ?_)
    · replace h := (if_neg c73).symm.trans h
      refine g_iload_n C dX9_takesHeld_80 rfl 0 rfl ?_
      refine g_iconst (v := (2 : Int32)) C dX9_takesHeld_81 (by decide) ?_
      refine g_isub C dX9_takesHeld_82 ?_
      refine g_lv [2, 3] rfl ?_
      exact lb_X9_takesHeld_83 C hr hz hρ hk5 h
    · replace h := (if_pos c73).symm.trans h
      refine g_iconst (v := (0 : Int32)) C dX9_takesHeld_76 (by decide) ?_
      refine g_goto (tgt := 83) C dX9_takesHeld_77 (by decide) ?_
      refine g_lv [2, 3] rfl ?_
      exact lb_X9_takesHeld_83 C hr hz hρ hk5 h
noncomputable def l_X9_takesHeld_5  (w : Nat) : Nat → AS → Int32 → Option (AS × Int32)
  | 0 => fun _ _ => none
  | n + 1 => fun a x1 => b_X9_takesHeld_5  (l_X9_takesHeld_5  w n) w a x1
theorem ll_X9_takesHeld_5 {p : Program} {l : Launch} {e : Env} {s : State} {m : MethodId} {args : Array Value} {below : List Frame} {meth : Method} {c : Code} {D : va_G} {E : Nat → ClassId} {sz : Nat} {M : Nat → Nat → Nat → Int32} {a0 : AS} {ρ : YR} {w : Nat} {r0 : AS × Int32} (C : cx p s m args meth c D E (Aof (mx M a0, ρ) [] s.heap.size) cX9_takesHeld 4 "TradeLineModel") (hr : meth.sig.returnType = none) (hz : s.heap.size = sz) (hρ : rsh ρ)   : ∀ (n : Nat) (a : AS) (x1 : Int32), l_X9_takesHeld_5  w n a x1 = some r0 → G p l e ({ frames := 7, cells := 0, slots := 0, locals := 168 } : Room) s m args below meth c D E (Aof (mx M a0, ρ) [] s.heap.size) 4 (MQ below (cQ D E sz (mx M a0, ρ) [] (pV (fun u => u = ((mx M r0.1, ρ), [])))) args s 0 0 (Aof (mx M a0, ρ) [] s.heap.size)) (mx M a, ρ) [] 0 0 5 [(0, .ref (ρ.2.2.2 40 0)), (1, .int x1)] [] := by
  intro n
  induction n with
  | zero => exact fun a x1 h => absurd (show (none : Option (AS × Int32)) = some r0 from h) (by simp)
  | succ n ih => exact fun a x1 h => lb_X9_takesHeld_5 (w := w) C hr hz hρ  ih h
noncomputable def f_X9_takesHeld  (w : Nat) (a : AS) (x1 : Int32) : Option (AS × Int32) := (f_X9_throwsAway w a x1).bind (fun v1 => l_X9_takesHeld_5  w w v1.1 x1)
set_option maxHeartbeats 4000000 in
set_option maxRecDepth 100000 in
theorem lb_X9_takesHeld_0 {p : Program} {l : Launch} {e : Env} {s : State} {m : MethodId} {args : Array Value} {below : List Frame} {meth : Method} {c : Code} {D : va_G} {E : Nat → ClassId} {sz : Nat} {M : Nat → Nat → Nat → Int32} {a0 : AS} {ρ : YR} {w : Nat} {r0 : AS × Int32} (C : cx p s m args meth c D E (Aof (mx M a0, ρ) [] s.heap.size) cX9_takesHeld 4 "TradeLineModel") (hr : meth.sig.returnType = none) (hz : s.heap.size = sz) (hρ : rsh ρ) {a : AS} {x1 : Int32}   (h : f_X9_takesHeld  w a x1 = some r0) : G p l e ({ frames := 7, cells := 0, slots := 0, locals := 168 } : Room) s m args below meth c D E (Aof (mx M a0, ρ) [] s.heap.size) 4 (MQ below (cQ D E sz (mx M a0, ρ) [] (pV (fun u => u = ((mx M r0.1, ρ), [])))) args s 0 0 (Aof (mx M a0, ρ) [] s.heap.size)) (mx M a, ρ) [] 0 0 0 [(0, .ref (ρ.2.2.2 40 0)), (1, .int x1)] [] := by
  unfold f_X9_takesHeld at h
  refine g_aload_n C dX9_takesHeld_0 rfl 0 rfl ?_
  refine g_iload_n C dX9_takesHeld_1 rfl 1 rfl ?_
  obtain ⟨v1, hv1, h⟩ := bind_of h
  refine g_cVv (n := 1) (exc := []) (exr := []) C [_] _ rfl rfl [] [] rfl rfl rfl rfl (fun _ h => absurd h (by simp)) (fun _ h => absurd h (by simp)) (fun _ h => absurd h (by simp)) (fun sz => k_X9_throwsAway l M ρ hρ w _ _ _ hv1 D E sz) rfl gw_1575 gw_9 gw_1572 gw_1574 gs_62 ⟨by decide +kernel, by decide +kernel, by decide +kernel⟩ ⟨rfl, rfl⟩ ⟨Nat.le_of_ble_eq_true rfl, Nat.le_of_ble_eq_true rfl⟩ (rcvT (lvY0 hρ) rfl rfl rfl) (Nat.le_of_ble_eq_true rfl) dX9_takesHeld_2 ⟨by decide, by decide⟩ (fun u hp hx => ?_)
  obtain rfl := hp
  try dsimp only [List.append_nil]
  refine g_lv [0, 1] rfl ?_
  exact ll_X9_takesHeld_5 C hr hz hρ  w _ _ h
theorem k_X9_takesHeld (l : Launch) (M : Nat → Nat → Nat → Int32) (ρ : YR) (hρ : rsh ρ) (w : Nat) (a : AS) (x1 : Int32) (r0 : AS × Int32) (h : f_X9_takesHeld w a x1 = some r0) : ∀ D E sz, Met l yX9_takesHeld gwX9_takesHeld ({ frames := 7, cells := 0, slots := 0, locals := 168 } : Room) (cP D E sz (mx M a, ρ) [] [.ref (ρ.2.2.2 40 0), .int x1]) (cQ D E sz (mx M a, ρ) [] (pV (fun u => u = ((mx M r0.1, ρ), [])))) (0) (0) (Aof (mx M a, ρ) [] sz) := by
  intro D E sz
  refine g_of (cc := cX9_takesHeld) (maxL := 4) (ret := none) (own := "TradeLineModel") (by decide) rfl rfl (Nat.le_of_ble_eq_true rfl) ?_
  intro p e s m args below meth c C hr hin hz ha hwr
  refine g_lv [0, 1] rfl ?_
  exact lb_X9_takesHeld_0 C hr hz hρ h
noncomputable def b_X9_holdsBack_81  (w : Nat) (a : AS) (x1 : Int32) : Option (AS × Int32) := bif ixB x1 2 then yl (up2 a 7 x1.toNatClampNeg (a 5 x1.toNatClampNeg)) (fun a10 => yl (up2 a10 8 x1.toNatClampNeg (a10 0 1)) (fun a11 => (f_X9_sends w a11 x1 (3 : Int32) (a11 5 x1.toNatClampNeg) (0 : Int32) (0 : Int32) (0 : Int32)).bind (fun v12 => some (v12.1, (0 : Int32))))) else none
set_option maxHeartbeats 4000000 in
set_option maxRecDepth 100000 in
theorem lb_X9_holdsBack_81 {p : Program} {l : Launch} {e : Env} {s : State} {m : MethodId} {args : Array Value} {below : List Frame} {meth : Method} {c : Code} {D : va_G} {E : Nat → ClassId} {sz : Nat} {M : Nat → Nat → Nat → Int32} {a0 : AS} {ρ : YR} {w : Nat} {r0 : AS × Int32} (C : cx p s m args meth c D E (Aof (mx M a0, ρ) [] s.heap.size) cX9_holdsBack 5 "TradeLineModel") (hr : meth.sig.returnType = none) (hz : s.heap.size = sz) (hρ : rsh ρ) {a : AS} {x1 : Int32}   (h : b_X9_holdsBack_81  w a x1 = some r0) : G p l e ({ frames := 3, cells := 0, slots := 0, locals := 73 } : Room) s m args below meth c D E (Aof (mx M a0, ρ) [] s.heap.size) 5 (MQ below (cQ D E sz (mx M a0, ρ) [] (pV (fun u => u = ((mx M r0.1, ρ), [])))) args s 0 0 (Aof (mx M a0, ρ) [] s.heap.size)) (mx M a, ρ) [] 0 0 81 [(0, .ref (ρ.2.2.2 40 0)), (1, .int x1)] [] := by
  unfold b_X9_holdsBack_81 at h
  refine g_aload_n C dX9_holdsBack_81 rfl 0 rfl ?_
  refine g_get (k := 40) (i := 0) (ref := "TradeLineModel") (v := .ref (ρ.2.2.2 (40 + 7) 0)) C rfl (lvY0 hρ) rfl rfl inGX9 7 (by decide) gw_1336 (fun _ h => h) rfl dX9_holdsBack_82 ?_
  refine g_iload_n C dX9_holdsBack_85 rfl 1 rfl ?_
  refine g_aload_n C dX9_holdsBack_86 rfl 0 rfl ?_
  refine g_get (k := 40) (i := 0) (ref := "TradeLineModel") (v := .ref (ρ.2.2.2 (40 + 5) 0)) C rfl (lvY0 hρ) rfl rfl inGX9 5 (by decide) gw_1334 (fun _ h => h) rfl dX9_holdsBack_87 ?_
  refine g_iload_n C dX9_holdsBack_90 rfl 1 rfl ?_
  obtain ⟨g9, h⟩ := of_guard h
  refine q_iald C hρ (j := 5) (N := 2) (List.mem_of_getElem? (i := 2) rfl) rfl rfl g9 dX9_holdsBack_91 ?_
  refine q_iast C hρ (j := 7) (N := 2) (List.mem_of_getElem? (i := 4) rfl) rfl rfl g9 dX9_holdsBack_92 (fun a10 ea10 => ?_)
  replace h := yl_of h ea10
  refine g_aload_n C dX9_holdsBack_93 rfl 0 rfl ?_
  refine g_get (k := 40) (i := 0) (ref := "TradeLineModel") (v := .ref (ρ.2.2.2 (40 + 8) 0)) C rfl (lvY0 hρ) rfl rfl inGX9 8 (by decide) gw_1337 (fun _ h => h) rfl dX9_holdsBack_94 ?_
  refine g_iload_n C dX9_holdsBack_97 rfl 1 rfl ?_
  refine g_aload_n C dX9_holdsBack_98 rfl 0 rfl ?_
  refine g_get (k := 40) (i := 0) (ref := "TradeLineModel") (v := .int (a10 0 1)) C rfl (lvY0 hρ) rfl rfl inGX9 1 (by decide) gw_1330 (fun _ h => h) rfl dX9_holdsBack_99 ?_
  refine q_iast C hρ (j := 8) (N := 2) (List.mem_of_getElem? (i := 5) rfl) rfl rfl g9 dX9_holdsBack_102 (fun a11 ea11 => ?_)
  replace h := yl_of h ea11
  refine g_aload_n C dX9_holdsBack_103 rfl 0 rfl ?_
  refine g_iload_n C dX9_holdsBack_104 rfl 1 rfl ?_
  refine g_iconst (v := (3 : Int32)) C dX9_holdsBack_105 (by decide) ?_
  refine g_aload_n C dX9_holdsBack_106 rfl 0 rfl ?_
  refine g_get (k := 40) (i := 0) (ref := "TradeLineModel") (v := .ref (ρ.2.2.2 (40 + 5) 0)) C rfl (lvY0 hρ) rfl rfl inGX9 5 (by decide) gw_1334 (fun _ h => h) rfl dX9_holdsBack_107 ?_
  refine g_iload_n C dX9_holdsBack_110 rfl 1 rfl ?_
  refine q_iald C hρ (j := 5) (N := 2) (List.mem_of_getElem? (i := 2) rfl) rfl rfl g9 dX9_holdsBack_111 ?_
  refine g_iconst (v := (0 : Int32)) C dX9_holdsBack_112 (by decide) ?_
  refine g_iconst (v := (0 : Int32)) C dX9_holdsBack_113 (by decide) ?_
  refine g_iconst (v := (0 : Int32)) C dX9_holdsBack_114 (by decide) ?_
  obtain ⟨v12, hv12, h⟩ := bind_of h
  refine g_cVv (n := 6) (exc := []) (exr := []) C [_, _, _, _, _, _] _ rfl rfl [] [] rfl rfl rfl rfl (fun _ h => absurd h (by simp)) (fun _ h => absurd h (by simp)) (fun _ h => absurd h (by simp)) (fun sz => k_X9_sends l M ρ hρ w _ _ _ _ _ _ _ _ hv12 D E sz) rfl gw_1476 gw_9 gw_1473 gw_1475 gs_41 ⟨by decide +kernel, by decide +kernel, by decide +kernel⟩ ⟨rfl, rfl⟩ ⟨Nat.le_of_ble_eq_true rfl, Nat.le_of_ble_eq_true rfl⟩ (rcvT (lvY0 hρ) rfl rfl rfl) (Nat.le_of_ble_eq_true rfl) dX9_holdsBack_115 ⟨by decide, by decide⟩ (fun u hp hx => ?_)
  obtain rfl := hp
  try dsimp only [List.append_nil]
  obtain rfl := Option.some.inj h
  exact g_vret C hr hz ⟨rfl, rfl, fun _ => rfl, fun _ => rfl⟩ rfl (fun j x h => by simp at h) dX9_holdsBack_118
noncomputable def b_X9_holdsBack_50  (w : Nat) (a : AS) (x1 s0 s1 : Int32) : Option (AS × Int32) := bif ixB s1 16384 then yl (up2 a 18 s1.toNatClampNeg s0) (fun a7 => bif ixB x1 2 then (if (a7 7 x1.toNatClampNeg) = (a7 5 x1.toNatClampNeg) then ((if ((a7 0 1) - (a7 8 x1.toNatClampNeg)) < (5 : Int32) then (some (a7, (0 : Int32))) else (b_X9_holdsBack_81  w a7 x1))) else (b_X9_holdsBack_81  w a7 x1)) else none) else none
set_option maxHeartbeats 4000000 in
set_option maxRecDepth 100000 in
theorem lb_X9_holdsBack_50 {p : Program} {l : Launch} {e : Env} {s : State} {m : MethodId} {args : Array Value} {below : List Frame} {meth : Method} {c : Code} {D : va_G} {E : Nat → ClassId} {sz : Nat} {M : Nat → Nat → Nat → Int32} {a0 : AS} {ρ : YR} {w : Nat} {r0 : AS × Int32} (C : cx p s m args meth c D E (Aof (mx M a0, ρ) [] s.heap.size) cX9_holdsBack 5 "TradeLineModel") (hr : meth.sig.returnType = none) (hz : s.heap.size = sz) (hρ : rsh ρ) {a : AS} {x1 s0 s1 : Int32}   (h : b_X9_holdsBack_50  w a x1 s0 s1 = some r0) : G p l e ({ frames := 3, cells := 0, slots := 0, locals := 73 } : Room) s m args below meth c D E (Aof (mx M a0, ρ) [] s.heap.size) 5 (MQ below (cQ D E sz (mx M a0, ρ) [] (pV (fun u => u = ((mx M r0.1, ρ), [])))) args s 0 0 (Aof (mx M a0, ρ) [] s.heap.size)) (mx M a, ρ) [] 0 0 50 [(0, .ref (ρ.2.2.2 40 0)), (1, .int x1)] [.int s0, .int s1, .ref (ρ.2.2.2 (40 + 18) 0)] := by
  unfold b_X9_holdsBack_50 at h
  obtain ⟨g6, h⟩ := of_guard h
  refine q_iast C hρ (j := 18) (N := 16384) (List.mem_of_getElem? (i := 15) rfl) rfl rfl g6 dX9_holdsBack_50 (fun a7 ea7 => ?_)
  replace h := yl_of h ea7
  refine g_aload_n C dX9_holdsBack_51 rfl 0 rfl ?_
  refine g_get (k := 40) (i := 0) (ref := "TradeLineModel") (v := .ref (ρ.2.2.2 (40 + 7) 0)) C rfl (lvY0 hρ) rfl rfl inGX9 7 (by decide) gw_1336 (fun _ h => h) rfl dX9_holdsBack_52 ?_
  refine g_iload_n C dX9_holdsBack_55 rfl 1 rfl ?_
  obtain ⟨g8, h⟩ := of_guard h
  refine q_iald C hρ (j := 7) (N := 2) (List.mem_of_getElem? (i := 4) rfl) rfl rfl g8 dX9_holdsBack_56 ?_
  refine g_aload_n C dX9_holdsBack_57 rfl 0 rfl ?_
  refine g_get (k := 40) (i := 0) (ref := "TradeLineModel") (v := .ref (ρ.2.2.2 (40 + 5) 0)) C rfl (lvY0 hρ) rfl rfl inGX9 5 (by decide) gw_1334 (fun _ h => h) rfl dX9_holdsBack_58 ?_
  refine g_iload_n C dX9_holdsBack_61 rfl 1 rfl ?_
  refine q_iald C hρ (j := 5) (N := 2) (List.mem_of_getElem? (i := 2) rfl) rfl rfl g8 dX9_holdsBack_62 ?_
  refine g_icmp_ne (tgt := 81) C dX9_holdsBack_63 (by decide) (fun c63 => ?_) (fun c63 => ?_)
  · replace h := (if_neg c63).symm.trans h
    refine g_lv [0, 1] rfl ?_
    exact lb_X9_holdsBack_81 C hr hz hρ  h
  · replace h := (if_pos c63).symm.trans h
    refine g_aload_n C dX9_holdsBack_66 rfl 0 rfl ?_
    refine g_get (k := 40) (i := 0) (ref := "TradeLineModel") (v := .int (a7 0 1)) C rfl (lvY0 hρ) rfl rfl inGX9 1 (by decide) gw_1330 (fun _ h => h) rfl dX9_holdsBack_67 ?_
    refine g_aload_n C dX9_holdsBack_70 rfl 0 rfl ?_
    refine g_get (k := 40) (i := 0) (ref := "TradeLineModel") (v := .ref (ρ.2.2.2 (40 + 8) 0)) C rfl (lvY0 hρ) rfl rfl inGX9 8 (by decide) gw_1337 (fun _ h => h) rfl dX9_holdsBack_71 ?_
    refine g_iload_n C dX9_holdsBack_74 rfl 1 rfl ?_
    refine q_iald C hρ (j := 8) (N := 2) (List.mem_of_getElem? (i := 5) rfl) rfl rfl g8 dX9_holdsBack_75 ?_
    refine g_isub C dX9_holdsBack_76 ?_
    refine g_iconst (v := (5 : Int32)) C dX9_holdsBack_77 (by decide) ?_
    refine g_icmp_lt (tgt := 118) C dX9_holdsBack_78 (by decide) (fun c78 => ?_) (fun c78 => ?_)
    · replace h := (if_pos c78).symm.trans h
      obtain rfl := Option.some.inj h
      exact g_vret C hr hz ⟨rfl, rfl, fun _ => rfl, fun _ => rfl⟩ rfl (fun j x h => by simp at h) dX9_holdsBack_118
    · replace h := (if_neg c78).symm.trans h
      refine g_lv [0, 1] rfl ?_
      exact lb_X9_holdsBack_81 C hr hz hρ  h
noncomputable def b_X9_holdsBack_31  (w : Nat) (a : AS) (x1 x3 x4 s0 s1 s2 : Int32) : Option (AS × Int32) := bif ixB s2 2 then yl (up2 a 6 s2.toNatClampNeg (s1 + s0)) (fun a5 => (if x3 = (0 : Int32) then (b_X9_holdsBack_50  w a5 x1 (1 : Int32) x4) else (b_X9_holdsBack_50  w a5 x1 (x3 + (2 : Int32)) x4))) else none
set_option maxHeartbeats 4000000 in
set_option maxRecDepth 100000 in
theorem lb_X9_holdsBack_31 {p : Program} {l : Launch} {e : Env} {s : State} {m : MethodId} {args : Array Value} {below : List Frame} {meth : Method} {c : Code} {D : va_G} {E : Nat → ClassId} {sz : Nat} {M : Nat → Nat → Nat → Int32} {a0 : AS} {ρ : YR} {w : Nat} {r0 : AS × Int32} (C : cx p s m args meth c D E (Aof (mx M a0, ρ) [] s.heap.size) cX9_holdsBack 5 "TradeLineModel") (hr : meth.sig.returnType = none) (hz : s.heap.size = sz) (hρ : rsh ρ) {a : AS} {x1 x3 x4 s0 s1 s2 : Int32}   (h : b_X9_holdsBack_31  w a x1 x3 x4 s0 s1 s2 = some r0) : G p l e ({ frames := 3, cells := 0, slots := 0, locals := 73 } : Room) s m args below meth c D E (Aof (mx M a0, ρ) [] s.heap.size) 5 (MQ below (cQ D E sz (mx M a0, ρ) [] (pV (fun u => u = ((mx M r0.1, ρ), [])))) args s 0 0 (Aof (mx M a0, ρ) [] s.heap.size)) (mx M a, ρ) [] 0 0 31 [(0, .ref (ρ.2.2.2 40 0)), (1, .int x1), (3, .int x3), (4, .int x4)] [.int s0, .int s1, .int s2, .ref (ρ.2.2.2 (40 + 6) 0)] := by
  unfold b_X9_holdsBack_31 at h
  refine g_iadd C dX9_holdsBack_31 ?_
  obtain ⟨g4, h⟩ := of_guard h
  refine q_iast C hρ (j := 6) (N := 2) (List.mem_of_getElem? (i := 3) rfl) rfl rfl g4 dX9_holdsBack_32 (fun a5 ea5 => ?_)
  replace h := yl_of h ea5
  refine g_aload_n C dX9_holdsBack_33 rfl 0 rfl ?_
  refine g_get (k := 40) (i := 0) (ref := "TradeLineModel") (v := .ref (ρ.2.2.2 (40 + 18) 0)) C rfl (lvY0 hρ) rfl rfl inGX9 18 (by decide) gw_1347 (fun _ h => h) rfl dX9_holdsBack_34 ?_
  refine g_iload C dX9_holdsBack_37 3 rfl ?_
  refine g_iload_n C dX9_holdsBack_39 rfl 2 rfl ?_
  refine g_if_ne (tgt := 47) C dX9_holdsBack_40 (by decide) (fun c40 => ?_) (fun c40 => ?_)
  · replace h := (if_neg c40).symm.trans h
    refine g_iload_n C dX9_holdsBack_47 rfl 2 rfl ?_
    refine g_iconst (v := (2 : Int32)) C dX9_holdsBack_48 (by decide) ?_
    refine g_iadd C dX9_holdsBack_49 ?_
    refine g_lv [0, 1] rfl ?_
    exact lb_X9_holdsBack_50 C hr hz hρ  h
  · replace h := (if_pos c40).symm.trans h
    refine g_iconst (v := (1 : Int32)) C dX9_holdsBack_43 (by decide) ?_
    refine g_goto (tgt := 50) C dX9_holdsBack_44 (by decide) ?_
    refine g_lv [0, 1] rfl ?_
    exact lb_X9_holdsBack_50 C hr hz hρ  h
noncomputable def f_X9_holdsBack  (w : Nat) (a : AS) (x1 x2 x3 : Int32) : Option (AS × Int32) := yl ((((8192 : Int32) * x1) + x2)) (fun t1 => bif ixB x1 2 then bif ixB t1 16384 then (if (a 18 t1.toNatClampNeg) = (0 : Int32) then (b_X9_holdsBack_31  w a x1 x3 t1 (1 : Int32) (a 6 x1.toNatClampNeg) x1) else (b_X9_holdsBack_31  w a x1 x3 t1 (0 : Int32) (a 6 x1.toNatClampNeg) x1)) else none else none)
set_option maxHeartbeats 4000000 in
set_option maxRecDepth 100000 in
theorem lb_X9_holdsBack_0 {p : Program} {l : Launch} {e : Env} {s : State} {m : MethodId} {args : Array Value} {below : List Frame} {meth : Method} {c : Code} {D : va_G} {E : Nat → ClassId} {sz : Nat} {M : Nat → Nat → Nat → Int32} {a0 : AS} {ρ : YR} {w : Nat} {r0 : AS × Int32} (C : cx p s m args meth c D E (Aof (mx M a0, ρ) [] s.heap.size) cX9_holdsBack 5 "TradeLineModel") (hr : meth.sig.returnType = none) (hz : s.heap.size = sz) (hρ : rsh ρ) {a : AS} {x1 x2 x3 : Int32}   (h : f_X9_holdsBack  w a x1 x2 x3 = some r0) : G p l e ({ frames := 3, cells := 0, slots := 0, locals := 73 } : Room) s m args below meth c D E (Aof (mx M a0, ρ) [] s.heap.size) 5 (MQ below (cQ D E sz (mx M a0, ρ) [] (pV (fun u => u = ((mx M r0.1, ρ), [])))) args s 0 0 (Aof (mx M a0, ρ) [] s.heap.size)) (mx M a, ρ) [] 0 0 0 [(0, .ref (ρ.2.2.2 40 0)), (1, .int x1), (2, .int x2), (3, .int x3)] [] := by
  unfold f_X9_holdsBack at h
  refine g_sipush (v := (8192 : Int32)) C dX9_holdsBack_0 (by decide) ?_
  refine g_iload_n C dX9_holdsBack_3 rfl 1 rfl ?_
  refine g_imul C dX9_holdsBack_4 ?_
  refine g_iload_n C dX9_holdsBack_5 rfl 2 rfl ?_
  refine g_iadd C dX9_holdsBack_6 ?_
  refine q_topi (fun t1 et1 => ?_)
  replace h := yl_of h et1
  refine g_istore (lv' := [(4, .int t1), (0, .ref (ρ.2.2.2 40 0)), (1, .int x1), (2, .int x2), (3, .int x3)]) C dX9_holdsBack_7 (by decide) rfl ?_
  refine g_aload_n C dX9_holdsBack_9 rfl 1 rfl ?_
  refine g_get (k := 40) (i := 0) (ref := "TradeLineModel") (v := .ref (ρ.2.2.2 (40 + 6) 0)) C rfl (lvY0 hρ) rfl rfl inGX9 6 (by decide) gw_1335 (fun _ h => h) rfl dX9_holdsBack_10 ?_
  refine g_iload_n C dX9_holdsBack_13 rfl 2 rfl ?_
  refine g_dup2 C dX9_holdsBack_14 rfl rfl ?_
  obtain ⟨g2, h⟩ := of_guard h
  refine q_iald C hρ (j := 6) (N := 2) (List.mem_of_getElem? (i := 3) rfl) rfl rfl g2 dX9_holdsBack_15 ?_
  refine g_aload_n C dX9_holdsBack_16 rfl 1 rfl ?_
  refine g_get (k := 40) (i := 0) (ref := "TradeLineModel") (v := .ref (ρ.2.2.2 (40 + 18) 0)) C rfl (lvY0 hρ) rfl rfl inGX9 18 (by decide) gw_1347 (fun _ h => h) rfl dX9_holdsBack_17 ?_
  refine g_iload C dX9_holdsBack_20 0 rfl ?_
  obtain ⟨g3, h⟩ := of_guard h
  refine q_iald C hρ (j := 18) (N := 16384) (List.mem_of_getElem? (i := 15) rfl) rfl rfl g3 dX9_holdsBack_22 ?_
  refine g_if_ne (tgt := 30) C dX9_holdsBack_23 (by decide) (fun c23 => ?_) (fun c23 => ?_)
  · replace h := (if_neg c23).symm.trans h
    refine g_iconst (v := (0 : Int32)) C dX9_holdsBack_30 (by decide) ?_
    refine g_lv [1, 2, 4, 0] rfl ?_
    exact lb_X9_holdsBack_31 C hr hz hρ  h
  · replace h := (if_pos c23).symm.trans h
    refine g_iconst (v := (1 : Int32)) C dX9_holdsBack_26 (by decide) ?_
    refine g_goto (tgt := 31) C dX9_holdsBack_27 (by decide) ?_
    refine g_lv [1, 2, 4, 0] rfl ?_
    exact lb_X9_holdsBack_31 C hr hz hρ  h
theorem k_X9_holdsBack (l : Launch) (M : Nat → Nat → Nat → Int32) (ρ : YR) (hρ : rsh ρ) (w : Nat) (a : AS) (x1 x2 x3 : Int32) (r0 : AS × Int32) (h : f_X9_holdsBack w a x1 x2 x3 = some r0) : ∀ D E sz, Met l yX9_holdsBack gwX9_holdsBack ({ frames := 3, cells := 0, slots := 0, locals := 73 } : Room) (cP D E sz (mx M a, ρ) [] [.ref (ρ.2.2.2 40 0), .int x1, .int x2, .int x3]) (cQ D E sz (mx M a, ρ) [] (pV (fun u => u = ((mx M r0.1, ρ), [])))) (0) (0) (Aof (mx M a, ρ) [] sz) := by
  intro D E sz
  refine g_of (cc := cX9_holdsBack) (maxL := 5) (ret := none) (own := "TradeLineModel") (by decide) rfl rfl (Nat.le_of_ble_eq_true rfl) ?_
  intro p e s m args below meth c C hr hin hz ha hwr
  refine g_lv [0, 1, 2, 3] rfl ?_
  exact lb_X9_holdsBack_0 C hr hz hρ h
