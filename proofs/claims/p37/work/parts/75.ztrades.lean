noncomputable def b_L_trades_1392  (w : Nat) (μ : MP) (ν : NC) (a : AS) (x22 : Int32) (s0 : Int32) : Option (((MP × NC) × AS) × Int32) := (if s0 = x22 then (some (((μ, ν), a), (1 : Int32))) else (some (((μ, ν), a), (0 : Int32))))
theorem mb_L_trades_1392 {w : Nat} {μ : MP} {ν : NC} {a : AS} {x22 : Int32} {s0 : Int32} {r0 : ((MP × NC) × AS) × Int32}   (h : b_L_trades_1392  w μ ν a x22 s0 = some r0) : mn ν r0.1.1.2 := by
  unfold b_L_trades_1392 at h
  by_cases c1394 : s0 = x22
  · replace h := (if_pos c1394).symm.trans h
    obtain rfl := Option.some.inj h
    exact mn_rfl _
  · replace h := (if_neg c1394).symm.trans h
    obtain rfl := Option.some.inj h
    exact mn_rfl _
set_option maxHeartbeats 4000000 in
set_option maxRecDepth 100000 in
theorem lb_L_trades_1392 {p : Program} {l : Launch} (hl : l.stackTraces = false) {e : Env} {s : State} {m : MethodId} {args : Array Value} {below : List Frame} {meth : Method} {c : Code} {D : va_G} {E : Nat → ClassId} {sz : Nat} {μ0 : MP} {ν0 : NC} {a0 : AS} {Ad0 : Nat → Nat → Nat} {Q : Nat → Nat} {B : Nat × (Nat → Nat)} {w : Nat} {r0 : ((MP × NC) × AS) × Int32} (C : cx p s m args meth c D E (Aof (zS μ0 ν0 a0 Ad0) [] s.heap.size) cL_trades 27 "TradeLineLaw") (hEv : eV (Ad0 30 0) (Ad0 31 0) B (Aof (zS μ0 ν0 a0 Ad0) [] s.heap.size) s s.heap) (hN : vN s) (hr : meth.sig.returnType = (some .boolean)) (hz : s.heap.size = sz) (hI0 : lwI ν0) (hQ0 : lwQ Ad0 Q) {μ : MP} {ν : NC} {a : AS} {Ad : Nat → Nat → Nat} (hm0 : mn ν0 ν) (hp0 : kp ν0 Ad0 Ad) {x22 : Int32} {s0 : Int32}   (h : b_L_trades_1392  w μ ν a x22 s0 = some r0) : G p l e ({ frames := 11, cells := kc r0.1.1.2 - kc ν0, slots := ks r0.1.1.2 - ks ν0, locals := 325 } : Room) s m args below meth c D E (Aof (zS μ0 ν0 a0 Ad0) [] s.heap.size) 27 (MQ below (cQ D E sz (zS μ0 ν0 a0 Ad0) [] (pI (fun r u => r = r0.2 ∧ ∃ A1, u = (zS r0.1.1.1 r0.1.1.2 r0.1.2 A1, []) ∧ kp ν0 Ad0 A1))) args s (kc r0.1.1.2 - kc ν0) (ks r0.1.1.2 - ks ν0) (Aof (zS μ0 ν0 a0 Ad0) [] s.heap.size)) (zS μ ν a Ad) [] (kc ν - kc ν0) (ks ν - ks ν0) 1392 [(22, .int x22)] [.int s0] := by
  have m0 := mb_L_trades_1392  h
  have e1 := m0.2.1; have e2 := m0.2.2.1; have e3 := hm0.2.1; have e4 := hm0.2.2.1
  have hI := lwI_mn hI0 hm0; have hQ := lwQ_kp hI0 hp0 hQ0
  unfold b_L_trades_1392 at h
  refine g_iload C dL_trades_1392 0 rfl ?_
  refine g_icmp_ne (tgt := 1401) C dL_trades_1394 (by decide) (fun c1394 => ?_) (fun c1394 => ?_)
  · replace h := (if_neg c1394).symm.trans h
    refine g_iconst (v := (0 : Int32)) C dL_trades_1401 (by decide) ?_
    obtain rfl := Option.some.inj h
    exact g_iret C hr rfl hz ⟨(hm0.2.2.2 30 (by decide) (by decide)).1, (hm0.2.2.2 31 (by decide) (by decide)).1, hp0.2.1, hp0.2.2⟩ ⟨rfl, Ad, rfl, hp0⟩ (fun j x h => by simp at h) dL_trades_1402
  · replace h := (if_pos c1394).symm.trans h
    refine g_iconst (v := (1 : Int32)) C dL_trades_1397 (by decide) ?_
    refine g_goto (tgt := 1402) C dL_trades_1398 (by decide) ?_
    obtain rfl := Option.some.inj h
    exact g_iret C hr rfl hz ⟨(hm0.2.2.2 30 (by decide) (by decide)).1, (hm0.2.2.2 31 (by decide) (by decide)).1, hp0.2.1, hp0.2.2⟩ ⟨rfl, Ad, rfl, hp0⟩ (fun j x h => by simp at h) dL_trades_1402
noncomputable def b_L_trades_1315  (w : Nat) (μ : MP) (ν : NC) (a : AS)  (s0 : Int32) : Option (((MP × NC) × AS) × Int32) := (if s0 = (-7300 : Int32) then (some (((μ, ν), a), (1 : Int32))) else (some (((μ, ν), a), (0 : Int32))))
theorem mb_L_trades_1315 {w : Nat} {μ : MP} {ν : NC} {a : AS}  {s0 : Int32} {r0 : ((MP × NC) × AS) × Int32}   (h : b_L_trades_1315  w μ ν a  s0 = some r0) : mn ν r0.1.1.2 := by
  unfold b_L_trades_1315 at h
  by_cases c1318 : s0 = (-7300 : Int32)
  · replace h := (if_pos c1318).symm.trans h
    obtain rfl := Option.some.inj h
    exact mn_rfl _
  · replace h := (if_neg c1318).symm.trans h
    obtain rfl := Option.some.inj h
    exact mn_rfl _
set_option maxHeartbeats 4000000 in
set_option maxRecDepth 100000 in
theorem lb_L_trades_1315 {p : Program} {l : Launch} (hl : l.stackTraces = false) {e : Env} {s : State} {m : MethodId} {args : Array Value} {below : List Frame} {meth : Method} {c : Code} {D : va_G} {E : Nat → ClassId} {sz : Nat} {μ0 : MP} {ν0 : NC} {a0 : AS} {Ad0 : Nat → Nat → Nat} {Q : Nat → Nat} {B : Nat × (Nat → Nat)} {w : Nat} {r0 : ((MP × NC) × AS) × Int32} (C : cx p s m args meth c D E (Aof (zS μ0 ν0 a0 Ad0) [] s.heap.size) cL_trades 27 "TradeLineLaw") (hEv : eV (Ad0 30 0) (Ad0 31 0) B (Aof (zS μ0 ν0 a0 Ad0) [] s.heap.size) s s.heap) (hN : vN s) (hr : meth.sig.returnType = (some .boolean)) (hz : s.heap.size = sz) (hI0 : lwI ν0) (hQ0 : lwQ Ad0 Q) {μ : MP} {ν : NC} {a : AS} {Ad : Nat → Nat → Nat} (hm0 : mn ν0 ν) (hp0 : kp ν0 Ad0 Ad)  {s0 : Int32}   (h : b_L_trades_1315  w μ ν a  s0 = some r0) : G p l e ({ frames := 11, cells := kc r0.1.1.2 - kc ν0, slots := ks r0.1.1.2 - ks ν0, locals := 325 } : Room) s m args below meth c D E (Aof (zS μ0 ν0 a0 Ad0) [] s.heap.size) 27 (MQ below (cQ D E sz (zS μ0 ν0 a0 Ad0) [] (pI (fun r u => r = r0.2 ∧ ∃ A1, u = (zS r0.1.1.1 r0.1.1.2 r0.1.2 A1, []) ∧ kp ν0 Ad0 A1))) args s (kc r0.1.1.2 - kc ν0) (ks r0.1.1.2 - ks ν0) (Aof (zS μ0 ν0 a0 Ad0) [] s.heap.size)) (zS μ ν a Ad) [] (kc ν - kc ν0) (ks ν - ks ν0) 1315 [] [.int s0] := by
  have m0 := mb_L_trades_1315  h
  have e1 := m0.2.1; have e2 := m0.2.2.1; have e3 := hm0.2.1; have e4 := hm0.2.2.1
  have hI := lwI_mn hI0 hm0; have hQ := lwQ_kp hI0 hp0 hQ0
  unfold b_L_trades_1315 at h
  refine g_sipush (v := (-7300 : Int32)) C dL_trades_1315 (by decide) ?_
  refine g_icmp_ne (tgt := 1325) C dL_trades_1318 (by decide) (fun c1318 => ?_) (fun c1318 => ?_)
  · replace h := (if_neg c1318).symm.trans h
    refine g_iconst (v := (0 : Int32)) C dL_trades_1325 (by decide) ?_
    obtain rfl := Option.some.inj h
    exact g_iret C hr rfl hz ⟨(hm0.2.2.2 30 (by decide) (by decide)).1, (hm0.2.2.2 31 (by decide) (by decide)).1, hp0.2.1, hp0.2.2⟩ ⟨rfl, Ad, rfl, hp0⟩ (fun j x h => by simp at h) dL_trades_1326
  · replace h := (if_pos c1318).symm.trans h
    refine g_iconst (v := (1 : Int32)) C dL_trades_1321 (by decide) ?_
    refine g_goto (tgt := 1326) C dL_trades_1322 (by decide) ?_
    obtain rfl := Option.some.inj h
    exact g_iret C hr rfl hz ⟨(hm0.2.2.2 30 (by decide) (by decide)).1, (hm0.2.2.2 31 (by decide) (by decide)).1, hp0.2.1, hp0.2.2⟩ ⟨rfl, Ad, rfl, hp0⟩ (fun j x h => by simp at h) dL_trades_1326
noncomputable def b_L_trades_1294  (w : Nat) (μ : MP) (ν : NC) (a : AS) (x16 : Int32) (x19 : Int32) (x20 : Int32) (x21 : Int32) (s0 : Int32) : Option (((MP × NC) × AS) × Int32) := (if s0 = (-7200 : Int32) then ((if x20 = (0 : Int32) then (bif ixB x19 60 then (f_L_price w a (lgA a 13 x19.toNatClampNeg) (28 : Int32)).bind (fun v13 => yl (wLg a 13 x19.toNatClampNeg (((lgA a 13 x19.toNatClampNeg) &&& (-34091302913 : Int64)) ||| ((Int32.toInt64 x16) <<< (Int32.toInt64 (28 : Int32) &&& 63)))) (fun a14 => (f_L_send w a14 (1 : Int32) (8 : Int32) (6 : Int32) x21 x19 x16).bind (fun v15 => (f_L_correct w μ ν x19 x16).bind (fun v16 => b_L_trades_1392  w v16.1.1 v16.1.2 v15.1 v13 v16.2)))) else none) else ((f_L_correct w μ ν x19 x16).bind (fun v17 => b_L_trades_1315  w v17.1.1 v17.1.2 a v17.2)))) else (some (((μ, ν), a), (0 : Int32))))
theorem mb_L_trades_1294 {w : Nat} {μ : MP} {ν : NC} {a : AS} {x16 : Int32} {x19 : Int32} {x20 : Int32} {x21 : Int32} {s0 : Int32} {r0 : ((MP × NC) × AS) × Int32}   (h : b_L_trades_1294  w μ ν a x16 x19 x20 x21 s0 = some r0) : mn ν r0.1.1.2 := by
  unfold b_L_trades_1294 at h
  by_cases c1297 : s0 = (-7200 : Int32)
  · replace h := (if_pos c1297).symm.trans h
    by_cases c1304 : x20 = (0 : Int32)
    · replace h := (if_pos c1304).symm.trans h
      replace h := (of_guard h).2
      obtain ⟨v13, hv13, h⟩ := bind_of h
      obtain ⟨a14, ea14⟩ : ∃ y, wLg a 13 x19.toNatClampNeg (((lgA a 13 x19.toNatClampNeg) &&& (-34091302913 : Int64)) ||| ((Int32.toInt64 x16) <<< (Int32.toInt64 (28 : Int32) &&& 63))) = y := ⟨_, rfl⟩
      replace h := yl_of h ea14
      obtain ⟨v15, hv15, h⟩ := bind_of h
      obtain ⟨v16, hv16, h⟩ := bind_of h
      exact mn_trans (m_L_correct hv16) (mb_L_trades_1392  h)
    · replace h := (if_neg c1304).symm.trans h
      obtain ⟨v17, hv17, h⟩ := bind_of h
      exact mn_trans (m_L_correct hv17) (mb_L_trades_1315  h)
  · replace h := (if_neg c1297).symm.trans h
    obtain rfl := Option.some.inj h
    exact mn_rfl _
set_option maxHeartbeats 4000000 in
set_option maxRecDepth 100000 in
theorem lb_L_trades_1294 {p : Program} {l : Launch} (hl : l.stackTraces = false) {e : Env} {s : State} {m : MethodId} {args : Array Value} {below : List Frame} {meth : Method} {c : Code} {D : va_G} {E : Nat → ClassId} {sz : Nat} {μ0 : MP} {ν0 : NC} {a0 : AS} {Ad0 : Nat → Nat → Nat} {Q : Nat → Nat} {B : Nat × (Nat → Nat)} {w : Nat} {r0 : ((MP × NC) × AS) × Int32} (C : cx p s m args meth c D E (Aof (zS μ0 ν0 a0 Ad0) [] s.heap.size) cL_trades 27 "TradeLineLaw") (hEv : eV (Ad0 30 0) (Ad0 31 0) B (Aof (zS μ0 ν0 a0 Ad0) [] s.heap.size) s s.heap) (hN : vN s) (hr : meth.sig.returnType = (some .boolean)) (hz : s.heap.size = sz) (hI0 : lwI ν0) (hQ0 : lwQ Ad0 Q) {μ : MP} {ν : NC} {a : AS} {Ad : Nat → Nat → Nat} (hm0 : mn ν0 ν) (hp0 : kp ν0 Ad0 Ad) {x16 : Int32} {x19 : Int32} {x20 : Int32} {x21 : Int32} {s0 : Int32}   (h : b_L_trades_1294  w μ ν a x16 x19 x20 x21 s0 = some r0) : G p l e ({ frames := 11, cells := kc r0.1.1.2 - kc ν0, slots := ks r0.1.1.2 - ks ν0, locals := 325 } : Room) s m args below meth c D E (Aof (zS μ0 ν0 a0 Ad0) [] s.heap.size) 27 (MQ below (cQ D E sz (zS μ0 ν0 a0 Ad0) [] (pI (fun r u => r = r0.2 ∧ ∃ A1, u = (zS r0.1.1.1 r0.1.1.2 r0.1.2 A1, []) ∧ kp ν0 Ad0 A1))) args s (kc r0.1.1.2 - kc ν0) (ks r0.1.1.2 - ks ν0) (Aof (zS μ0 ν0 a0 Ad0) [] s.heap.size)) (zS μ ν a Ad) [] (kc ν - kc ν0) (ks ν - ks ν0) 1294 [(0, .ref (Q 0)), (4, .ref (Q 1)), (5, .ref (Q 2)), (6, .ref (Q 3)), (7, .ref (Q 4)), (8, .ref (Q 5)), (14, .ref (Q 13)), (16, .int x16), (19, .int x19), (20, .int x20), (21, .int x21)] [.int s0] := by
  have m0 := mb_L_trades_1294  h
  have e1 := m0.2.1; have e2 := m0.2.2.1; have e3 := hm0.2.1; have e4 := hm0.2.2.1
  have hI := lwI_mn hI0 hm0; have hQ := lwQ_kp hI0 hp0 hQ0
  unfold b_L_trades_1294 at h
  refine g_sipush (v := (-7200 : Int32)) C dL_trades_1294 (by decide) ?_
  refine g_icmp_eq (tgt := 1302) C dL_trades_1297 (by decide) (fun c1297 => ?_) (fun c1297 => ?_)
  · replace h := (if_pos c1297).symm.trans h
    refine g_iload C dL_trades_1302 9 rfl ?_
    refine g_if_eq (tgt := 1327) C dL_trades_1304 (by decide) (fun c1304 => ?_) (fun c1304 => ?_)
    · replace h := (if_pos c1304).symm.trans h
      refine g_aload C dL_trades_1327 6 rfl ?_
      refine g_iload C dL_trades_1329 8 rfl ?_
      obtain ⟨g12, h⟩ := of_guard h
      refine q_lald C (show rsh (ν.1, μ.2, ν.2, Ad) from hI.2) (j := 13) (N := 60) (by decide) (lwQ_l hQ (j := 13) (N := 60) (by decide)) g12 dL_trades_1331 ?_
      refine g_bipush (v := (28 : Int32)) C dL_trades_1332 (by decide) ?_
      obtain ⟨v13, hv13, h⟩ := bind_of h
      refine g_cSi (n := 2) (exc := []) (exr := []) C [_, _] _ rfl rfl [] [] rfl rfl rfl rfl (fun _ h => absurd h (by simp)) (fun _ h => absurd h (by simp)) (fun _ h => absurd h (by simp)) (fun sz => wk_L_price l _ ν _ Ad Q hI hQ w _ _  _ hv13 D E sz) rfl gw_1021 gw_0 gw_1019 gw_1020 ⟨by decide +kernel, by decide +kernel, by decide +kernel⟩ ⟨rfl, rfl⟩ ⟨Nat.le_of_ble_eq_true rfl, Nat.le_of_ble_eq_true rfl⟩ (Nat.le_of_ble_eq_true rfl) dL_trades_1334 ⟨by show (kc ν - kc ν0) + 0 ≤ kc r0.1.1.2 - kc ν0; omega, by show (ks ν - ks ν0) + 0 ≤ ks r0.1.1.2 - ks ν0; omega⟩ (fun r u hp hx => ?_)
      obtain ⟨er, rfl⟩ := hp
      rw [er]
      try dsimp only [List.append_nil]
      refine g_istore (lv' := [(22, .int v13), (0, .ref (Q 0)), (4, .ref (Q 1)), (5, .ref (Q 2)), (6, .ref (Q 3)), (7, .ref (Q 4)), (8, .ref (Q 5)), (14, .ref (Q 13)), (16, .int x16), (19, .int x19), (20, .int x20), (21, .int x21)]) C dL_trades_1337 (by decide) rfl ?_
      refine g_aload C dL_trades_1339 7 rfl ?_
      refine g_iload C dL_trades_1341 9 rfl ?_
      refine g_aload C dL_trades_1343 7 rfl ?_
      refine g_iload C dL_trades_1345 9 rfl ?_
      refine q_lald C (show rsh (ν.1, μ.2, ν.2, Ad) from hI.2) (j := 13) (N := 60) (by decide) (lwQ_l hQ (j := 13) (N := 60) (by decide)) g12 dL_trades_1347 ?_
      refine g_ldc2 (v := (-34091302913 : Int64)) C gw_1213 dL_trades_1348 ?_
      refine g_land C dL_trades_1351 ?_
      refine g_iload C dL_trades_1352 8 rfl ?_
      refine g_i2l C dL_trades_1354 rfl ?_
      refine g_bipush (v := (28 : Int32)) C dL_trades_1355 (by decide) ?_
      refine g_lshl C dL_trades_1357 ?_
      refine g_lor C dL_trades_1358 ?_
      refine q_last C (show rsh (ν.1, μ.2, ν.2, Ad) from hI.2) (j := 13) (N := 60) (by decide) (lwQ_l hQ (j := 13) (N := 60) (by decide)) g12 dL_trades_1359 (fun a14 ea14 => ?_)
      replace h := yl_of h ea14
      refine g_aload C dL_trades_1360 2 rfl ?_
      refine g_aload C dL_trades_1362 3 rfl ?_
      refine g_aload C dL_trades_1364 4 rfl ?_
      refine g_aload C dL_trades_1366 5 rfl ?_
      refine g_aload C dL_trades_1368 6 rfl ?_
      refine g_iconst (v := (1 : Int32)) C dL_trades_1370 (by decide) ?_
      refine g_bipush (v := (8 : Int32)) C dL_trades_1371 (by decide) ?_
      refine g_bipush (v := (6 : Int32)) C dL_trades_1373 (by decide) ?_
      refine g_iload C dL_trades_1375 11 rfl ?_
      refine g_iload C dL_trades_1377 9 rfl ?_
      refine g_iload C dL_trades_1379 8 rfl ?_
      obtain ⟨v15, hv15, h⟩ := bind_of h
      refine g_cSv (n := 11) (exc := []) (exr := []) C [_, _, _, _, _, _, _, _, _, _, _] _ rfl rfl [] [] rfl rfl rfl rfl (fun _ h => absurd h (by simp)) (fun _ h => absurd h (by simp)) (fun _ h => absurd h (by simp)) (fun sz => wk_L_send l _ ν _ Ad Q hI hQ w _ _ _ _ _ _  _ hv15 D E sz) rfl gw_458 gw_0 gw_456 gw_457 ⟨by decide +kernel, by decide +kernel, by decide +kernel⟩ ⟨rfl, rfl⟩ ⟨Nat.le_of_ble_eq_true rfl, Nat.le_of_ble_eq_true rfl⟩ (Nat.le_of_ble_eq_true rfl) dL_trades_1381 ⟨by show (kc ν - kc ν0) + 0 ≤ kc r0.1.1.2 - kc ν0; omega, by show (ks ν - ks ν0) + 0 ≤ ks r0.1.1.2 - ks ν0; omega⟩ (fun u hp hx => ?_)
      obtain rfl := hp
      try dsimp only [List.append_nil]
      refine g_aload_n C dL_trades_1384 rfl 1 rfl ?_
      refine g_iload C dL_trades_1385 9 rfl ?_
      refine g_iload C dL_trades_1387 8 rfl ?_
      obtain ⟨v16, hv16, h⟩ := bind_of h
      have m2 := m_L_correct hv16
      have m3 := mb_L_trades_1392  h
      have a1 := hm0.2.1; have a2 := hm0.2.2.1; have b1 := m2.2.1; have b2 := m2.2.2.1; have d1 := m3.2.1; have d2 := m3.2.2.1
      refine g_cSh (n := 3) (exr := []) C hEv hN ⟨hp0.2.1 0, hp0.2.2 0⟩ [_, _, _] _ rfl rfl [] rfl rfl (fun sz => wc_L_correct l hl B _ ν _ Ad Q hI hQ w _ _ _ hv16 D E sz) rfl gh_correct gw_0 gw_1205 gw_1206 ⟨by decide +kernel, by decide +kernel, by decide +kernel⟩ ⟨rfl, rfl⟩ ⟨Nat.le_of_ble_eq_true rfl, Nat.le_of_ble_eq_true rfl⟩ (Nat.le_of_ble_eq_true rfl) dL_trades_1389 ⟨by show (kc ν - kc ν0) + (kc v16.1.2 - kc ν) ≤ kc r0.1.1.2 - kc ν0; omega, by show (ks ν - ks ν0) + (ks v16.1.2 - ks ν) ≤ ks r0.1.1.2 - ks ν0; omega⟩ (fun r u hp hx => ?_)
      obtain ⟨er, A1, rfl, hkp⟩ := hp
      rw [er]
      try dsimp only [List.append_nil]
      refine g_widen (k := kc v16.1.2 - kc ν0) (n := ks v16.1.2 - ks ν0) (by omega) (by omega) ?_
      refine g_lv [0] rfl ?_
      exact lb_L_trades_1392 hl C hEv hN hr hz hI0 hQ0 (mn_trans hm0 m2) (kp_trans hp0 hm0 hkp)  h
    · replace h := (if_neg c1304).symm.trans h
      refine g_aload_n C dL_trades_1307 rfl 0 rfl ?_
      refine g_iload C dL_trades_1308 8 rfl ?_
      refine g_iload C dL_trades_1310 7 rfl ?_
      obtain ⟨v17, hv17, h⟩ := bind_of h
      have m2 := m_L_correct hv17
      have m3 := mb_L_trades_1315  h
      have a1 := hm0.2.1; have a2 := hm0.2.2.1; have b1 := m2.2.1; have b2 := m2.2.2.1; have d1 := m3.2.1; have d2 := m3.2.2.1
      refine g_cSh (n := 3) (exr := []) C hEv hN ⟨hp0.2.1 0, hp0.2.2 0⟩ [_, _, _] _ rfl rfl [] rfl rfl (fun sz => wc_L_correct l hl B _ ν _ Ad Q hI hQ w _ _ _ hv17 D E sz) rfl gh_correct gw_0 gw_1205 gw_1206 ⟨by decide +kernel, by decide +kernel, by decide +kernel⟩ ⟨rfl, rfl⟩ ⟨Nat.le_of_ble_eq_true rfl, Nat.le_of_ble_eq_true rfl⟩ (Nat.le_of_ble_eq_true rfl) dL_trades_1312 ⟨by show (kc ν - kc ν0) + (kc v17.1.2 - kc ν) ≤ kc r0.1.1.2 - kc ν0; omega, by show (ks ν - ks ν0) + (ks v17.1.2 - ks ν) ≤ ks r0.1.1.2 - ks ν0; omega⟩ (fun r u hp hx => ?_)
      obtain ⟨er, A1, rfl, hkp⟩ := hp
      rw [er]
      try dsimp only [List.append_nil]
      refine g_widen (k := kc v17.1.2 - kc ν0) (n := ks v17.1.2 - ks ν0) (by omega) (by omega) ?_
      refine g_lv [] rfl ?_
      exact lb_L_trades_1315 hl C hEv hN hr hz hI0 hQ0 (mn_trans hm0 m2) (kp_trans hp0 hm0 hkp)  h
  · replace h := (if_neg c1297).symm.trans h
    refine g_iconst (v := (0 : Int32)) C dL_trades_1300 (by decide) ?_
    obtain rfl := Option.some.inj h
    exact g_iret C hr rfl hz ⟨(hm0.2.2.2 30 (by decide) (by decide)).1, (hm0.2.2.2 31 (by decide) (by decide)).1, hp0.2.1, hp0.2.2⟩ ⟨rfl, Ad, rfl, hp0⟩ (fun j x h => by simp at h) dL_trades_1301
noncomputable def b_L_trades_1280  (w : Nat) (μ : MP) (ν : NC) (a : AS) (x16 : Int32) (x19 : Int32) (x20 : Int32) (x21 : Int32) (s0 : Int32) : Option (((MP × NC) × AS) × Int32) := (if s0 = (-7200 : Int32) then ((f_L_correct w μ ν x19 (101 : Int32)).bind (fun v11 => b_L_trades_1294  w v11.1.1 v11.1.2 a x16 x19 x20 x21 v11.2)) else (some (((μ, ν), a), (0 : Int32))))
theorem mb_L_trades_1280 {w : Nat} {μ : MP} {ν : NC} {a : AS} {x16 : Int32} {x19 : Int32} {x20 : Int32} {x21 : Int32} {s0 : Int32} {r0 : ((MP × NC) × AS) × Int32}   (h : b_L_trades_1280  w μ ν a x16 x19 x20 x21 s0 = some r0) : mn ν r0.1.1.2 := by
  unfold b_L_trades_1280 at h
  by_cases c1283 : s0 = (-7200 : Int32)
  · replace h := (if_pos c1283).symm.trans h
    obtain ⟨v11, hv11, h⟩ := bind_of h
    exact mn_trans (m_L_correct hv11) (mb_L_trades_1294  h)
  · replace h := (if_neg c1283).symm.trans h
    obtain rfl := Option.some.inj h
    exact mn_rfl _
set_option maxHeartbeats 4000000 in
set_option maxRecDepth 100000 in
theorem lb_L_trades_1280 {p : Program} {l : Launch} (hl : l.stackTraces = false) {e : Env} {s : State} {m : MethodId} {args : Array Value} {below : List Frame} {meth : Method} {c : Code} {D : va_G} {E : Nat → ClassId} {sz : Nat} {μ0 : MP} {ν0 : NC} {a0 : AS} {Ad0 : Nat → Nat → Nat} {Q : Nat → Nat} {B : Nat × (Nat → Nat)} {w : Nat} {r0 : ((MP × NC) × AS) × Int32} (C : cx p s m args meth c D E (Aof (zS μ0 ν0 a0 Ad0) [] s.heap.size) cL_trades 27 "TradeLineLaw") (hEv : eV (Ad0 30 0) (Ad0 31 0) B (Aof (zS μ0 ν0 a0 Ad0) [] s.heap.size) s s.heap) (hN : vN s) (hr : meth.sig.returnType = (some .boolean)) (hz : s.heap.size = sz) (hI0 : lwI ν0) (hQ0 : lwQ Ad0 Q) {μ : MP} {ν : NC} {a : AS} {Ad : Nat → Nat → Nat} (hm0 : mn ν0 ν) (hp0 : kp ν0 Ad0 Ad) {x16 : Int32} {x19 : Int32} {x20 : Int32} {x21 : Int32} {s0 : Int32}   (h : b_L_trades_1280  w μ ν a x16 x19 x20 x21 s0 = some r0) : G p l e ({ frames := 11, cells := kc r0.1.1.2 - kc ν0, slots := ks r0.1.1.2 - ks ν0, locals := 325 } : Room) s m args below meth c D E (Aof (zS μ0 ν0 a0 Ad0) [] s.heap.size) 27 (MQ below (cQ D E sz (zS μ0 ν0 a0 Ad0) [] (pI (fun r u => r = r0.2 ∧ ∃ A1, u = (zS r0.1.1.1 r0.1.1.2 r0.1.2 A1, []) ∧ kp ν0 Ad0 A1))) args s (kc r0.1.1.2 - kc ν0) (ks r0.1.1.2 - ks ν0) (Aof (zS μ0 ν0 a0 Ad0) [] s.heap.size)) (zS μ ν a Ad) [] (kc ν - kc ν0) (ks ν - ks ν0) 1280 [(0, .ref (Q 0)), (4, .ref (Q 1)), (5, .ref (Q 2)), (6, .ref (Q 3)), (7, .ref (Q 4)), (8, .ref (Q 5)), (14, .ref (Q 13)), (16, .int x16), (19, .int x19), (20, .int x20), (21, .int x21)] [.int s0] := by
  have m0 := mb_L_trades_1280  h
  have e1 := m0.2.1; have e2 := m0.2.2.1; have e3 := hm0.2.1; have e4 := hm0.2.2.1
  have hI := lwI_mn hI0 hm0; have hQ := lwQ_kp hI0 hp0 hQ0
  unfold b_L_trades_1280 at h
  refine g_sipush (v := (-7200 : Int32)) C dL_trades_1280 (by decide) ?_
  refine g_icmp_ne (tgt := 1300) C dL_trades_1283 (by decide) (fun c1283 => ?_) (fun c1283 => ?_)
  · replace h := (if_neg c1283).symm.trans h
    refine g_iconst (v := (0 : Int32)) C dL_trades_1300 (by decide) ?_
    obtain rfl := Option.some.inj h
    exact g_iret C hr rfl hz ⟨(hm0.2.2.2 30 (by decide) (by decide)).1, (hm0.2.2.2 31 (by decide) (by decide)).1, hp0.2.1, hp0.2.2⟩ ⟨rfl, Ad, rfl, hp0⟩ (fun j x h => by simp at h) dL_trades_1301
  · replace h := (if_pos c1283).symm.trans h
    refine g_aload_n C dL_trades_1286 rfl 0 rfl ?_
    refine g_iload C dL_trades_1287 8 rfl ?_
    refine g_bipush (v := (101 : Int32)) C dL_trades_1289 (by decide) ?_
    obtain ⟨v11, hv11, h⟩ := bind_of h
    have m2 := m_L_correct hv11
    have m3 := mb_L_trades_1294  h
    have a1 := hm0.2.1; have a2 := hm0.2.2.1; have b1 := m2.2.1; have b2 := m2.2.2.1; have d1 := m3.2.1; have d2 := m3.2.2.1
    refine g_cSh (n := 3) (exr := []) C hEv hN ⟨hp0.2.1 0, hp0.2.2 0⟩ [_, _, _] _ rfl rfl [] rfl rfl (fun sz => wc_L_correct l hl B _ ν _ Ad Q hI hQ w _ _ _ hv11 D E sz) rfl gh_correct gw_0 gw_1205 gw_1206 ⟨by decide +kernel, by decide +kernel, by decide +kernel⟩ ⟨rfl, rfl⟩ ⟨Nat.le_of_ble_eq_true rfl, Nat.le_of_ble_eq_true rfl⟩ (Nat.le_of_ble_eq_true rfl) dL_trades_1291 ⟨by show (kc ν - kc ν0) + (kc v11.1.2 - kc ν) ≤ kc r0.1.1.2 - kc ν0; omega, by show (ks ν - ks ν0) + (ks v11.1.2 - ks ν) ≤ ks r0.1.1.2 - ks ν0; omega⟩ (fun r u hp hx => ?_)
    obtain ⟨er, A1, rfl, hkp⟩ := hp
    rw [er]
    try dsimp only [List.append_nil]
    refine g_widen (k := kc v11.1.2 - kc ν0) (n := ks v11.1.2 - ks ν0) (by omega) (by omega) ?_
    refine g_lv [0, 1, 2, 3, 4, 5, 6, 7, 8, 9, 10] rfl ?_
    exact lb_L_trades_1294 hl C hEv hN hr hz hI0 hQ0 (mn_trans hm0 m2) (kp_trans hp0 hm0 hkp)  h
noncomputable def b_L_trades_1256  (w : Nat) (μ : MP) (ν : NC) (a : AS) (x21 : Int32) (s0 : Int32) : Option (((MP × NC) × AS) × Int32) := bif ixB ((10 : Int32) + x21) 20 then (if s0 = (a 10 ((10 : Int32) + x21).toNatClampNeg) then (some (((μ, ν), a), (1 : Int32))) else (some (((μ, ν), a), (0 : Int32)))) else none
theorem mb_L_trades_1256 {w : Nat} {μ : MP} {ν : NC} {a : AS} {x21 : Int32} {s0 : Int32} {r0 : ((MP × NC) × AS) × Int32}   (h : b_L_trades_1256  w μ ν a x21 s0 = some r0) : mn ν r0.1.1.2 := by
  unfold b_L_trades_1256 at h
  replace h := (of_guard h).2
  by_cases c1264 : s0 = (a 10 ((10 : Int32) + x21).toNatClampNeg)
  · replace h := (if_pos c1264).symm.trans h
    obtain rfl := Option.some.inj h
    exact mn_rfl _
  · replace h := (if_neg c1264).symm.trans h
    obtain rfl := Option.some.inj h
    exact mn_rfl _
set_option maxHeartbeats 4000000 in
set_option maxRecDepth 100000 in
theorem lb_L_trades_1256 {p : Program} {l : Launch} (hl : l.stackTraces = false) {e : Env} {s : State} {m : MethodId} {args : Array Value} {below : List Frame} {meth : Method} {c : Code} {D : va_G} {E : Nat → ClassId} {sz : Nat} {μ0 : MP} {ν0 : NC} {a0 : AS} {Ad0 : Nat → Nat → Nat} {Q : Nat → Nat} {B : Nat × (Nat → Nat)} {w : Nat} {r0 : ((MP × NC) × AS) × Int32} (C : cx p s m args meth c D E (Aof (zS μ0 ν0 a0 Ad0) [] s.heap.size) cL_trades 27 "TradeLineLaw") (hEv : eV (Ad0 30 0) (Ad0 31 0) B (Aof (zS μ0 ν0 a0 Ad0) [] s.heap.size) s s.heap) (hN : vN s) (hr : meth.sig.returnType = (some .boolean)) (hz : s.heap.size = sz) (hI0 : lwI ν0) (hQ0 : lwQ Ad0 Q) {μ : MP} {ν : NC} {a : AS} {Ad : Nat → Nat → Nat} (hm0 : mn ν0 ν) (hp0 : kp ν0 Ad0 Ad) {x21 : Int32} {s0 : Int32}   (h : b_L_trades_1256  w μ ν a x21 s0 = some r0) : G p l e ({ frames := 11, cells := kc r0.1.1.2 - kc ν0, slots := ks r0.1.1.2 - ks ν0, locals := 325 } : Room) s m args below meth c D E (Aof (zS μ0 ν0 a0 Ad0) [] s.heap.size) 27 (MQ below (cQ D E sz (zS μ0 ν0 a0 Ad0) [] (pI (fun r u => r = r0.2 ∧ ∃ A1, u = (zS r0.1.1.1 r0.1.1.2 r0.1.2 A1, []) ∧ kp ν0 Ad0 A1))) args s (kc r0.1.1.2 - kc ν0) (ks r0.1.1.2 - ks ν0) (Aof (zS μ0 ν0 a0 Ad0) [] s.heap.size)) (zS μ ν a Ad) [] (kc ν - kc ν0) (ks ν - ks ν0) 1256 [(11, .ref (Q 10)), (21, .int x21)] [.int s0] := by
  have m0 := mb_L_trades_1256  h
  have e1 := m0.2.1; have e2 := m0.2.2.1; have e3 := hm0.2.1; have e4 := hm0.2.2.1
  have hI := lwI_mn hI0 hm0; have hQ := lwQ_kp hI0 hp0 hQ0
  unfold b_L_trades_1256 at h
  refine g_aload C dL_trades_1256 0 rfl ?_
  refine g_bipush (v := (10 : Int32)) C dL_trades_1258 (by decide) ?_
  refine g_iload C dL_trades_1260 1 rfl ?_
  refine g_iadd C dL_trades_1262 ?_
  obtain ⟨g26, h⟩ := of_guard h
  refine q_iald C (show rsh (ν.1, μ.2, ν.2, Ad) from hI.2) (j := 10) (N := 20) (by decide) (lwQ_i hQ (j := 10) (N := 20) (by decide)) g26 dL_trades_1263 ?_
  refine g_icmp_ne (tgt := 1271) C dL_trades_1264 (by decide) (fun c1264 => ?_) (fun c1264 => ?_)
  · replace h := (if_neg c1264).symm.trans h
    refine g_iconst (v := (0 : Int32)) C dL_trades_1271 (by decide) ?_
    obtain rfl := Option.some.inj h
    exact g_iret C hr rfl hz ⟨(hm0.2.2.2 30 (by decide) (by decide)).1, (hm0.2.2.2 31 (by decide) (by decide)).1, hp0.2.1, hp0.2.2⟩ ⟨rfl, Ad, rfl, hp0⟩ (fun j x h => by simp at h) dL_trades_1272
  · replace h := (if_pos c1264).symm.trans h
    refine g_iconst (v := (1 : Int32)) C dL_trades_1267 (by decide) ?_
    refine g_goto (tgt := 1272) C dL_trades_1268 (by decide) ?_
    obtain rfl := Option.some.inj h
    exact g_iret C hr rfl hz ⟨(hm0.2.2.2 30 (by decide) (by decide)).1, (hm0.2.2.2 31 (by decide) (by decide)).1, hp0.2.1, hp0.2.2⟩ ⟨rfl, Ad, rfl, hp0⟩ (fun j x h => by simp at h) dL_trades_1272
noncomputable def b_L_trades_1167  (w : Nat) (μ : MP) (ν : NC) (a : AS)  (s0 : Int32) : Option (((MP × NC) × AS) × Int32) := (if s0 = (-7300 : Int32) then (some (((μ, ν), a), (1 : Int32))) else (some (((μ, ν), a), (0 : Int32))))
theorem mb_L_trades_1167 {w : Nat} {μ : MP} {ν : NC} {a : AS}  {s0 : Int32} {r0 : ((MP × NC) × AS) × Int32}   (h : b_L_trades_1167  w μ ν a  s0 = some r0) : mn ν r0.1.1.2 := by
  unfold b_L_trades_1167 at h
  by_cases c1170 : s0 = (-7300 : Int32)
  · replace h := (if_pos c1170).symm.trans h
    obtain rfl := Option.some.inj h
    exact mn_rfl _
  · replace h := (if_neg c1170).symm.trans h
    obtain rfl := Option.some.inj h
    exact mn_rfl _
set_option maxHeartbeats 4000000 in
set_option maxRecDepth 100000 in
theorem lb_L_trades_1167 {p : Program} {l : Launch} (hl : l.stackTraces = false) {e : Env} {s : State} {m : MethodId} {args : Array Value} {below : List Frame} {meth : Method} {c : Code} {D : va_G} {E : Nat → ClassId} {sz : Nat} {μ0 : MP} {ν0 : NC} {a0 : AS} {Ad0 : Nat → Nat → Nat} {Q : Nat → Nat} {B : Nat × (Nat → Nat)} {w : Nat} {r0 : ((MP × NC) × AS) × Int32} (C : cx p s m args meth c D E (Aof (zS μ0 ν0 a0 Ad0) [] s.heap.size) cL_trades 27 "TradeLineLaw") (hEv : eV (Ad0 30 0) (Ad0 31 0) B (Aof (zS μ0 ν0 a0 Ad0) [] s.heap.size) s s.heap) (hN : vN s) (hr : meth.sig.returnType = (some .boolean)) (hz : s.heap.size = sz) (hI0 : lwI ν0) (hQ0 : lwQ Ad0 Q) {μ : MP} {ν : NC} {a : AS} {Ad : Nat → Nat → Nat} (hm0 : mn ν0 ν) (hp0 : kp ν0 Ad0 Ad)  {s0 : Int32}   (h : b_L_trades_1167  w μ ν a  s0 = some r0) : G p l e ({ frames := 11, cells := kc r0.1.1.2 - kc ν0, slots := ks r0.1.1.2 - ks ν0, locals := 325 } : Room) s m args below meth c D E (Aof (zS μ0 ν0 a0 Ad0) [] s.heap.size) 27 (MQ below (cQ D E sz (zS μ0 ν0 a0 Ad0) [] (pI (fun r u => r = r0.2 ∧ ∃ A1, u = (zS r0.1.1.1 r0.1.1.2 r0.1.2 A1, []) ∧ kp ν0 Ad0 A1))) args s (kc r0.1.1.2 - kc ν0) (ks r0.1.1.2 - ks ν0) (Aof (zS μ0 ν0 a0 Ad0) [] s.heap.size)) (zS μ ν a Ad) [] (kc ν - kc ν0) (ks ν - ks ν0) 1167 [] [.int s0] := by
  have m0 := mb_L_trades_1167  h
  have e1 := m0.2.1; have e2 := m0.2.2.1; have e3 := hm0.2.1; have e4 := hm0.2.2.1
  have hI := lwI_mn hI0 hm0; have hQ := lwQ_kp hI0 hp0 hQ0
  unfold b_L_trades_1167 at h
  refine g_sipush (v := (-7300 : Int32)) C dL_trades_1167 (by decide) ?_
  refine g_icmp_ne (tgt := 1177) C dL_trades_1170 (by decide) (fun c1170 => ?_) (fun c1170 => ?_)
  · replace h := (if_neg c1170).symm.trans h
    refine g_iconst (v := (0 : Int32)) C dL_trades_1177 (by decide) ?_
    obtain rfl := Option.some.inj h
    exact g_iret C hr rfl hz ⟨(hm0.2.2.2 30 (by decide) (by decide)).1, (hm0.2.2.2 31 (by decide) (by decide)).1, hp0.2.1, hp0.2.2⟩ ⟨rfl, Ad, rfl, hp0⟩ (fun j x h => by simp at h) dL_trades_1178
  · replace h := (if_pos c1170).symm.trans h
    refine g_iconst (v := (1 : Int32)) C dL_trades_1173 (by decide) ?_
    refine g_goto (tgt := 1178) C dL_trades_1174 (by decide) ?_
    obtain rfl := Option.some.inj h
    exact g_iret C hr rfl hz ⟨(hm0.2.2.2 30 (by decide) (by decide)).1, (hm0.2.2.2 31 (by decide) (by decide)).1, hp0.2.1, hp0.2.2⟩ ⟨rfl, Ad, rfl, hp0⟩ (fun j x h => by simp at h) dL_trades_1178
noncomputable def b_L_trades_1136  (w : Nat) (μ : MP) (ν : NC) (a : AS) (x1 : Int32) (x16 : Int32) (x19 : Int32) (s0 : Int32) : Option (((MP × NC) × AS) × Int32) := bif ixB x19 60 then yl ((Int64.toInt32 ((lgA a 13 x19.toNatClampNeg) &&& (15 : Int64)))) (fun t9 => (if x1 = (9 : Int32) then ((if s0 = (0 : Int32) then (yl (wLg a 13 x19.toNatClampNeg ((lgA a 13 x19.toNatClampNeg) ||| (8796093022208 : Int64))) (fun a18 => bif ixB ((10 : Int32) + t9) 20 then (f_L_size w a18 (lgA a18 13 x19.toNatClampNeg)).bind (fun v20 => yl (up2 a18 10 ((10 : Int32) + t9).toNatClampNeg ((a18 10 ((10 : Int32) + t9).toNatClampNeg) - v20)) (fun a21 => (f_L_size w a21 (lgA a21 13 x19.toNatClampNeg)).bind (fun v22 => yl (up2 a21 11 ((10 : Int32) + t9).toNatClampNeg ((a21 11 ((10 : Int32) + t9).toNatClampNeg) + v22)) (fun a23 => (f_L_send w a23 (1 : Int32) (8 : Int32) (5 : Int32) t9 x19 (0 : Int32)).bind (fun v24 => (f_L_bust w μ ν x19).bind (fun v25 => b_L_trades_1256  w v25.1.1 v25.1.2 v24.1 t9 v25.2)))))) else none)) else ((f_L_bust w μ ν x19).bind (fun v27 => b_L_trades_1167  w v27.1.1 v27.1.2 a v27.2)))) else ((f_L_correct w μ ν x19 (0 : Int32)).bind (fun v10 => b_L_trades_1280  w v10.1.1 v10.1.2 a x16 x19 s0 t9 v10.2)))) else none
theorem mb_L_trades_1136 {w : Nat} {μ : MP} {ν : NC} {a : AS} {x1 : Int32} {x16 : Int32} {x19 : Int32} {s0 : Int32} {r0 : ((MP × NC) × AS) × Int32}   (h : b_L_trades_1136  w μ ν a x1 x16 x19 s0 = some r0) : mn ν r0.1.1.2 := by
  unfold b_L_trades_1136 at h
  replace h := (of_guard h).2
  obtain ⟨t9, et9⟩ : ∃ y, (Int64.toInt32 ((lgA a 13 x19.toNatClampNeg) &&& (15 : Int64))) = y := ⟨_, rfl⟩
  replace h := yl_of h et9
  by_cases c1153 : x1 = (9 : Int32)
  · replace h := (if_pos c1153).symm.trans h
    by_cases c1158 : s0 = (0 : Int32)
    · replace h := (if_pos c1158).symm.trans h
      obtain ⟨a18, ea18⟩ : ∃ y, wLg a 13 x19.toNatClampNeg ((lgA a 13 x19.toNatClampNeg) ||| (8796093022208 : Int64)) = y := ⟨_, rfl⟩
      replace h := yl_of h ea18
      replace h := (of_guard h).2
      obtain ⟨v20, hv20, h⟩ := bind_of h
      obtain ⟨a21, ea21⟩ : ∃ y, up2 a18 10 ((10 : Int32) + t9).toNatClampNeg ((a18 10 ((10 : Int32) + t9).toNatClampNeg) - v20) = y := ⟨_, rfl⟩
      replace h := yl_of h ea21
      obtain ⟨v22, hv22, h⟩ := bind_of h
      obtain ⟨a23, ea23⟩ : ∃ y, up2 a21 11 ((10 : Int32) + t9).toNatClampNeg ((a21 11 ((10 : Int32) + t9).toNatClampNeg) + v22) = y := ⟨_, rfl⟩
      replace h := yl_of h ea23
      obtain ⟨v24, hv24, h⟩ := bind_of h
      obtain ⟨v25, hv25, h⟩ := bind_of h
      exact mn_trans (m_L_bust hv25) (mb_L_trades_1256  h)
    · replace h := (if_neg c1158).symm.trans h
      obtain ⟨v27, hv27, h⟩ := bind_of h
      exact mn_trans (m_L_bust hv27) (mb_L_trades_1167  h)
  · replace h := (if_neg c1153).symm.trans h
    obtain ⟨v10, hv10, h⟩ := bind_of h
    exact mn_trans (m_L_correct hv10) (mb_L_trades_1280  h)
set_option maxHeartbeats 4000000 in
set_option maxRecDepth 100000 in
theorem lb_L_trades_1136 {p : Program} {l : Launch} (hl : l.stackTraces = false) {e : Env} {s : State} {m : MethodId} {args : Array Value} {below : List Frame} {meth : Method} {c : Code} {D : va_G} {E : Nat → ClassId} {sz : Nat} {μ0 : MP} {ν0 : NC} {a0 : AS} {Ad0 : Nat → Nat → Nat} {Q : Nat → Nat} {B : Nat × (Nat → Nat)} {w : Nat} {r0 : ((MP × NC) × AS) × Int32} (C : cx p s m args meth c D E (Aof (zS μ0 ν0 a0 Ad0) [] s.heap.size) cL_trades 27 "TradeLineLaw") (hEv : eV (Ad0 30 0) (Ad0 31 0) B (Aof (zS μ0 ν0 a0 Ad0) [] s.heap.size) s s.heap) (hN : vN s) (hr : meth.sig.returnType = (some .boolean)) (hz : s.heap.size = sz) (hI0 : lwI ν0) (hQ0 : lwQ Ad0 Q) {μ : MP} {ν : NC} {a : AS} {Ad : Nat → Nat → Nat} (hm0 : mn ν0 ν) (hp0 : kp ν0 Ad0 Ad) {x1 : Int32} {x16 : Int32} {x19 : Int32} {s0 : Int32}   (h : b_L_trades_1136  w μ ν a x1 x16 x19 s0 = some r0) : G p l e ({ frames := 11, cells := kc r0.1.1.2 - kc ν0, slots := ks r0.1.1.2 - ks ν0, locals := 325 } : Room) s m args below meth c D E (Aof (zS μ0 ν0 a0 Ad0) [] s.heap.size) 27 (MQ below (cQ D E sz (zS μ0 ν0 a0 Ad0) [] (pI (fun r u => r = r0.2 ∧ ∃ A1, u = (zS r0.1.1.1 r0.1.1.2 r0.1.2 A1, []) ∧ kp ν0 Ad0 A1))) args s (kc r0.1.1.2 - kc ν0) (ks r0.1.1.2 - ks ν0) (Aof (zS μ0 ν0 a0 Ad0) [] s.heap.size)) (zS μ ν a Ad) [] (kc ν - kc ν0) (ks ν - ks ν0) 1136 [(0, .ref (Q 0)), (1, .int x1), (4, .ref (Q 1)), (5, .ref (Q 2)), (6, .ref (Q 3)), (7, .ref (Q 4)), (8, .ref (Q 5)), (11, .ref (Q 10)), (12, .ref (Q 11)), (14, .ref (Q 13)), (16, .int x16), (19, .int x19)] [.int s0] := by
  have m0 := mb_L_trades_1136  h
  have e1 := m0.2.1; have e2 := m0.2.2.1; have e3 := hm0.2.1; have e4 := hm0.2.2.1
  have hI := lwI_mn hI0 hm0; have hQ := lwQ_kp hI0 hp0 hQ0
  unfold b_L_trades_1136 at h
  refine g_istore (lv' := [(20, .int s0), (0, .ref (Q 0)), (1, .int x1), (4, .ref (Q 1)), (5, .ref (Q 2)), (6, .ref (Q 3)), (7, .ref (Q 4)), (8, .ref (Q 5)), (11, .ref (Q 10)), (12, .ref (Q 11)), (14, .ref (Q 13)), (16, .int x16), (19, .int x19)]) C dL_trades_1136 (by decide) rfl ?_
  refine g_aload C dL_trades_1138 10 rfl ?_
  refine g_iload C dL_trades_1140 12 rfl ?_
  obtain ⟨g8, h⟩ := of_guard h
  refine q_lald C (show rsh (ν.1, μ.2, ν.2, Ad) from hI.2) (j := 13) (N := 60) (by decide) (lwQ_l hQ (j := 13) (N := 60) (by decide)) g8 dL_trades_1142 ?_
  refine g_ldc2 (v := (15 : Int64)) C gw_999 dL_trades_1143 ?_
  refine g_land C dL_trades_1146 ?_
  refine g_l2i C dL_trades_1147 ?_
  refine q_topi (fun t9 et9 => ?_)
  replace h := yl_of h et9
  refine g_istore (lv' := [(21, .int t9), (20, .int s0), (0, .ref (Q 0)), (1, .int x1), (4, .ref (Q 1)), (5, .ref (Q 2)), (6, .ref (Q 3)), (7, .ref (Q 4)), (8, .ref (Q 5)), (11, .ref (Q 10)), (12, .ref (Q 11)), (14, .ref (Q 13)), (16, .int x16), (19, .int x19)]) C dL_trades_1148 (by decide) rfl ?_
  refine g_iload_n C dL_trades_1150 rfl 3 rfl ?_
  refine g_bipush (v := (9 : Int32)) C dL_trades_1151 (by decide) ?_
  refine g_icmp_ne (tgt := 1273) C dL_trades_1153 (by decide) (fun c1153 => ?_) (fun c1153 => ?_)
  · replace h := (if_neg c1153).symm.trans h
    refine g_aload_n C dL_trades_1273 rfl 2 rfl ?_
    refine g_iload C dL_trades_1274 13 rfl ?_
    refine g_iconst (v := (0 : Int32)) C dL_trades_1276 (by decide) ?_
    obtain ⟨v10, hv10, h⟩ := bind_of h
    have m2 := m_L_correct hv10
    have m3 := mb_L_trades_1280  h
    have a1 := hm0.2.1; have a2 := hm0.2.2.1; have b1 := m2.2.1; have b2 := m2.2.2.1; have d1 := m3.2.1; have d2 := m3.2.2.1
    refine g_cSh (n := 3) (exr := []) C hEv hN ⟨hp0.2.1 0, hp0.2.2 0⟩ [_, _, _] _ rfl rfl [] rfl rfl (fun sz => wc_L_correct l hl B _ ν _ Ad Q hI hQ w _ _ _ hv10 D E sz) rfl gh_correct gw_0 gw_1205 gw_1206 ⟨by decide +kernel, by decide +kernel, by decide +kernel⟩ ⟨rfl, rfl⟩ ⟨Nat.le_of_ble_eq_true rfl, Nat.le_of_ble_eq_true rfl⟩ (Nat.le_of_ble_eq_true rfl) dL_trades_1277 ⟨by show (kc ν - kc ν0) + (kc v10.1.2 - kc ν) ≤ kc r0.1.1.2 - kc ν0; omega, by show (ks ν - ks ν0) + (ks v10.1.2 - ks ν) ≤ ks r0.1.1.2 - ks ν0; omega⟩ (fun r u hp hx => ?_)
    obtain ⟨er, A1, rfl, hkp⟩ := hp
    rw [er]
    try dsimp only [List.append_nil]
    refine g_widen (k := kc v10.1.2 - kc ν0) (n := ks v10.1.2 - ks ν0) (by omega) (by omega) ?_
    refine g_lv [2, 4, 5, 6, 7, 8, 11, 12, 13, 1, 0] rfl ?_
    exact lb_L_trades_1280 hl C hEv hN hr hz hI0 hQ0 (mn_trans hm0 m2) (kp_trans hp0 hm0 hkp)  h
  · replace h := (if_pos c1153).symm.trans h
    refine g_iload C dL_trades_1156 1 rfl ?_
    refine g_if_eq (tgt := 1179) C dL_trades_1158 (by decide) (fun c1158 => ?_) (fun c1158 => ?_)
    · replace h := (if_pos c1158).symm.trans h
      refine g_aload C dL_trades_1179 11 rfl ?_
      refine g_iload C dL_trades_1181 13 rfl ?_
      refine g_dup2 C dL_trades_1183 rfl rfl ?_
      refine q_lald C (show rsh (ν.1, μ.2, ν.2, Ad) from hI.2) (j := 13) (N := 60) (by decide) (lwQ_l hQ (j := 13) (N := 60) (by decide)) g8 dL_trades_1184 ?_
      refine g_ldc2 (v := (8796093022208 : Int64)) C gw_1212 dL_trades_1185 ?_
      refine g_lor C dL_trades_1188 ?_
      refine q_last C (show rsh (ν.1, μ.2, ν.2, Ad) from hI.2) (j := 13) (N := 60) (by decide) (lwQ_l hQ (j := 13) (N := 60) (by decide)) g8 dL_trades_1189 (fun a18 ea18 => ?_)
      replace h := yl_of h ea18
      refine g_aload C dL_trades_1190 9 rfl ?_
      refine g_bipush (v := (10 : Int32)) C dL_trades_1192 (by decide) ?_
      refine g_iload C dL_trades_1194 0 rfl ?_
      refine g_iadd C dL_trades_1196 ?_
      refine g_dup2 C dL_trades_1197 rfl rfl ?_
      obtain ⟨g19, h⟩ := of_guard h
      refine q_iald C (show rsh (ν.1, μ.2, ν.2, Ad) from hI.2) (j := 10) (N := 20) (by decide) (lwQ_i hQ (j := 10) (N := 20) (by decide)) g19 dL_trades_1198 ?_
      refine g_aload C dL_trades_1199 11 rfl ?_
      refine g_iload C dL_trades_1201 13 rfl ?_
      refine q_lald C (show rsh (ν.1, μ.2, ν.2, Ad) from hI.2) (j := 13) (N := 60) (by decide) (lwQ_l hQ (j := 13) (N := 60) (by decide)) g8 dL_trades_1203 ?_
      obtain ⟨v20, hv20, h⟩ := bind_of h
      refine g_cSi (n := 1) (exc := []) (exr := []) C [_] _ rfl rfl [] [] rfl rfl rfl rfl (fun _ h => absurd h (by simp)) (fun _ h => absurd h (by simp)) (fun _ h => absurd h (by simp)) (fun sz => wk_L_size l _ ν _ Ad Q hI hQ w _  _ hv20 D E sz) rfl gw_1016 gw_0 gw_1014 gw_1015 ⟨by decide +kernel, by decide +kernel, by decide +kernel⟩ ⟨rfl, rfl⟩ ⟨Nat.le_of_ble_eq_true rfl, Nat.le_of_ble_eq_true rfl⟩ (Nat.le_of_ble_eq_true rfl) dL_trades_1204 ⟨by show (kc ν - kc ν0) + 0 ≤ kc r0.1.1.2 - kc ν0; omega, by show (ks ν - ks ν0) + 0 ≤ ks r0.1.1.2 - ks ν0; omega⟩ (fun r u hp hx => ?_)
      obtain ⟨er, rfl⟩ := hp
      rw [er]
      try dsimp only [List.append_nil]
      refine g_isub C dL_trades_1207 ?_
      refine q_iast C (show rsh (ν.1, μ.2, ν.2, Ad) from hI.2) (j := 10) (N := 20) (by decide) (lwQ_i hQ (j := 10) (N := 20) (by decide)) g19 dL_trades_1208 (fun a21 ea21 => ?_)
      replace h := yl_of h ea21
      refine g_aload C dL_trades_1209 10 rfl ?_
      refine g_bipush (v := (10 : Int32)) C dL_trades_1211 (by decide) ?_
      refine g_iload C dL_trades_1213 0 rfl ?_
      refine g_iadd C dL_trades_1215 ?_
      refine g_dup2 C dL_trades_1216 rfl rfl ?_
      refine q_iald C (show rsh (ν.1, μ.2, ν.2, Ad) from hI.2) (j := 11) (N := 20) (by decide) (lwQ_i hQ (j := 11) (N := 20) (by decide)) g19 dL_trades_1217 ?_
      refine g_aload C dL_trades_1218 11 rfl ?_
      refine g_iload C dL_trades_1220 13 rfl ?_
      refine q_lald C (show rsh (ν.1, μ.2, ν.2, Ad) from hI.2) (j := 13) (N := 60) (by decide) (lwQ_l hQ (j := 13) (N := 60) (by decide)) g8 dL_trades_1222 ?_
      obtain ⟨v22, hv22, h⟩ := bind_of h
      refine g_cSi (n := 1) (exc := []) (exr := []) C [_] _ rfl rfl [] [] rfl rfl rfl rfl (fun _ h => absurd h (by simp)) (fun _ h => absurd h (by simp)) (fun _ h => absurd h (by simp)) (fun sz => wk_L_size l _ ν _ Ad Q hI hQ w _  _ hv22 D E sz) rfl gw_1016 gw_0 gw_1014 gw_1015 ⟨by decide +kernel, by decide +kernel, by decide +kernel⟩ ⟨rfl, rfl⟩ ⟨Nat.le_of_ble_eq_true rfl, Nat.le_of_ble_eq_true rfl⟩ (Nat.le_of_ble_eq_true rfl) dL_trades_1223 ⟨by show (kc ν - kc ν0) + 0 ≤ kc r0.1.1.2 - kc ν0; omega, by show (ks ν - ks ν0) + 0 ≤ ks r0.1.1.2 - ks ν0; omega⟩ (fun r u hp hx => ?_)
      obtain ⟨er, rfl⟩ := hp
      rw [er]
      try dsimp only [List.append_nil]
      refine g_iadd C dL_trades_1226 ?_
      refine q_iast C (show rsh (ν.1, μ.2, ν.2, Ad) from hI.2) (j := 11) (N := 20) (by decide) (lwQ_i hQ (j := 11) (N := 20) (by decide)) g19 dL_trades_1227 (fun a23 ea23 => ?_)
      replace h := yl_of h ea23
      refine g_aload C dL_trades_1228 4 rfl ?_
      refine g_aload C dL_trades_1230 5 rfl ?_
      refine g_aload C dL_trades_1232 6 rfl ?_
      refine g_aload C dL_trades_1234 7 rfl ?_
      refine g_aload C dL_trades_1236 8 rfl ?_
      refine g_iconst (v := (1 : Int32)) C dL_trades_1238 (by decide) ?_
      refine g_bipush (v := (8 : Int32)) C dL_trades_1239 (by decide) ?_
      refine g_iconst (v := (5 : Int32)) C dL_trades_1241 (by decide) ?_
      refine g_iload C dL_trades_1242 0 rfl ?_
      refine g_iload C dL_trades_1244 13 rfl ?_
      refine g_iconst (v := (0 : Int32)) C dL_trades_1246 (by decide) ?_
      obtain ⟨v24, hv24, h⟩ := bind_of h
      refine g_cSv (n := 11) (exc := []) (exr := []) C [_, _, _, _, _, _, _, _, _, _, _] _ rfl rfl [] [] rfl rfl rfl rfl (fun _ h => absurd h (by simp)) (fun _ h => absurd h (by simp)) (fun _ h => absurd h (by simp)) (fun sz => wk_L_send l _ ν _ Ad Q hI hQ w _ _ _ _ _ _  _ hv24 D E sz) rfl gw_458 gw_0 gw_456 gw_457 ⟨by decide +kernel, by decide +kernel, by decide +kernel⟩ ⟨rfl, rfl⟩ ⟨Nat.le_of_ble_eq_true rfl, Nat.le_of_ble_eq_true rfl⟩ (Nat.le_of_ble_eq_true rfl) dL_trades_1247 ⟨by show (kc ν - kc ν0) + 0 ≤ kc r0.1.1.2 - kc ν0; omega, by show (ks ν - ks ν0) + 0 ≤ ks r0.1.1.2 - ks ν0; omega⟩ (fun u hp hx => ?_)
      obtain rfl := hp
      try dsimp only [List.append_nil]
      refine g_aload_n C dL_trades_1250 rfl 2 rfl ?_
      refine g_iload C dL_trades_1251 13 rfl ?_
      obtain ⟨v25, hv25, h⟩ := bind_of h
      have m2 := m_L_bust hv25
      have m3 := mb_L_trades_1256  h
      have a1 := hm0.2.1; have a2 := hm0.2.2.1; have b1 := m2.2.1; have b2 := m2.2.2.1; have d1 := m3.2.1; have d2 := m3.2.2.1
      refine g_cSh (n := 2) (exr := []) C hEv hN ⟨hp0.2.1 0, hp0.2.2 0⟩ [_, _] _ rfl rfl [] rfl rfl (fun sz => wc_L_bust l hl B _ ν _ Ad Q hI hQ w _ _ hv25 D E sz) rfl gh_bust gw_0 gw_1189 gw_1190 ⟨by decide +kernel, by decide +kernel, by decide +kernel⟩ ⟨rfl, rfl⟩ ⟨Nat.le_of_ble_eq_true rfl, Nat.le_of_ble_eq_true rfl⟩ (Nat.le_of_ble_eq_true rfl) dL_trades_1253 ⟨by show (kc ν - kc ν0) + (kc v25.1.2 - kc ν) ≤ kc r0.1.1.2 - kc ν0; omega, by show (ks ν - ks ν0) + (ks v25.1.2 - ks ν) ≤ ks r0.1.1.2 - ks ν0; omega⟩ (fun r u hp hx => ?_)
      obtain ⟨er, A1, rfl, hkp⟩ := hp
      rw [er]
      try dsimp only [List.append_nil]
      refine g_widen (k := kc v25.1.2 - kc ν0) (n := ks v25.1.2 - ks ν0) (by omega) (by omega) ?_
      refine g_lv [9, 0] rfl ?_
      exact lb_L_trades_1256 hl C hEv hN hr hz hI0 hQ0 (mn_trans hm0 m2) (kp_trans hp0 hm0 hkp)  h
    · replace h := (if_neg c1158).symm.trans h
      refine g_aload_n C dL_trades_1161 rfl 2 rfl ?_
      refine g_iload C dL_trades_1162 13 rfl ?_
      obtain ⟨v27, hv27, h⟩ := bind_of h
      have m2 := m_L_bust hv27
      have m3 := mb_L_trades_1167  h
      have a1 := hm0.2.1; have a2 := hm0.2.2.1; have b1 := m2.2.1; have b2 := m2.2.2.1; have d1 := m3.2.1; have d2 := m3.2.2.1
      refine g_cSh (n := 2) (exr := []) C hEv hN ⟨hp0.2.1 0, hp0.2.2 0⟩ [_, _] _ rfl rfl [] rfl rfl (fun sz => wc_L_bust l hl B _ ν _ Ad Q hI hQ w _ _ hv27 D E sz) rfl gh_bust gw_0 gw_1189 gw_1190 ⟨by decide +kernel, by decide +kernel, by decide +kernel⟩ ⟨rfl, rfl⟩ ⟨Nat.le_of_ble_eq_true rfl, Nat.le_of_ble_eq_true rfl⟩ (Nat.le_of_ble_eq_true rfl) dL_trades_1164 ⟨by show (kc ν - kc ν0) + (kc v27.1.2 - kc ν) ≤ kc r0.1.1.2 - kc ν0; omega, by show (ks ν - ks ν0) + (ks v27.1.2 - ks ν) ≤ ks r0.1.1.2 - ks ν0; omega⟩ (fun r u hp hx => ?_)
      obtain ⟨er, A1, rfl, hkp⟩ := hp
      rw [er]
      try dsimp only [List.append_nil]
      refine g_widen (k := kc v27.1.2 - kc ν0) (n := ks v27.1.2 - ks ν0) (by omega) (by omega) ?_
      refine g_lv [] rfl ?_
      exact lb_L_trades_1167 hl C hEv hN hr hz hI0 hQ0 (mn_trans hm0 m2) (kp_trans hp0 hm0 hkp)  h
noncomputable def b_L_trades_1104  (w : Nat) (μ : MP) (ν : NC) (a : AS)  (s0 : Int32) : Option (((MP × NC) × AS) × Int32) := (if s0 = (-7100 : Int32) then (some (((μ, ν), a), (1 : Int32))) else (some (((μ, ν), a), (0 : Int32))))
theorem mb_L_trades_1104 {w : Nat} {μ : MP} {ν : NC} {a : AS}  {s0 : Int32} {r0 : ((MP × NC) × AS) × Int32}   (h : b_L_trades_1104  w μ ν a  s0 = some r0) : mn ν r0.1.1.2 := by
  unfold b_L_trades_1104 at h
  by_cases c1107 : s0 = (-7100 : Int32)
  · replace h := (if_pos c1107).symm.trans h
    obtain rfl := Option.some.inj h
    exact mn_rfl _
  · replace h := (if_neg c1107).symm.trans h
    obtain rfl := Option.some.inj h
    exact mn_rfl _
set_option maxHeartbeats 4000000 in
set_option maxRecDepth 100000 in
theorem lb_L_trades_1104 {p : Program} {l : Launch} (hl : l.stackTraces = false) {e : Env} {s : State} {m : MethodId} {args : Array Value} {below : List Frame} {meth : Method} {c : Code} {D : va_G} {E : Nat → ClassId} {sz : Nat} {μ0 : MP} {ν0 : NC} {a0 : AS} {Ad0 : Nat → Nat → Nat} {Q : Nat → Nat} {B : Nat × (Nat → Nat)} {w : Nat} {r0 : ((MP × NC) × AS) × Int32} (C : cx p s m args meth c D E (Aof (zS μ0 ν0 a0 Ad0) [] s.heap.size) cL_trades 27 "TradeLineLaw") (hEv : eV (Ad0 30 0) (Ad0 31 0) B (Aof (zS μ0 ν0 a0 Ad0) [] s.heap.size) s s.heap) (hN : vN s) (hr : meth.sig.returnType = (some .boolean)) (hz : s.heap.size = sz) (hI0 : lwI ν0) (hQ0 : lwQ Ad0 Q) {μ : MP} {ν : NC} {a : AS} {Ad : Nat → Nat → Nat} (hm0 : mn ν0 ν) (hp0 : kp ν0 Ad0 Ad)  {s0 : Int32}   (h : b_L_trades_1104  w μ ν a  s0 = some r0) : G p l e ({ frames := 11, cells := kc r0.1.1.2 - kc ν0, slots := ks r0.1.1.2 - ks ν0, locals := 325 } : Room) s m args below meth c D E (Aof (zS μ0 ν0 a0 Ad0) [] s.heap.size) 27 (MQ below (cQ D E sz (zS μ0 ν0 a0 Ad0) [] (pI (fun r u => r = r0.2 ∧ ∃ A1, u = (zS r0.1.1.1 r0.1.1.2 r0.1.2 A1, []) ∧ kp ν0 Ad0 A1))) args s (kc r0.1.1.2 - kc ν0) (ks r0.1.1.2 - ks ν0) (Aof (zS μ0 ν0 a0 Ad0) [] s.heap.size)) (zS μ ν a Ad) [] (kc ν - kc ν0) (ks ν - ks ν0) 1104 [] [.int s0] := by
  have m0 := mb_L_trades_1104  h
  have e1 := m0.2.1; have e2 := m0.2.2.1; have e3 := hm0.2.1; have e4 := hm0.2.2.1
  have hI := lwI_mn hI0 hm0; have hQ := lwQ_kp hI0 hp0 hQ0
  unfold b_L_trades_1104 at h
  refine g_sipush (v := (-7100 : Int32)) C dL_trades_1104 (by decide) ?_
  refine g_icmp_ne (tgt := 1114) C dL_trades_1107 (by decide) (fun c1107 => ?_) (fun c1107 => ?_)
  · replace h := (if_neg c1107).symm.trans h
    refine g_iconst (v := (0 : Int32)) C dL_trades_1114 (by decide) ?_
    obtain rfl := Option.some.inj h
    exact g_iret C hr rfl hz ⟨(hm0.2.2.2 30 (by decide) (by decide)).1, (hm0.2.2.2 31 (by decide) (by decide)).1, hp0.2.1, hp0.2.2⟩ ⟨rfl, Ad, rfl, hp0⟩ (fun j x h => by simp at h) dL_trades_1115
  · replace h := (if_pos c1107).symm.trans h
    refine g_iconst (v := (1 : Int32)) C dL_trades_1110 (by decide) ?_
    refine g_goto (tgt := 1115) C dL_trades_1111 (by decide) ?_
    obtain rfl := Option.some.inj h
    exact g_iret C hr rfl hz ⟨(hm0.2.2.2 30 (by decide) (by decide)).1, (hm0.2.2.2 31 (by decide) (by decide)).1, hp0.2.1, hp0.2.2⟩ ⟨rfl, Ad, rfl, hp0⟩ (fun j x h => by simp at h) dL_trades_1115
noncomputable def b_L_trades_1093  (w : Nat) (μ : MP) (ν : NC) (a : AS)  (s0 : Int32) : Option (((MP × NC) × AS) × Int32) := (if s0 = (-7100 : Int32) then ((f_L_bust w μ ν (-1 : Int32)).bind (fun v30 => b_L_trades_1104  w v30.1.1 v30.1.2 a v30.2)) else (some (((μ, ν), a), (0 : Int32))))
theorem mb_L_trades_1093 {w : Nat} {μ : MP} {ν : NC} {a : AS}  {s0 : Int32} {r0 : ((MP × NC) × AS) × Int32}   (h : b_L_trades_1093  w μ ν a  s0 = some r0) : mn ν r0.1.1.2 := by
  unfold b_L_trades_1093 at h
  by_cases c1096 : s0 = (-7100 : Int32)
  · replace h := (if_pos c1096).symm.trans h
    obtain ⟨v30, hv30, h⟩ := bind_of h
    exact mn_trans (m_L_bust hv30) (mb_L_trades_1104  h)
  · replace h := (if_neg c1096).symm.trans h
    obtain rfl := Option.some.inj h
    exact mn_rfl _
set_option maxHeartbeats 4000000 in
set_option maxRecDepth 100000 in
theorem lb_L_trades_1093 {p : Program} {l : Launch} (hl : l.stackTraces = false) {e : Env} {s : State} {m : MethodId} {args : Array Value} {below : List Frame} {meth : Method} {c : Code} {D : va_G} {E : Nat → ClassId} {sz : Nat} {μ0 : MP} {ν0 : NC} {a0 : AS} {Ad0 : Nat → Nat → Nat} {Q : Nat → Nat} {B : Nat × (Nat → Nat)} {w : Nat} {r0 : ((MP × NC) × AS) × Int32} (C : cx p s m args meth c D E (Aof (zS μ0 ν0 a0 Ad0) [] s.heap.size) cL_trades 27 "TradeLineLaw") (hEv : eV (Ad0 30 0) (Ad0 31 0) B (Aof (zS μ0 ν0 a0 Ad0) [] s.heap.size) s s.heap) (hN : vN s) (hr : meth.sig.returnType = (some .boolean)) (hz : s.heap.size = sz) (hI0 : lwI ν0) (hQ0 : lwQ Ad0 Q) {μ : MP} {ν : NC} {a : AS} {Ad : Nat → Nat → Nat} (hm0 : mn ν0 ν) (hp0 : kp ν0 Ad0 Ad)  {s0 : Int32}   (h : b_L_trades_1093  w μ ν a  s0 = some r0) : G p l e ({ frames := 11, cells := kc r0.1.1.2 - kc ν0, slots := ks r0.1.1.2 - ks ν0, locals := 325 } : Room) s m args below meth c D E (Aof (zS μ0 ν0 a0 Ad0) [] s.heap.size) 27 (MQ below (cQ D E sz (zS μ0 ν0 a0 Ad0) [] (pI (fun r u => r = r0.2 ∧ ∃ A1, u = (zS r0.1.1.1 r0.1.1.2 r0.1.2 A1, []) ∧ kp ν0 Ad0 A1))) args s (kc r0.1.1.2 - kc ν0) (ks r0.1.1.2 - ks ν0) (Aof (zS μ0 ν0 a0 Ad0) [] s.heap.size)) (zS μ ν a Ad) [] (kc ν - kc ν0) (ks ν - ks ν0) 1093 [(0, .ref (Q 0))] [.int s0] := by
  have m0 := mb_L_trades_1093  h
  have e1 := m0.2.1; have e2 := m0.2.2.1; have e3 := hm0.2.1; have e4 := hm0.2.2.1
  have hI := lwI_mn hI0 hm0; have hQ := lwQ_kp hI0 hp0 hQ0
  unfold b_L_trades_1093 at h
  refine g_sipush (v := (-7100 : Int32)) C dL_trades_1093 (by decide) ?_
  refine g_icmp_ne (tgt := 1114) C dL_trades_1096 (by decide) (fun c1096 => ?_) (fun c1096 => ?_)
  · replace h := (if_neg c1096).symm.trans h
    refine g_iconst (v := (0 : Int32)) C dL_trades_1114 (by decide) ?_
    obtain rfl := Option.some.inj h
    exact g_iret C hr rfl hz ⟨(hm0.2.2.2 30 (by decide) (by decide)).1, (hm0.2.2.2 31 (by decide) (by decide)).1, hp0.2.1, hp0.2.2⟩ ⟨rfl, Ad, rfl, hp0⟩ (fun j x h => by simp at h) dL_trades_1115
  · replace h := (if_pos c1096).symm.trans h
    refine g_aload_n C dL_trades_1099 rfl 0 rfl ?_
    refine g_iconst (v := (-1 : Int32)) C dL_trades_1100 (by decide) ?_
    obtain ⟨v30, hv30, h⟩ := bind_of h
    have m2 := m_L_bust hv30
    have m3 := mb_L_trades_1104  h
    have a1 := hm0.2.1; have a2 := hm0.2.2.1; have b1 := m2.2.1; have b2 := m2.2.2.1; have d1 := m3.2.1; have d2 := m3.2.2.1
    refine g_cSh (n := 2) (exr := []) C hEv hN ⟨hp0.2.1 0, hp0.2.2 0⟩ [_, _] _ rfl rfl [] rfl rfl (fun sz => wc_L_bust l hl B _ ν _ Ad Q hI hQ w _ _ hv30 D E sz) rfl gh_bust gw_0 gw_1189 gw_1190 ⟨by decide +kernel, by decide +kernel, by decide +kernel⟩ ⟨rfl, rfl⟩ ⟨Nat.le_of_ble_eq_true rfl, Nat.le_of_ble_eq_true rfl⟩ (Nat.le_of_ble_eq_true rfl) dL_trades_1101 ⟨by show (kc ν - kc ν0) + (kc v30.1.2 - kc ν) ≤ kc r0.1.1.2 - kc ν0; omega, by show (ks ν - ks ν0) + (ks v30.1.2 - ks ν) ≤ ks r0.1.1.2 - ks ν0; omega⟩ (fun r u hp hx => ?_)
    obtain ⟨er, A1, rfl, hkp⟩ := hp
    rw [er]
    try dsimp only [List.append_nil]
    refine g_widen (k := kc v30.1.2 - kc ν0) (n := ks v30.1.2 - ks ν0) (by omega) (by omega) ?_
    refine g_lv [] rfl ?_
    exact lb_L_trades_1104 hl C hEv hN hr hz hI0 hQ0 (mn_trans hm0 m2) (kp_trans hp0 hm0 hkp)  h
noncomputable def b_L_trades_1080  (w : Nat) (μ : MP) (ν : NC) (a : AS) (x19 : Int32) (s0 : Int32) : Option (((MP × NC) × AS) × Int32) := (if s0 = (-7100 : Int32) then ((f_L_correct w μ ν x19 (0 : Int32)).bind (fun v29 => b_L_trades_1093  w v29.1.1 v29.1.2 a v29.2)) else (some (((μ, ν), a), (0 : Int32))))
theorem mb_L_trades_1080 {w : Nat} {μ : MP} {ν : NC} {a : AS} {x19 : Int32} {s0 : Int32} {r0 : ((MP × NC) × AS) × Int32}   (h : b_L_trades_1080  w μ ν a x19 s0 = some r0) : mn ν r0.1.1.2 := by
  unfold b_L_trades_1080 at h
  by_cases c1083 : s0 = (-7100 : Int32)
  · replace h := (if_pos c1083).symm.trans h
    obtain ⟨v29, hv29, h⟩ := bind_of h
    exact mn_trans (m_L_correct hv29) (mb_L_trades_1093  h)
  · replace h := (if_neg c1083).symm.trans h
    obtain rfl := Option.some.inj h
    exact mn_rfl _
set_option maxHeartbeats 4000000 in
set_option maxRecDepth 100000 in
theorem lb_L_trades_1080 {p : Program} {l : Launch} (hl : l.stackTraces = false) {e : Env} {s : State} {m : MethodId} {args : Array Value} {below : List Frame} {meth : Method} {c : Code} {D : va_G} {E : Nat → ClassId} {sz : Nat} {μ0 : MP} {ν0 : NC} {a0 : AS} {Ad0 : Nat → Nat → Nat} {Q : Nat → Nat} {B : Nat × (Nat → Nat)} {w : Nat} {r0 : ((MP × NC) × AS) × Int32} (C : cx p s m args meth c D E (Aof (zS μ0 ν0 a0 Ad0) [] s.heap.size) cL_trades 27 "TradeLineLaw") (hEv : eV (Ad0 30 0) (Ad0 31 0) B (Aof (zS μ0 ν0 a0 Ad0) [] s.heap.size) s s.heap) (hN : vN s) (hr : meth.sig.returnType = (some .boolean)) (hz : s.heap.size = sz) (hI0 : lwI ν0) (hQ0 : lwQ Ad0 Q) {μ : MP} {ν : NC} {a : AS} {Ad : Nat → Nat → Nat} (hm0 : mn ν0 ν) (hp0 : kp ν0 Ad0 Ad) {x19 : Int32} {s0 : Int32}   (h : b_L_trades_1080  w μ ν a x19 s0 = some r0) : G p l e ({ frames := 11, cells := kc r0.1.1.2 - kc ν0, slots := ks r0.1.1.2 - ks ν0, locals := 325 } : Room) s m args below meth c D E (Aof (zS μ0 ν0 a0 Ad0) [] s.heap.size) 27 (MQ below (cQ D E sz (zS μ0 ν0 a0 Ad0) [] (pI (fun r u => r = r0.2 ∧ ∃ A1, u = (zS r0.1.1.1 r0.1.1.2 r0.1.2 A1, []) ∧ kp ν0 Ad0 A1))) args s (kc r0.1.1.2 - kc ν0) (ks r0.1.1.2 - ks ν0) (Aof (zS μ0 ν0 a0 Ad0) [] s.heap.size)) (zS μ ν a Ad) [] (kc ν - kc ν0) (ks ν - ks ν0) 1080 [(0, .ref (Q 0)), (19, .int x19)] [.int s0] := by
  have m0 := mb_L_trades_1080  h
  have e1 := m0.2.1; have e2 := m0.2.2.1; have e3 := hm0.2.1; have e4 := hm0.2.2.1
  have hI := lwI_mn hI0 hm0; have hQ := lwQ_kp hI0 hp0 hQ0
  unfold b_L_trades_1080 at h
  refine g_sipush (v := (-7100 : Int32)) C dL_trades_1080 (by decide) ?_
  refine g_icmp_ne (tgt := 1114) C dL_trades_1083 (by decide) (fun c1083 => ?_) (fun c1083 => ?_)
  · replace h := (if_neg c1083).symm.trans h
    refine g_iconst (v := (0 : Int32)) C dL_trades_1114 (by decide) ?_
    obtain rfl := Option.some.inj h
    exact g_iret C hr rfl hz ⟨(hm0.2.2.2 30 (by decide) (by decide)).1, (hm0.2.2.2 31 (by decide) (by decide)).1, hp0.2.1, hp0.2.2⟩ ⟨rfl, Ad, rfl, hp0⟩ (fun j x h => by simp at h) dL_trades_1115
  · replace h := (if_pos c1083).symm.trans h
    refine g_aload_n C dL_trades_1086 rfl 0 rfl ?_
    refine g_iload C dL_trades_1087 1 rfl ?_
    refine g_iconst (v := (0 : Int32)) C dL_trades_1089 (by decide) ?_
    obtain ⟨v29, hv29, h⟩ := bind_of h
    have m2 := m_L_correct hv29
    have m3 := mb_L_trades_1093  h
    have a1 := hm0.2.1; have a2 := hm0.2.2.1; have b1 := m2.2.1; have b2 := m2.2.2.1; have d1 := m3.2.1; have d2 := m3.2.2.1
    refine g_cSh (n := 3) (exr := []) C hEv hN ⟨hp0.2.1 0, hp0.2.2 0⟩ [_, _, _] _ rfl rfl [] rfl rfl (fun sz => wc_L_correct l hl B _ ν _ Ad Q hI hQ w _ _ _ hv29 D E sz) rfl gh_correct gw_0 gw_1205 gw_1206 ⟨by decide +kernel, by decide +kernel, by decide +kernel⟩ ⟨rfl, rfl⟩ ⟨Nat.le_of_ble_eq_true rfl, Nat.le_of_ble_eq_true rfl⟩ (Nat.le_of_ble_eq_true rfl) dL_trades_1090 ⟨by show (kc ν - kc ν0) + (kc v29.1.2 - kc ν) ≤ kc r0.1.1.2 - kc ν0; omega, by show (ks ν - ks ν0) + (ks v29.1.2 - ks ν) ≤ ks r0.1.1.2 - ks ν0; omega⟩ (fun r u hp hx => ?_)
    obtain ⟨er, A1, rfl, hkp⟩ := hp
    rw [er]
    try dsimp only [List.append_nil]
    refine g_widen (k := kc v29.1.2 - kc ν0) (n := ks v29.1.2 - ks ν0) (by omega) (by omega) ?_
    refine g_lv [0] rfl ?_
    exact lb_L_trades_1093 hl C hEv hN hr hz hI0 hQ0 (mn_trans hm0 m2) (kp_trans hp0 hm0 hkp)  h
noncomputable def b_L_trades_1001  (w : Nat) (μ : MP) (ν : NC) (a : AS) (x21 : Int32) (s0 : Int32) : Option (((MP × NC) × AS) × Int32) := bif ixB (19 : Int32) 22 then (if s0 = ((a 1 (19 : Int32).toNatClampNeg) - x21) then (some (((μ, ν), a), (1 : Int32))) else (some (((μ, ν), a), (0 : Int32)))) else none
theorem mb_L_trades_1001 {w : Nat} {μ : MP} {ν : NC} {a : AS} {x21 : Int32} {s0 : Int32} {r0 : ((MP × NC) × AS) × Int32}   (h : b_L_trades_1001  w μ ν a x21 s0 = some r0) : mn ν r0.1.1.2 := by
  unfold b_L_trades_1001 at h
  replace h := (of_guard h).2
  by_cases c1009 : s0 = ((a 1 (19 : Int32).toNatClampNeg) - x21)
  · replace h := (if_pos c1009).symm.trans h
    obtain rfl := Option.some.inj h
    exact mn_rfl _
  · replace h := (if_neg c1009).symm.trans h
    obtain rfl := Option.some.inj h
    exact mn_rfl _
set_option maxHeartbeats 4000000 in
set_option maxRecDepth 100000 in
theorem lb_L_trades_1001 {p : Program} {l : Launch} (hl : l.stackTraces = false) {e : Env} {s : State} {m : MethodId} {args : Array Value} {below : List Frame} {meth : Method} {c : Code} {D : va_G} {E : Nat → ClassId} {sz : Nat} {μ0 : MP} {ν0 : NC} {a0 : AS} {Ad0 : Nat → Nat → Nat} {Q : Nat → Nat} {B : Nat × (Nat → Nat)} {w : Nat} {r0 : ((MP × NC) × AS) × Int32} (C : cx p s m args meth c D E (Aof (zS μ0 ν0 a0 Ad0) [] s.heap.size) cL_trades 27 "TradeLineLaw") (hEv : eV (Ad0 30 0) (Ad0 31 0) B (Aof (zS μ0 ν0 a0 Ad0) [] s.heap.size) s s.heap) (hN : vN s) (hr : meth.sig.returnType = (some .boolean)) (hz : s.heap.size = sz) (hI0 : lwI ν0) (hQ0 : lwQ Ad0 Q) {μ : MP} {ν : NC} {a : AS} {Ad : Nat → Nat → Nat} (hm0 : mn ν0 ν) (hp0 : kp ν0 Ad0 Ad) {x21 : Int32} {s0 : Int32}   (h : b_L_trades_1001  w μ ν a x21 s0 = some r0) : G p l e ({ frames := 11, cells := kc r0.1.1.2 - kc ν0, slots := ks r0.1.1.2 - ks ν0, locals := 325 } : Room) s m args below meth c D E (Aof (zS μ0 ν0 a0 Ad0) [] s.heap.size) 27 (MQ below (cQ D E sz (zS μ0 ν0 a0 Ad0) [] (pI (fun r u => r = r0.2 ∧ ∃ A1, u = (zS r0.1.1.1 r0.1.1.2 r0.1.2 A1, []) ∧ kp ν0 Ad0 A1))) args s (kc r0.1.1.2 - kc ν0) (ks r0.1.1.2 - ks ν0) (Aof (zS μ0 ν0 a0 Ad0) [] s.heap.size)) (zS μ ν a Ad) [] (kc ν - kc ν0) (ks ν - ks ν0) 1001 [(4, .ref (Q 1)), (21, .int x21)] [.int s0] := by
  have m0 := mb_L_trades_1001  h
  have e1 := m0.2.1; have e2 := m0.2.2.1; have e3 := hm0.2.1; have e4 := hm0.2.2.1
  have hI := lwI_mn hI0 hm0; have hQ := lwQ_kp hI0 hp0 hQ0
  unfold b_L_trades_1001 at h
  refine g_aload C dL_trades_1001 0 rfl ?_
  refine g_bipush (v := (19 : Int32)) C dL_trades_1003 (by decide) ?_
  obtain ⟨g47, h⟩ := of_guard h
  refine q_iald C (show rsh (ν.1, μ.2, ν.2, Ad) from hI.2) (j := 1) (N := 22) (by decide) (lwQ_i hQ (j := 1) (N := 22) (by decide)) g47 dL_trades_1005 ?_
  refine g_iload C dL_trades_1006 1 rfl ?_
  refine g_isub C dL_trades_1008 ?_
  refine g_icmp_ne (tgt := 1016) C dL_trades_1009 (by decide) (fun c1009 => ?_) (fun c1009 => ?_)
  · replace h := (if_neg c1009).symm.trans h
    refine g_iconst (v := (0 : Int32)) C dL_trades_1016 (by decide) ?_
    obtain rfl := Option.some.inj h
    exact g_iret C hr rfl hz ⟨(hm0.2.2.2 30 (by decide) (by decide)).1, (hm0.2.2.2 31 (by decide) (by decide)).1, hp0.2.1, hp0.2.2⟩ ⟨rfl, Ad, rfl, hp0⟩ (fun j x h => by simp at h) dL_trades_1017
  · replace h := (if_pos c1009).symm.trans h
    refine g_iconst (v := (1 : Int32)) C dL_trades_1012 (by decide) ?_
    refine g_goto (tgt := 1017) C dL_trades_1013 (by decide) ?_
    obtain rfl := Option.some.inj h
    exact g_iret C hr rfl hz ⟨(hm0.2.2.2 30 (by decide) (by decide)).1, (hm0.2.2.2 31 (by decide) (by decide)).1, hp0.2.1, hp0.2.2⟩ ⟨rfl, Ad, rfl, hp0⟩ (fun j x h => by simp at h) dL_trades_1017
noncomputable def b_L_trades_983 (k780 : MP → NC → AS → Int32 → Int32 → Int32 → Int32 → Int32 → Int32 → Int32 → Option (((MP × NC) × AS) × Int32)) (w : Nat) (μ : MP) (ν : NC) (a : AS) (x16 : Int32) (x18 : Int32) (x19 : Int32) (x20 : Int32) (x21 : Int32) (x22 : Int32) (x23 : Int32)  : Option (((MP × NC) × AS) × Int32) := yl (x23 + (1 : Int32)) (fun t51 => k780 μ ν a x16 x18 x19 x20 x21 x22 t51)
theorem mb_L_trades_983 {w : Nat} {μ : MP} {ν : NC} {a : AS} {x16 : Int32} {x18 : Int32} {x19 : Int32} {x20 : Int32} {x21 : Int32} {x22 : Int32} {x23 : Int32}  {r0 : ((MP × NC) × AS) × Int32} {k780 : MP → NC → AS → Int32 → Int32 → Int32 → Int32 → Int32 → Int32 → Int32 → Option (((MP × NC) × AS) × Int32)} (hmk780 : ∀ (μ : MP) (ν : NC) (a : AS) (z16 : Int32) (z18 : Int32) (z19 : Int32) (z20 : Int32) (z21 : Int32) (z22 : Int32) (z23 : Int32), k780 μ ν a z16 z18 z19 z20 z21 z22 z23 = some r0 → mn ν r0.1.1.2) (h : b_L_trades_983 k780 w μ ν a x16 x18 x19 x20 x21 x22 x23  = some r0) : mn ν r0.1.1.2 := by
  unfold b_L_trades_983 at h
  obtain ⟨t51, et51⟩ : ∃ y, x23 + (1 : Int32) = y := ⟨_, rfl⟩
  replace h := yl_of h et51
  exact hmk780 _ _ _ _ _ _ _ _ _ _ h
set_option maxHeartbeats 4000000 in
set_option maxRecDepth 100000 in
theorem lb_L_trades_983 {p : Program} {l : Launch} (hl : l.stackTraces = false) {e : Env} {s : State} {m : MethodId} {args : Array Value} {below : List Frame} {meth : Method} {c : Code} {D : va_G} {E : Nat → ClassId} {sz : Nat} {μ0 : MP} {ν0 : NC} {a0 : AS} {Ad0 : Nat → Nat → Nat} {Q : Nat → Nat} {B : Nat × (Nat → Nat)} {w : Nat} {r0 : ((MP × NC) × AS) × Int32} (C : cx p s m args meth c D E (Aof (zS μ0 ν0 a0 Ad0) [] s.heap.size) cL_trades 27 "TradeLineLaw") (hEv : eV (Ad0 30 0) (Ad0 31 0) B (Aof (zS μ0 ν0 a0 Ad0) [] s.heap.size) s s.heap) (hN : vN s) (hr : meth.sig.returnType = (some .boolean)) (hz : s.heap.size = sz) (hI0 : lwI ν0) (hQ0 : lwQ Ad0 Q) {μ : MP} {ν : NC} {a : AS} {Ad : Nat → Nat → Nat} (hm0 : mn ν0 ν) (hp0 : kp ν0 Ad0 Ad) {x16 : Int32} {x18 : Int32} {x19 : Int32} {x20 : Int32} {x21 : Int32} {x22 : Int32} {x23 : Int32}  {k780 : MP → NC → AS → Int32 → Int32 → Int32 → Int32 → Int32 → Int32 → Int32 → Option (((MP × NC) × AS) × Int32)} (hmk780 : ∀ (μ : MP) (ν : NC) (a : AS) (z16 : Int32) (z18 : Int32) (z19 : Int32) (z20 : Int32) (z21 : Int32) (z22 : Int32) (z23 : Int32), k780 μ ν a z16 z18 z19 z20 z21 z22 z23 = some r0 → mn ν r0.1.1.2) (hk780 : ∀ (μ : MP) (ν : NC) (a : AS) (Ad : Nat → Nat → Nat) (z16 : Int32) (z18 : Int32) (z19 : Int32) (z20 : Int32) (z21 : Int32) (z22 : Int32) (z23 : Int32), mn ν0 ν → kp ν0 Ad0 Ad → k780 μ ν a z16 z18 z19 z20 z21 z22 z23 = some r0 → G p l e ({ frames := 11, cells := kc r0.1.1.2 - kc ν0, slots := ks r0.1.1.2 - ks ν0, locals := 325 } : Room) s m args below meth c D E (Aof (zS μ0 ν0 a0 Ad0) [] s.heap.size) 27 (MQ below (cQ D E sz (zS μ0 ν0 a0 Ad0) [] (pI (fun r u => r = r0.2 ∧ ∃ A1, u = (zS r0.1.1.1 r0.1.1.2 r0.1.2 A1, []) ∧ kp ν0 Ad0 A1))) args s (kc r0.1.1.2 - kc ν0) (ks r0.1.1.2 - ks ν0) (Aof (zS μ0 ν0 a0 Ad0) [] s.heap.size)) (zS μ ν a Ad) [] (kc ν - kc ν0) (ks ν - ks ν0) 780 [(0, .ref (Q 0)), (4, .ref (Q 1)), (5, .ref (Q 2)), (6, .ref (Q 3)), (7, .ref (Q 4)), (8, .ref (Q 5)), (9, .ref (Q 8)), (10, .ref (Q 9)), (11, .ref (Q 10)), (12, .ref (Q 11)), (13, .ref (Q 12)), (14, .ref (Q 13)), (15, .ref (Q 14)), (16, .int z16), (18, .int z18), (19, .int z19), (20, .int z20), (21, .int z21), (22, .int z22), (23, .int z23)] []) (h : b_L_trades_983 k780 w μ ν a x16 x18 x19 x20 x21 x22 x23  = some r0) : G p l e ({ frames := 11, cells := kc r0.1.1.2 - kc ν0, slots := ks r0.1.1.2 - ks ν0, locals := 325 } : Room) s m args below meth c D E (Aof (zS μ0 ν0 a0 Ad0) [] s.heap.size) 27 (MQ below (cQ D E sz (zS μ0 ν0 a0 Ad0) [] (pI (fun r u => r = r0.2 ∧ ∃ A1, u = (zS r0.1.1.1 r0.1.1.2 r0.1.2 A1, []) ∧ kp ν0 Ad0 A1))) args s (kc r0.1.1.2 - kc ν0) (ks r0.1.1.2 - ks ν0) (Aof (zS μ0 ν0 a0 Ad0) [] s.heap.size)) (zS μ ν a Ad) [] (kc ν - kc ν0) (ks ν - ks ν0) 983 [(0, .ref (Q 0)), (4, .ref (Q 1)), (5, .ref (Q 2)), (6, .ref (Q 3)), (7, .ref (Q 4)), (8, .ref (Q 5)), (9, .ref (Q 8)), (10, .ref (Q 9)), (11, .ref (Q 10)), (12, .ref (Q 11)), (13, .ref (Q 12)), (14, .ref (Q 13)), (15, .ref (Q 14)), (16, .int x16), (18, .int x18), (19, .int x19), (20, .int x20), (21, .int x21), (22, .int x22), (23, .int x23)] [] := by
  have m0 := mb_L_trades_983 hmk780 h
  have e1 := m0.2.1; have e2 := m0.2.2.1; have e3 := hm0.2.1; have e4 := hm0.2.2.1
  have hI := lwI_mn hI0 hm0; have hQ := lwQ_kp hI0 hp0 hQ0
  unfold b_L_trades_983 at h
  obtain ⟨t51, et51⟩ : ∃ y : Int32, x23 + (1 : Int32) = y := ⟨_, rfl⟩
  replace h := yl_of h et51
  refine g_iinc (v := t51) (lv' := [(23, .int t51), (0, .ref (Q 0)), (4, .ref (Q 1)), (5, .ref (Q 2)), (6, .ref (Q 3)), (7, .ref (Q 4)), (8, .ref (Q 5)), (9, .ref (Q 8)), (10, .ref (Q 9)), (11, .ref (Q 10)), (12, .ref (Q 11)), (13, .ref (Q 12)), (14, .ref (Q 13)), (15, .ref (Q 14)), (16, .int x16), (18, .int x18), (19, .int x19), (20, .int x20), (21, .int x21), (22, .int x22)]) C dL_trades_983 19 rfl (by rw [← et51]; rfl) (by decide) rfl ?_
  refine g_goto (tgt := 780) C dL_trades_986 (by decide) ?_
  refine g_lv [1, 2, 3, 4, 5, 6, 7, 8, 9, 10, 11, 12, 13, 14, 15, 16, 17, 18, 19, 0] rfl ?_
  exact hk780 _ _ _ _ _ _ _ _ _ _ _ hm0 hp0 h
noncomputable def b_L_trades_931 (k780 : MP → NC → AS → Int32 → Int32 → Int32 → Int32 → Int32 → Int32 → Int32 → Option (((MP × NC) × AS) × Int32)) (k796 : MP → NC → AS → Int32 → Int32 → Int32 → Int32 → Int32 → Int32 → Int32 → Int32 → Int32 → Option (((MP × NC) × AS) × Int32)) (w : Nat) (μ : MP) (ν : NC) (a : AS) (x16 : Int32) (x18 : Int32) (x19 : Int32) (x20 : Int32) (x21 : Int32) (x22 : Int32) (x23 : Int32) (x24 : Int32) (x25 : Int32)  : Option (((MP × NC) × AS) × Int32) := yl (x25 + (1 : Int32)) (fun t52 => k796 μ ν a x16 x18 x19 x20 x21 x22 x23 x24 t52)
theorem mb_L_trades_931 {w : Nat} {μ : MP} {ν : NC} {a : AS} {x16 : Int32} {x18 : Int32} {x19 : Int32} {x20 : Int32} {x21 : Int32} {x22 : Int32} {x23 : Int32} {x24 : Int32} {x25 : Int32}  {r0 : ((MP × NC) × AS) × Int32} {k780 : MP → NC → AS → Int32 → Int32 → Int32 → Int32 → Int32 → Int32 → Int32 → Option (((MP × NC) × AS) × Int32)} {k796 : MP → NC → AS → Int32 → Int32 → Int32 → Int32 → Int32 → Int32 → Int32 → Int32 → Int32 → Option (((MP × NC) × AS) × Int32)} (hmk780 : ∀ (μ : MP) (ν : NC) (a : AS) (z16 : Int32) (z18 : Int32) (z19 : Int32) (z20 : Int32) (z21 : Int32) (z22 : Int32) (z23 : Int32), k780 μ ν a z16 z18 z19 z20 z21 z22 z23 = some r0 → mn ν r0.1.1.2) (hmk796 : ∀ (μ : MP) (ν : NC) (a : AS) (z16 : Int32) (z18 : Int32) (z19 : Int32) (z20 : Int32) (z21 : Int32) (z22 : Int32) (z23 : Int32) (z24 : Int32) (z25 : Int32), k796 μ ν a z16 z18 z19 z20 z21 z22 z23 z24 z25 = some r0 → mn ν r0.1.1.2) (h : b_L_trades_931 k780 k796 w μ ν a x16 x18 x19 x20 x21 x22 x23 x24 x25  = some r0) : mn ν r0.1.1.2 := by
  unfold b_L_trades_931 at h
  obtain ⟨t52, et52⟩ : ∃ y, x25 + (1 : Int32) = y := ⟨_, rfl⟩
  replace h := yl_of h et52
  exact hmk796 _ _ _ _ _ _ _ _ _ _ _ _ h
set_option maxHeartbeats 4000000 in
set_option maxRecDepth 100000 in
theorem lb_L_trades_931 {p : Program} {l : Launch} (hl : l.stackTraces = false) {e : Env} {s : State} {m : MethodId} {args : Array Value} {below : List Frame} {meth : Method} {c : Code} {D : va_G} {E : Nat → ClassId} {sz : Nat} {μ0 : MP} {ν0 : NC} {a0 : AS} {Ad0 : Nat → Nat → Nat} {Q : Nat → Nat} {B : Nat × (Nat → Nat)} {w : Nat} {r0 : ((MP × NC) × AS) × Int32} (C : cx p s m args meth c D E (Aof (zS μ0 ν0 a0 Ad0) [] s.heap.size) cL_trades 27 "TradeLineLaw") (hEv : eV (Ad0 30 0) (Ad0 31 0) B (Aof (zS μ0 ν0 a0 Ad0) [] s.heap.size) s s.heap) (hN : vN s) (hr : meth.sig.returnType = (some .boolean)) (hz : s.heap.size = sz) (hI0 : lwI ν0) (hQ0 : lwQ Ad0 Q) {μ : MP} {ν : NC} {a : AS} {Ad : Nat → Nat → Nat} (hm0 : mn ν0 ν) (hp0 : kp ν0 Ad0 Ad) {x16 : Int32} {x18 : Int32} {x19 : Int32} {x20 : Int32} {x21 : Int32} {x22 : Int32} {x23 : Int32} {x24 : Int32} {x25 : Int32}  {k780 : MP → NC → AS → Int32 → Int32 → Int32 → Int32 → Int32 → Int32 → Int32 → Option (((MP × NC) × AS) × Int32)} {k796 : MP → NC → AS → Int32 → Int32 → Int32 → Int32 → Int32 → Int32 → Int32 → Int32 → Int32 → Option (((MP × NC) × AS) × Int32)} (hmk780 : ∀ (μ : MP) (ν : NC) (a : AS) (z16 : Int32) (z18 : Int32) (z19 : Int32) (z20 : Int32) (z21 : Int32) (z22 : Int32) (z23 : Int32), k780 μ ν a z16 z18 z19 z20 z21 z22 z23 = some r0 → mn ν r0.1.1.2) (hk780 : ∀ (μ : MP) (ν : NC) (a : AS) (Ad : Nat → Nat → Nat) (z16 : Int32) (z18 : Int32) (z19 : Int32) (z20 : Int32) (z21 : Int32) (z22 : Int32) (z23 : Int32), mn ν0 ν → kp ν0 Ad0 Ad → k780 μ ν a z16 z18 z19 z20 z21 z22 z23 = some r0 → G p l e ({ frames := 11, cells := kc r0.1.1.2 - kc ν0, slots := ks r0.1.1.2 - ks ν0, locals := 325 } : Room) s m args below meth c D E (Aof (zS μ0 ν0 a0 Ad0) [] s.heap.size) 27 (MQ below (cQ D E sz (zS μ0 ν0 a0 Ad0) [] (pI (fun r u => r = r0.2 ∧ ∃ A1, u = (zS r0.1.1.1 r0.1.1.2 r0.1.2 A1, []) ∧ kp ν0 Ad0 A1))) args s (kc r0.1.1.2 - kc ν0) (ks r0.1.1.2 - ks ν0) (Aof (zS μ0 ν0 a0 Ad0) [] s.heap.size)) (zS μ ν a Ad) [] (kc ν - kc ν0) (ks ν - ks ν0) 780 [(0, .ref (Q 0)), (4, .ref (Q 1)), (5, .ref (Q 2)), (6, .ref (Q 3)), (7, .ref (Q 4)), (8, .ref (Q 5)), (9, .ref (Q 8)), (10, .ref (Q 9)), (11, .ref (Q 10)), (12, .ref (Q 11)), (13, .ref (Q 12)), (14, .ref (Q 13)), (15, .ref (Q 14)), (16, .int z16), (18, .int z18), (19, .int z19), (20, .int z20), (21, .int z21), (22, .int z22), (23, .int z23)] []) (hmk796 : ∀ (μ : MP) (ν : NC) (a : AS) (z16 : Int32) (z18 : Int32) (z19 : Int32) (z20 : Int32) (z21 : Int32) (z22 : Int32) (z23 : Int32) (z24 : Int32) (z25 : Int32), k796 μ ν a z16 z18 z19 z20 z21 z22 z23 z24 z25 = some r0 → mn ν r0.1.1.2) (hk796 : ∀ (μ : MP) (ν : NC) (a : AS) (Ad : Nat → Nat → Nat) (z16 : Int32) (z18 : Int32) (z19 : Int32) (z20 : Int32) (z21 : Int32) (z22 : Int32) (z23 : Int32) (z24 : Int32) (z25 : Int32), mn ν0 ν → kp ν0 Ad0 Ad → k796 μ ν a z16 z18 z19 z20 z21 z22 z23 z24 z25 = some r0 → G p l e ({ frames := 11, cells := kc r0.1.1.2 - kc ν0, slots := ks r0.1.1.2 - ks ν0, locals := 325 } : Room) s m args below meth c D E (Aof (zS μ0 ν0 a0 Ad0) [] s.heap.size) 27 (MQ below (cQ D E sz (zS μ0 ν0 a0 Ad0) [] (pI (fun r u => r = r0.2 ∧ ∃ A1, u = (zS r0.1.1.1 r0.1.1.2 r0.1.2 A1, []) ∧ kp ν0 Ad0 A1))) args s (kc r0.1.1.2 - kc ν0) (ks r0.1.1.2 - ks ν0) (Aof (zS μ0 ν0 a0 Ad0) [] s.heap.size)) (zS μ ν a Ad) [] (kc ν - kc ν0) (ks ν - ks ν0) 796 [(0, .ref (Q 0)), (4, .ref (Q 1)), (5, .ref (Q 2)), (6, .ref (Q 3)), (7, .ref (Q 4)), (8, .ref (Q 5)), (9, .ref (Q 8)), (10, .ref (Q 9)), (11, .ref (Q 10)), (12, .ref (Q 11)), (13, .ref (Q 12)), (14, .ref (Q 13)), (15, .ref (Q 14)), (16, .int z16), (18, .int z18), (19, .int z19), (20, .int z20), (21, .int z21), (22, .int z22), (23, .int z23), (24, .int z24), (25, .int z25)] []) (h : b_L_trades_931 k780 k796 w μ ν a x16 x18 x19 x20 x21 x22 x23 x24 x25  = some r0) : G p l e ({ frames := 11, cells := kc r0.1.1.2 - kc ν0, slots := ks r0.1.1.2 - ks ν0, locals := 325 } : Room) s m args below meth c D E (Aof (zS μ0 ν0 a0 Ad0) [] s.heap.size) 27 (MQ below (cQ D E sz (zS μ0 ν0 a0 Ad0) [] (pI (fun r u => r = r0.2 ∧ ∃ A1, u = (zS r0.1.1.1 r0.1.1.2 r0.1.2 A1, []) ∧ kp ν0 Ad0 A1))) args s (kc r0.1.1.2 - kc ν0) (ks r0.1.1.2 - ks ν0) (Aof (zS μ0 ν0 a0 Ad0) [] s.heap.size)) (zS μ ν a Ad) [] (kc ν - kc ν0) (ks ν - ks ν0) 931 [(0, .ref (Q 0)), (4, .ref (Q 1)), (5, .ref (Q 2)), (6, .ref (Q 3)), (7, .ref (Q 4)), (8, .ref (Q 5)), (9, .ref (Q 8)), (10, .ref (Q 9)), (11, .ref (Q 10)), (12, .ref (Q 11)), (13, .ref (Q 12)), (14, .ref (Q 13)), (15, .ref (Q 14)), (16, .int x16), (18, .int x18), (19, .int x19), (20, .int x20), (21, .int x21), (22, .int x22), (23, .int x23), (24, .int x24), (25, .int x25)] [] := by
  have m0 := mb_L_trades_931 hmk780 hmk796 h
  have e1 := m0.2.1; have e2 := m0.2.2.1; have e3 := hm0.2.1; have e4 := hm0.2.2.1
  have hI := lwI_mn hI0 hm0; have hQ := lwQ_kp hI0 hp0 hQ0
  unfold b_L_trades_931 at h
  obtain ⟨t52, et52⟩ : ∃ y : Int32, x25 + (1 : Int32) = y := ⟨_, rfl⟩
  replace h := yl_of h et52
  refine g_iinc (v := t52) (lv' := [(25, .int t52), (0, .ref (Q 0)), (4, .ref (Q 1)), (5, .ref (Q 2)), (6, .ref (Q 3)), (7, .ref (Q 4)), (8, .ref (Q 5)), (9, .ref (Q 8)), (10, .ref (Q 9)), (11, .ref (Q 10)), (12, .ref (Q 11)), (13, .ref (Q 12)), (14, .ref (Q 13)), (15, .ref (Q 14)), (16, .int x16), (18, .int x18), (19, .int x19), (20, .int x20), (21, .int x21), (22, .int x22), (23, .int x23), (24, .int x24)]) C dL_trades_931 21 rfl (by rw [← et52]; rfl) (by decide) rfl ?_
  refine g_goto (tgt := 796) C dL_trades_934 (by decide) ?_
  refine g_lv [1, 2, 3, 4, 5, 6, 7, 8, 9, 10, 11, 12, 13, 14, 15, 16, 17, 18, 19, 20, 21, 0] rfl ?_
  exact hk796 _ _ _ _ _ _ _ _ _ _ _ _ _ hm0 hp0 h
noncomputable def b_L_trades_927 (k780 : MP → NC → AS → Int32 → Int32 → Int32 → Int32 → Int32 → Int32 → Int32 → Option (((MP × NC) × AS) × Int32)) (k796 : MP → NC → AS → Int32 → Int32 → Int32 → Int32 → Int32 → Int32 → Int32 → Int32 → Int32 → Option (((MP × NC) × AS) × Int32)) (w : Nat) (μ : MP) (ν : NC) (a : AS) (x16 : Int32) (x18 : Int32) (x19 : Int32) (x20 : Int32) (x21 : Int32) (x22 : Int32) (x23 : Int32) (x25 : Int32)  : Option (((MP × NC) × AS) × Int32) := b_L_trades_931 k780 k796 w μ ν a x16 x18 x19 x20 x21 x22 x23 x25 x25
theorem mb_L_trades_927 {w : Nat} {μ : MP} {ν : NC} {a : AS} {x16 : Int32} {x18 : Int32} {x19 : Int32} {x20 : Int32} {x21 : Int32} {x22 : Int32} {x23 : Int32} {x25 : Int32}  {r0 : ((MP × NC) × AS) × Int32} {k780 : MP → NC → AS → Int32 → Int32 → Int32 → Int32 → Int32 → Int32 → Int32 → Option (((MP × NC) × AS) × Int32)} {k796 : MP → NC → AS → Int32 → Int32 → Int32 → Int32 → Int32 → Int32 → Int32 → Int32 → Int32 → Option (((MP × NC) × AS) × Int32)} (hmk780 : ∀ (μ : MP) (ν : NC) (a : AS) (z16 : Int32) (z18 : Int32) (z19 : Int32) (z20 : Int32) (z21 : Int32) (z22 : Int32) (z23 : Int32), k780 μ ν a z16 z18 z19 z20 z21 z22 z23 = some r0 → mn ν r0.1.1.2) (hmk796 : ∀ (μ : MP) (ν : NC) (a : AS) (z16 : Int32) (z18 : Int32) (z19 : Int32) (z20 : Int32) (z21 : Int32) (z22 : Int32) (z23 : Int32) (z24 : Int32) (z25 : Int32), k796 μ ν a z16 z18 z19 z20 z21 z22 z23 z24 z25 = some r0 → mn ν r0.1.1.2) (h : b_L_trades_927 k780 k796 w μ ν a x16 x18 x19 x20 x21 x22 x23 x25  = some r0) : mn ν r0.1.1.2 := by
  unfold b_L_trades_927 at h
  exact mb_L_trades_931 hmk780 hmk796 h
set_option maxHeartbeats 4000000 in
set_option maxRecDepth 100000 in
theorem lb_L_trades_927 {p : Program} {l : Launch} (hl : l.stackTraces = false) {e : Env} {s : State} {m : MethodId} {args : Array Value} {below : List Frame} {meth : Method} {c : Code} {D : va_G} {E : Nat → ClassId} {sz : Nat} {μ0 : MP} {ν0 : NC} {a0 : AS} {Ad0 : Nat → Nat → Nat} {Q : Nat → Nat} {B : Nat × (Nat → Nat)} {w : Nat} {r0 : ((MP × NC) × AS) × Int32} (C : cx p s m args meth c D E (Aof (zS μ0 ν0 a0 Ad0) [] s.heap.size) cL_trades 27 "TradeLineLaw") (hEv : eV (Ad0 30 0) (Ad0 31 0) B (Aof (zS μ0 ν0 a0 Ad0) [] s.heap.size) s s.heap) (hN : vN s) (hr : meth.sig.returnType = (some .boolean)) (hz : s.heap.size = sz) (hI0 : lwI ν0) (hQ0 : lwQ Ad0 Q) {μ : MP} {ν : NC} {a : AS} {Ad : Nat → Nat → Nat} (hm0 : mn ν0 ν) (hp0 : kp ν0 Ad0 Ad) {x16 : Int32} {x18 : Int32} {x19 : Int32} {x20 : Int32} {x21 : Int32} {x22 : Int32} {x23 : Int32} {x25 : Int32}  {k780 : MP → NC → AS → Int32 → Int32 → Int32 → Int32 → Int32 → Int32 → Int32 → Option (((MP × NC) × AS) × Int32)} {k796 : MP → NC → AS → Int32 → Int32 → Int32 → Int32 → Int32 → Int32 → Int32 → Int32 → Int32 → Option (((MP × NC) × AS) × Int32)} (hmk780 : ∀ (μ : MP) (ν : NC) (a : AS) (z16 : Int32) (z18 : Int32) (z19 : Int32) (z20 : Int32) (z21 : Int32) (z22 : Int32) (z23 : Int32), k780 μ ν a z16 z18 z19 z20 z21 z22 z23 = some r0 → mn ν r0.1.1.2) (hk780 : ∀ (μ : MP) (ν : NC) (a : AS) (Ad : Nat → Nat → Nat) (z16 : Int32) (z18 : Int32) (z19 : Int32) (z20 : Int32) (z21 : Int32) (z22 : Int32) (z23 : Int32), mn ν0 ν → kp ν0 Ad0 Ad → k780 μ ν a z16 z18 z19 z20 z21 z22 z23 = some r0 → G p l e ({ frames := 11, cells := kc r0.1.1.2 - kc ν0, slots := ks r0.1.1.2 - ks ν0, locals := 325 } : Room) s m args below meth c D E (Aof (zS μ0 ν0 a0 Ad0) [] s.heap.size) 27 (MQ below (cQ D E sz (zS μ0 ν0 a0 Ad0) [] (pI (fun r u => r = r0.2 ∧ ∃ A1, u = (zS r0.1.1.1 r0.1.1.2 r0.1.2 A1, []) ∧ kp ν0 Ad0 A1))) args s (kc r0.1.1.2 - kc ν0) (ks r0.1.1.2 - ks ν0) (Aof (zS μ0 ν0 a0 Ad0) [] s.heap.size)) (zS μ ν a Ad) [] (kc ν - kc ν0) (ks ν - ks ν0) 780 [(0, .ref (Q 0)), (4, .ref (Q 1)), (5, .ref (Q 2)), (6, .ref (Q 3)), (7, .ref (Q 4)), (8, .ref (Q 5)), (9, .ref (Q 8)), (10, .ref (Q 9)), (11, .ref (Q 10)), (12, .ref (Q 11)), (13, .ref (Q 12)), (14, .ref (Q 13)), (15, .ref (Q 14)), (16, .int z16), (18, .int z18), (19, .int z19), (20, .int z20), (21, .int z21), (22, .int z22), (23, .int z23)] []) (hmk796 : ∀ (μ : MP) (ν : NC) (a : AS) (z16 : Int32) (z18 : Int32) (z19 : Int32) (z20 : Int32) (z21 : Int32) (z22 : Int32) (z23 : Int32) (z24 : Int32) (z25 : Int32), k796 μ ν a z16 z18 z19 z20 z21 z22 z23 z24 z25 = some r0 → mn ν r0.1.1.2) (hk796 : ∀ (μ : MP) (ν : NC) (a : AS) (Ad : Nat → Nat → Nat) (z16 : Int32) (z18 : Int32) (z19 : Int32) (z20 : Int32) (z21 : Int32) (z22 : Int32) (z23 : Int32) (z24 : Int32) (z25 : Int32), mn ν0 ν → kp ν0 Ad0 Ad → k796 μ ν a z16 z18 z19 z20 z21 z22 z23 z24 z25 = some r0 → G p l e ({ frames := 11, cells := kc r0.1.1.2 - kc ν0, slots := ks r0.1.1.2 - ks ν0, locals := 325 } : Room) s m args below meth c D E (Aof (zS μ0 ν0 a0 Ad0) [] s.heap.size) 27 (MQ below (cQ D E sz (zS μ0 ν0 a0 Ad0) [] (pI (fun r u => r = r0.2 ∧ ∃ A1, u = (zS r0.1.1.1 r0.1.1.2 r0.1.2 A1, []) ∧ kp ν0 Ad0 A1))) args s (kc r0.1.1.2 - kc ν0) (ks r0.1.1.2 - ks ν0) (Aof (zS μ0 ν0 a0 Ad0) [] s.heap.size)) (zS μ ν a Ad) [] (kc ν - kc ν0) (ks ν - ks ν0) 796 [(0, .ref (Q 0)), (4, .ref (Q 1)), (5, .ref (Q 2)), (6, .ref (Q 3)), (7, .ref (Q 4)), (8, .ref (Q 5)), (9, .ref (Q 8)), (10, .ref (Q 9)), (11, .ref (Q 10)), (12, .ref (Q 11)), (13, .ref (Q 12)), (14, .ref (Q 13)), (15, .ref (Q 14)), (16, .int z16), (18, .int z18), (19, .int z19), (20, .int z20), (21, .int z21), (22, .int z22), (23, .int z23), (24, .int z24), (25, .int z25)] []) (h : b_L_trades_927 k780 k796 w μ ν a x16 x18 x19 x20 x21 x22 x23 x25  = some r0) : G p l e ({ frames := 11, cells := kc r0.1.1.2 - kc ν0, slots := ks r0.1.1.2 - ks ν0, locals := 325 } : Room) s m args below meth c D E (Aof (zS μ0 ν0 a0 Ad0) [] s.heap.size) 27 (MQ below (cQ D E sz (zS μ0 ν0 a0 Ad0) [] (pI (fun r u => r = r0.2 ∧ ∃ A1, u = (zS r0.1.1.1 r0.1.1.2 r0.1.2 A1, []) ∧ kp ν0 Ad0 A1))) args s (kc r0.1.1.2 - kc ν0) (ks r0.1.1.2 - ks ν0) (Aof (zS μ0 ν0 a0 Ad0) [] s.heap.size)) (zS μ ν a Ad) [] (kc ν - kc ν0) (ks ν - ks ν0) 927 [(0, .ref (Q 0)), (4, .ref (Q 1)), (5, .ref (Q 2)), (6, .ref (Q 3)), (7, .ref (Q 4)), (8, .ref (Q 5)), (9, .ref (Q 8)), (10, .ref (Q 9)), (11, .ref (Q 10)), (12, .ref (Q 11)), (13, .ref (Q 12)), (14, .ref (Q 13)), (15, .ref (Q 14)), (16, .int x16), (18, .int x18), (19, .int x19), (20, .int x20), (21, .int x21), (22, .int x22), (23, .int x23), (25, .int x25)] [] := by
  have m0 := mb_L_trades_927 hmk780 hmk796 h
  have e1 := m0.2.1; have e2 := m0.2.2.1; have e3 := hm0.2.1; have e4 := hm0.2.2.1
  have hI := lwI_mn hI0 hm0; have hQ := lwQ_kp hI0 hp0 hQ0
  unfold b_L_trades_927 at h
  refine g_iload C dL_trades_927 20 rfl ?_
  refine g_istore (lv' := [(24, .int x25), (0, .ref (Q 0)), (4, .ref (Q 1)), (5, .ref (Q 2)), (6, .ref (Q 3)), (7, .ref (Q 4)), (8, .ref (Q 5)), (9, .ref (Q 8)), (10, .ref (Q 9)), (11, .ref (Q 10)), (12, .ref (Q 11)), (13, .ref (Q 12)), (14, .ref (Q 13)), (15, .ref (Q 14)), (16, .int x16), (18, .int x18), (19, .int x19), (20, .int x20), (21, .int x21), (22, .int x22), (23, .int x23), (25, .int x25)]) C dL_trades_929 (by decide) rfl ?_
  refine g_lv [1, 2, 3, 4, 5, 6, 7, 8, 9, 10, 11, 12, 13, 14, 15, 16, 17, 18, 19, 20, 0, 21] rfl ?_
  exact lb_L_trades_931 hl C hEv hN hr hz hI0 hQ0 hm0 hp0 hmk780 hk780 hmk796 hk796 h
noncomputable def b_L_trades_903 (k780 : MP → NC → AS → Int32 → Int32 → Int32 → Int32 → Int32 → Int32 → Int32 → Option (((MP × NC) × AS) × Int32)) (k796 : MP → NC → AS → Int32 → Int32 → Int32 → Int32 → Int32 → Int32 → Int32 → Int32 → Int32 → Option (((MP × NC) × AS) × Int32)) (w : Nat) (μ : MP) (ν : NC) (a : AS) (x16 : Int32) (x18 : Int32) (x19 : Int32) (x20 : Int32) (x21 : Int32) (x22 : Int32) (x23 : Int32) (x24 : Int32) (x25 : Int32) (x26 : Int32)  : Option (((MP × NC) × AS) × Int32) := (if x26 = (0 : Int32) then (bif ixB x25 10 then bif ixB x24 10 then (if ((a 12 x24.toNatClampNeg) >>> ((8 : Int32) &&& 31)) ≤ ((a 12 x25.toNatClampNeg) >>> ((8 : Int32) &&& 31)) then (b_L_trades_931 k780 k796 w μ ν a x16 x18 x19 x20 x21 x22 x23 x24 x25) else (b_L_trades_927 k780 k796 w μ ν a x16 x18 x19 x20 x21 x22 x23 x25)) else none else none) else (b_L_trades_931 k780 k796 w μ ν a x16 x18 x19 x20 x21 x22 x23 x24 x25))
theorem mb_L_trades_903 {w : Nat} {μ : MP} {ν : NC} {a : AS} {x16 : Int32} {x18 : Int32} {x19 : Int32} {x20 : Int32} {x21 : Int32} {x22 : Int32} {x23 : Int32} {x24 : Int32} {x25 : Int32} {x26 : Int32}  {r0 : ((MP × NC) × AS) × Int32} {k780 : MP → NC → AS → Int32 → Int32 → Int32 → Int32 → Int32 → Int32 → Int32 → Option (((MP × NC) × AS) × Int32)} {k796 : MP → NC → AS → Int32 → Int32 → Int32 → Int32 → Int32 → Int32 → Int32 → Int32 → Int32 → Option (((MP × NC) × AS) × Int32)} (hmk780 : ∀ (μ : MP) (ν : NC) (a : AS) (z16 : Int32) (z18 : Int32) (z19 : Int32) (z20 : Int32) (z21 : Int32) (z22 : Int32) (z23 : Int32), k780 μ ν a z16 z18 z19 z20 z21 z22 z23 = some r0 → mn ν r0.1.1.2) (hmk796 : ∀ (μ : MP) (ν : NC) (a : AS) (z16 : Int32) (z18 : Int32) (z19 : Int32) (z20 : Int32) (z21 : Int32) (z22 : Int32) (z23 : Int32) (z24 : Int32) (z25 : Int32), k796 μ ν a z16 z18 z19 z20 z21 z22 z23 z24 z25 = some r0 → mn ν r0.1.1.2) (h : b_L_trades_903 k780 k796 w μ ν a x16 x18 x19 x20 x21 x22 x23 x24 x25 x26  = some r0) : mn ν r0.1.1.2 := by
  unfold b_L_trades_903 at h
  by_cases c905 : x26 = (0 : Int32)
  · replace h := (if_pos c905).symm.trans h
    replace h := (of_guard h).2
    replace h := (of_guard h).2
    by_cases c924 : ((a 12 x24.toNatClampNeg) >>> ((8 : Int32) &&& 31)) ≤ ((a 12 x25.toNatClampNeg) >>> ((8 : Int32) &&& 31))
    · replace h := (if_pos c924).symm.trans h
      exact mb_L_trades_931 hmk780 hmk796 h
    · replace h := (if_neg c924).symm.trans h
      exact mb_L_trades_927 hmk780 hmk796 h
  · replace h := (if_neg c905).symm.trans h
    exact mb_L_trades_931 hmk780 hmk796 h
set_option maxHeartbeats 4000000 in
set_option maxRecDepth 100000 in
theorem lb_L_trades_903 {p : Program} {l : Launch} (hl : l.stackTraces = false) {e : Env} {s : State} {m : MethodId} {args : Array Value} {below : List Frame} {meth : Method} {c : Code} {D : va_G} {E : Nat → ClassId} {sz : Nat} {μ0 : MP} {ν0 : NC} {a0 : AS} {Ad0 : Nat → Nat → Nat} {Q : Nat → Nat} {B : Nat × (Nat → Nat)} {w : Nat} {r0 : ((MP × NC) × AS) × Int32} (C : cx p s m args meth c D E (Aof (zS μ0 ν0 a0 Ad0) [] s.heap.size) cL_trades 27 "TradeLineLaw") (hEv : eV (Ad0 30 0) (Ad0 31 0) B (Aof (zS μ0 ν0 a0 Ad0) [] s.heap.size) s s.heap) (hN : vN s) (hr : meth.sig.returnType = (some .boolean)) (hz : s.heap.size = sz) (hI0 : lwI ν0) (hQ0 : lwQ Ad0 Q) {μ : MP} {ν : NC} {a : AS} {Ad : Nat → Nat → Nat} (hm0 : mn ν0 ν) (hp0 : kp ν0 Ad0 Ad) {x16 : Int32} {x18 : Int32} {x19 : Int32} {x20 : Int32} {x21 : Int32} {x22 : Int32} {x23 : Int32} {x24 : Int32} {x25 : Int32} {x26 : Int32}  {k780 : MP → NC → AS → Int32 → Int32 → Int32 → Int32 → Int32 → Int32 → Int32 → Option (((MP × NC) × AS) × Int32)} {k796 : MP → NC → AS → Int32 → Int32 → Int32 → Int32 → Int32 → Int32 → Int32 → Int32 → Int32 → Option (((MP × NC) × AS) × Int32)} (hmk780 : ∀ (μ : MP) (ν : NC) (a : AS) (z16 : Int32) (z18 : Int32) (z19 : Int32) (z20 : Int32) (z21 : Int32) (z22 : Int32) (z23 : Int32), k780 μ ν a z16 z18 z19 z20 z21 z22 z23 = some r0 → mn ν r0.1.1.2) (hk780 : ∀ (μ : MP) (ν : NC) (a : AS) (Ad : Nat → Nat → Nat) (z16 : Int32) (z18 : Int32) (z19 : Int32) (z20 : Int32) (z21 : Int32) (z22 : Int32) (z23 : Int32), mn ν0 ν → kp ν0 Ad0 Ad → k780 μ ν a z16 z18 z19 z20 z21 z22 z23 = some r0 → G p l e ({ frames := 11, cells := kc r0.1.1.2 - kc ν0, slots := ks r0.1.1.2 - ks ν0, locals := 325 } : Room) s m args below meth c D E (Aof (zS μ0 ν0 a0 Ad0) [] s.heap.size) 27 (MQ below (cQ D E sz (zS μ0 ν0 a0 Ad0) [] (pI (fun r u => r = r0.2 ∧ ∃ A1, u = (zS r0.1.1.1 r0.1.1.2 r0.1.2 A1, []) ∧ kp ν0 Ad0 A1))) args s (kc r0.1.1.2 - kc ν0) (ks r0.1.1.2 - ks ν0) (Aof (zS μ0 ν0 a0 Ad0) [] s.heap.size)) (zS μ ν a Ad) [] (kc ν - kc ν0) (ks ν - ks ν0) 780 [(0, .ref (Q 0)), (4, .ref (Q 1)), (5, .ref (Q 2)), (6, .ref (Q 3)), (7, .ref (Q 4)), (8, .ref (Q 5)), (9, .ref (Q 8)), (10, .ref (Q 9)), (11, .ref (Q 10)), (12, .ref (Q 11)), (13, .ref (Q 12)), (14, .ref (Q 13)), (15, .ref (Q 14)), (16, .int z16), (18, .int z18), (19, .int z19), (20, .int z20), (21, .int z21), (22, .int z22), (23, .int z23)] []) (hmk796 : ∀ (μ : MP) (ν : NC) (a : AS) (z16 : Int32) (z18 : Int32) (z19 : Int32) (z20 : Int32) (z21 : Int32) (z22 : Int32) (z23 : Int32) (z24 : Int32) (z25 : Int32), k796 μ ν a z16 z18 z19 z20 z21 z22 z23 z24 z25 = some r0 → mn ν r0.1.1.2) (hk796 : ∀ (μ : MP) (ν : NC) (a : AS) (Ad : Nat → Nat → Nat) (z16 : Int32) (z18 : Int32) (z19 : Int32) (z20 : Int32) (z21 : Int32) (z22 : Int32) (z23 : Int32) (z24 : Int32) (z25 : Int32), mn ν0 ν → kp ν0 Ad0 Ad → k796 μ ν a z16 z18 z19 z20 z21 z22 z23 z24 z25 = some r0 → G p l e ({ frames := 11, cells := kc r0.1.1.2 - kc ν0, slots := ks r0.1.1.2 - ks ν0, locals := 325 } : Room) s m args below meth c D E (Aof (zS μ0 ν0 a0 Ad0) [] s.heap.size) 27 (MQ below (cQ D E sz (zS μ0 ν0 a0 Ad0) [] (pI (fun r u => r = r0.2 ∧ ∃ A1, u = (zS r0.1.1.1 r0.1.1.2 r0.1.2 A1, []) ∧ kp ν0 Ad0 A1))) args s (kc r0.1.1.2 - kc ν0) (ks r0.1.1.2 - ks ν0) (Aof (zS μ0 ν0 a0 Ad0) [] s.heap.size)) (zS μ ν a Ad) [] (kc ν - kc ν0) (ks ν - ks ν0) 796 [(0, .ref (Q 0)), (4, .ref (Q 1)), (5, .ref (Q 2)), (6, .ref (Q 3)), (7, .ref (Q 4)), (8, .ref (Q 5)), (9, .ref (Q 8)), (10, .ref (Q 9)), (11, .ref (Q 10)), (12, .ref (Q 11)), (13, .ref (Q 12)), (14, .ref (Q 13)), (15, .ref (Q 14)), (16, .int z16), (18, .int z18), (19, .int z19), (20, .int z20), (21, .int z21), (22, .int z22), (23, .int z23), (24, .int z24), (25, .int z25)] []) (h : b_L_trades_903 k780 k796 w μ ν a x16 x18 x19 x20 x21 x22 x23 x24 x25 x26  = some r0) : G p l e ({ frames := 11, cells := kc r0.1.1.2 - kc ν0, slots := ks r0.1.1.2 - ks ν0, locals := 325 } : Room) s m args below meth c D E (Aof (zS μ0 ν0 a0 Ad0) [] s.heap.size) 27 (MQ below (cQ D E sz (zS μ0 ν0 a0 Ad0) [] (pI (fun r u => r = r0.2 ∧ ∃ A1, u = (zS r0.1.1.1 r0.1.1.2 r0.1.2 A1, []) ∧ kp ν0 Ad0 A1))) args s (kc r0.1.1.2 - kc ν0) (ks r0.1.1.2 - ks ν0) (Aof (zS μ0 ν0 a0 Ad0) [] s.heap.size)) (zS μ ν a Ad) [] (kc ν - kc ν0) (ks ν - ks ν0) 903 [(0, .ref (Q 0)), (4, .ref (Q 1)), (5, .ref (Q 2)), (6, .ref (Q 3)), (7, .ref (Q 4)), (8, .ref (Q 5)), (9, .ref (Q 8)), (10, .ref (Q 9)), (11, .ref (Q 10)), (12, .ref (Q 11)), (13, .ref (Q 12)), (14, .ref (Q 13)), (15, .ref (Q 14)), (16, .int x16), (18, .int x18), (19, .int x19), (20, .int x20), (21, .int x21), (22, .int x22), (23, .int x23), (24, .int x24), (25, .int x25), (26, .int x26)] [] := by
  have m0 := mb_L_trades_903 hmk780 hmk796 h
  have e1 := m0.2.1; have e2 := m0.2.2.1; have e3 := hm0.2.1; have e4 := hm0.2.2.1
  have hI := lwI_mn hI0 hm0; have hQ := lwQ_kp hI0 hp0 hQ0
  unfold b_L_trades_903 at h
  refine g_iload C dL_trades_903 22 rfl ?_
  refine g_if_ne (tgt := 931) C dL_trades_905 (by decide) (fun c905 => ?_) (fun c905 => ?_)
  · replace h := (if_neg c905).symm.trans h
    refine g_lv [0, 1, 2, 3, 4, 5, 6, 7, 8, 9, 10, 11, 12, 13, 14, 15, 16, 17, 18, 19, 20, 21] rfl ?_
    exact lb_L_trades_931 hl C hEv hN hr hz hI0 hQ0 hm0 hp0 hmk780 hk780 hmk796 hk796 h
  · replace h := (if_pos c905).symm.trans h
    refine g_aload C dL_trades_908 10 rfl ?_
    refine g_iload C dL_trades_910 21 rfl ?_
    obtain ⟨g56, h⟩ := of_guard h
    refine q_iald C (show rsh (ν.1, μ.2, ν.2, Ad) from hI.2) (j := 12) (N := 10) (by decide) (lwQ_i hQ (j := 12) (N := 10) (by decide)) g56 dL_trades_912 ?_
    refine g_bipush (v := (8 : Int32)) C dL_trades_913 (by decide) ?_
    refine g_ishr C dL_trades_915 ?_
    refine g_aload C dL_trades_916 10 rfl ?_
    refine g_iload C dL_trades_918 20 rfl ?_
    obtain ⟨g57, h⟩ := of_guard h
    refine q_iald C (show rsh (ν.1, μ.2, ν.2, Ad) from hI.2) (j := 12) (N := 10) (by decide) (lwQ_i hQ (j := 12) (N := 10) (by decide)) g57 dL_trades_920 ?_
    refine g_bipush (v := (8 : Int32)) C dL_trades_921 (by decide) ?_
    refine g_ishr C dL_trades_923 ?_
    refine g_icmp_ge (tgt := 931) C dL_trades_924 (by decide) (fun c924 => ?_) (fun c924 => ?_)
    · replace h := (if_pos c924).symm.trans h
      refine g_lv [0, 1, 2, 3, 4, 5, 6, 7, 8, 9, 10, 11, 12, 13, 14, 15, 16, 17, 18, 19, 20, 21] rfl ?_
      exact lb_L_trades_931 hl C hEv hN hr hz hI0 hQ0 hm0 hp0 hmk780 hk780 hmk796 hk796 h
    · replace h := (if_neg c924).symm.trans h
      refine g_lv [0, 1, 2, 3, 4, 5, 6, 7, 8, 9, 10, 11, 12, 13, 14, 15, 16, 17, 18, 19, 21] rfl ?_
      exact lb_L_trades_927 hl C hEv hN hr hz hI0 hQ0 hm0 hp0 hmk780 hk780 hmk796 hk796 h
noncomputable def b_L_trades_898 (k780 : MP → NC → AS → Int32 → Int32 → Int32 → Int32 → Int32 → Int32 → Int32 → Option (((MP × NC) × AS) × Int32)) (k796 : MP → NC → AS → Int32 → Int32 → Int32 → Int32 → Int32 → Int32 → Int32 → Int32 → Int32 → Option (((MP × NC) × AS) × Int32)) (w : Nat) (μ : MP) (ν : NC) (a : AS) (x16 : Int32) (x18 : Int32) (x19 : Int32) (x20 : Int32) (x21 : Int32) (x22 : Int32) (x23 : Int32) (x24 : Int32) (x25 : Int32) (x26 : Int32) (s0 : Int32) : Option (((MP × NC) × AS) × Int32) := (if s0 = x18 then (b_L_trades_903 k780 k796 w μ ν a x16 x18 x19 x20 x21 x22 x23 x24 x25 x26) else (b_L_trades_927 k780 k796 w μ ν a x16 x18 x19 x20 x21 x22 x23 x25))
theorem mb_L_trades_898 {w : Nat} {μ : MP} {ν : NC} {a : AS} {x16 : Int32} {x18 : Int32} {x19 : Int32} {x20 : Int32} {x21 : Int32} {x22 : Int32} {x23 : Int32} {x24 : Int32} {x25 : Int32} {x26 : Int32} {s0 : Int32} {r0 : ((MP × NC) × AS) × Int32} {k780 : MP → NC → AS → Int32 → Int32 → Int32 → Int32 → Int32 → Int32 → Int32 → Option (((MP × NC) × AS) × Int32)} {k796 : MP → NC → AS → Int32 → Int32 → Int32 → Int32 → Int32 → Int32 → Int32 → Int32 → Int32 → Option (((MP × NC) × AS) × Int32)} (hmk780 : ∀ (μ : MP) (ν : NC) (a : AS) (z16 : Int32) (z18 : Int32) (z19 : Int32) (z20 : Int32) (z21 : Int32) (z22 : Int32) (z23 : Int32), k780 μ ν a z16 z18 z19 z20 z21 z22 z23 = some r0 → mn ν r0.1.1.2) (hmk796 : ∀ (μ : MP) (ν : NC) (a : AS) (z16 : Int32) (z18 : Int32) (z19 : Int32) (z20 : Int32) (z21 : Int32) (z22 : Int32) (z23 : Int32) (z24 : Int32) (z25 : Int32), k796 μ ν a z16 z18 z19 z20 z21 z22 z23 z24 z25 = some r0 → mn ν r0.1.1.2) (h : b_L_trades_898 k780 k796 w μ ν a x16 x18 x19 x20 x21 x22 x23 x24 x25 x26 s0 = some r0) : mn ν r0.1.1.2 := by
  unfold b_L_trades_898 at h
  by_cases c900 : s0 = x18
  · replace h := (if_pos c900).symm.trans h
    exact mb_L_trades_903 hmk780 hmk796 h
  · replace h := (if_neg c900).symm.trans h
    exact mb_L_trades_927 hmk780 hmk796 h
set_option maxHeartbeats 4000000 in
set_option maxRecDepth 100000 in
theorem lb_L_trades_898 {p : Program} {l : Launch} (hl : l.stackTraces = false) {e : Env} {s : State} {m : MethodId} {args : Array Value} {below : List Frame} {meth : Method} {c : Code} {D : va_G} {E : Nat → ClassId} {sz : Nat} {μ0 : MP} {ν0 : NC} {a0 : AS} {Ad0 : Nat → Nat → Nat} {Q : Nat → Nat} {B : Nat × (Nat → Nat)} {w : Nat} {r0 : ((MP × NC) × AS) × Int32} (C : cx p s m args meth c D E (Aof (zS μ0 ν0 a0 Ad0) [] s.heap.size) cL_trades 27 "TradeLineLaw") (hEv : eV (Ad0 30 0) (Ad0 31 0) B (Aof (zS μ0 ν0 a0 Ad0) [] s.heap.size) s s.heap) (hN : vN s) (hr : meth.sig.returnType = (some .boolean)) (hz : s.heap.size = sz) (hI0 : lwI ν0) (hQ0 : lwQ Ad0 Q) {μ : MP} {ν : NC} {a : AS} {Ad : Nat → Nat → Nat} (hm0 : mn ν0 ν) (hp0 : kp ν0 Ad0 Ad) {x16 : Int32} {x18 : Int32} {x19 : Int32} {x20 : Int32} {x21 : Int32} {x22 : Int32} {x23 : Int32} {x24 : Int32} {x25 : Int32} {x26 : Int32} {s0 : Int32} {k780 : MP → NC → AS → Int32 → Int32 → Int32 → Int32 → Int32 → Int32 → Int32 → Option (((MP × NC) × AS) × Int32)} {k796 : MP → NC → AS → Int32 → Int32 → Int32 → Int32 → Int32 → Int32 → Int32 → Int32 → Int32 → Option (((MP × NC) × AS) × Int32)} (hmk780 : ∀ (μ : MP) (ν : NC) (a : AS) (z16 : Int32) (z18 : Int32) (z19 : Int32) (z20 : Int32) (z21 : Int32) (z22 : Int32) (z23 : Int32), k780 μ ν a z16 z18 z19 z20 z21 z22 z23 = some r0 → mn ν r0.1.1.2) (hk780 : ∀ (μ : MP) (ν : NC) (a : AS) (Ad : Nat → Nat → Nat) (z16 : Int32) (z18 : Int32) (z19 : Int32) (z20 : Int32) (z21 : Int32) (z22 : Int32) (z23 : Int32), mn ν0 ν → kp ν0 Ad0 Ad → k780 μ ν a z16 z18 z19 z20 z21 z22 z23 = some r0 → G p l e ({ frames := 11, cells := kc r0.1.1.2 - kc ν0, slots := ks r0.1.1.2 - ks ν0, locals := 325 } : Room) s m args below meth c D E (Aof (zS μ0 ν0 a0 Ad0) [] s.heap.size) 27 (MQ below (cQ D E sz (zS μ0 ν0 a0 Ad0) [] (pI (fun r u => r = r0.2 ∧ ∃ A1, u = (zS r0.1.1.1 r0.1.1.2 r0.1.2 A1, []) ∧ kp ν0 Ad0 A1))) args s (kc r0.1.1.2 - kc ν0) (ks r0.1.1.2 - ks ν0) (Aof (zS μ0 ν0 a0 Ad0) [] s.heap.size)) (zS μ ν a Ad) [] (kc ν - kc ν0) (ks ν - ks ν0) 780 [(0, .ref (Q 0)), (4, .ref (Q 1)), (5, .ref (Q 2)), (6, .ref (Q 3)), (7, .ref (Q 4)), (8, .ref (Q 5)), (9, .ref (Q 8)), (10, .ref (Q 9)), (11, .ref (Q 10)), (12, .ref (Q 11)), (13, .ref (Q 12)), (14, .ref (Q 13)), (15, .ref (Q 14)), (16, .int z16), (18, .int z18), (19, .int z19), (20, .int z20), (21, .int z21), (22, .int z22), (23, .int z23)] []) (hmk796 : ∀ (μ : MP) (ν : NC) (a : AS) (z16 : Int32) (z18 : Int32) (z19 : Int32) (z20 : Int32) (z21 : Int32) (z22 : Int32) (z23 : Int32) (z24 : Int32) (z25 : Int32), k796 μ ν a z16 z18 z19 z20 z21 z22 z23 z24 z25 = some r0 → mn ν r0.1.1.2) (hk796 : ∀ (μ : MP) (ν : NC) (a : AS) (Ad : Nat → Nat → Nat) (z16 : Int32) (z18 : Int32) (z19 : Int32) (z20 : Int32) (z21 : Int32) (z22 : Int32) (z23 : Int32) (z24 : Int32) (z25 : Int32), mn ν0 ν → kp ν0 Ad0 Ad → k796 μ ν a z16 z18 z19 z20 z21 z22 z23 z24 z25 = some r0 → G p l e ({ frames := 11, cells := kc r0.1.1.2 - kc ν0, slots := ks r0.1.1.2 - ks ν0, locals := 325 } : Room) s m args below meth c D E (Aof (zS μ0 ν0 a0 Ad0) [] s.heap.size) 27 (MQ below (cQ D E sz (zS μ0 ν0 a0 Ad0) [] (pI (fun r u => r = r0.2 ∧ ∃ A1, u = (zS r0.1.1.1 r0.1.1.2 r0.1.2 A1, []) ∧ kp ν0 Ad0 A1))) args s (kc r0.1.1.2 - kc ν0) (ks r0.1.1.2 - ks ν0) (Aof (zS μ0 ν0 a0 Ad0) [] s.heap.size)) (zS μ ν a Ad) [] (kc ν - kc ν0) (ks ν - ks ν0) 796 [(0, .ref (Q 0)), (4, .ref (Q 1)), (5, .ref (Q 2)), (6, .ref (Q 3)), (7, .ref (Q 4)), (8, .ref (Q 5)), (9, .ref (Q 8)), (10, .ref (Q 9)), (11, .ref (Q 10)), (12, .ref (Q 11)), (13, .ref (Q 12)), (14, .ref (Q 13)), (15, .ref (Q 14)), (16, .int z16), (18, .int z18), (19, .int z19), (20, .int z20), (21, .int z21), (22, .int z22), (23, .int z23), (24, .int z24), (25, .int z25)] []) (h : b_L_trades_898 k780 k796 w μ ν a x16 x18 x19 x20 x21 x22 x23 x24 x25 x26 s0 = some r0) : G p l e ({ frames := 11, cells := kc r0.1.1.2 - kc ν0, slots := ks r0.1.1.2 - ks ν0, locals := 325 } : Room) s m args below meth c D E (Aof (zS μ0 ν0 a0 Ad0) [] s.heap.size) 27 (MQ below (cQ D E sz (zS μ0 ν0 a0 Ad0) [] (pI (fun r u => r = r0.2 ∧ ∃ A1, u = (zS r0.1.1.1 r0.1.1.2 r0.1.2 A1, []) ∧ kp ν0 Ad0 A1))) args s (kc r0.1.1.2 - kc ν0) (ks r0.1.1.2 - ks ν0) (Aof (zS μ0 ν0 a0 Ad0) [] s.heap.size)) (zS μ ν a Ad) [] (kc ν - kc ν0) (ks ν - ks ν0) 898 [(0, .ref (Q 0)), (4, .ref (Q 1)), (5, .ref (Q 2)), (6, .ref (Q 3)), (7, .ref (Q 4)), (8, .ref (Q 5)), (9, .ref (Q 8)), (10, .ref (Q 9)), (11, .ref (Q 10)), (12, .ref (Q 11)), (13, .ref (Q 12)), (14, .ref (Q 13)), (15, .ref (Q 14)), (16, .int x16), (18, .int x18), (19, .int x19), (20, .int x20), (21, .int x21), (22, .int x22), (23, .int x23), (24, .int x24), (25, .int x25), (26, .int x26)] [.int s0] := by
  have m0 := mb_L_trades_898 hmk780 hmk796 h
  have e1 := m0.2.1; have e2 := m0.2.2.1; have e3 := hm0.2.1; have e4 := hm0.2.2.1
  have hI := lwI_mn hI0 hm0; have hQ := lwQ_kp hI0 hp0 hQ0
  unfold b_L_trades_898 at h
  refine g_iload C dL_trades_898 14 rfl ?_
  refine g_icmp_ne (tgt := 927) C dL_trades_900 (by decide) (fun c900 => ?_) (fun c900 => ?_)
  · replace h := (if_neg c900).symm.trans h
    refine g_lv [0, 1, 2, 3, 4, 5, 6, 7, 8, 9, 10, 11, 12, 13, 14, 15, 16, 17, 18, 19, 21] rfl ?_
    exact lb_L_trades_927 hl C hEv hN hr hz hI0 hQ0 hm0 hp0 hmk780 hk780 hmk796 hk796 h
  · replace h := (if_pos c900).symm.trans h
    refine g_lv [0, 1, 2, 3, 4, 5, 6, 7, 8, 9, 10, 11, 12, 13, 14, 15, 16, 17, 18, 19, 20, 21, 22] rfl ?_
    exact lb_L_trades_903 hl C hEv hN hr hz hI0 hQ0 hm0 hp0 hmk780 hk780 hmk796 hk796 h
noncomputable def b_L_trades_876 (k780 : MP → NC → AS → Int32 → Int32 → Int32 → Int32 → Int32 → Int32 → Int32 → Option (((MP × NC) × AS) × Int32)) (k796 : MP → NC → AS → Int32 → Int32 → Int32 → Int32 → Int32 → Int32 → Int32 → Int32 → Int32 → Option (((MP × NC) × AS) × Int32)) (w : Nat) (μ : MP) (ν : NC) (a : AS) (x16 : Int32) (x18 : Int32) (x19 : Int32) (x20 : Int32) (x21 : Int32) (x22 : Int32) (x23 : Int32) (x24 : Int32) (x25 : Int32) (s0 : Int32) : Option (((MP × NC) × AS) × Int32) := (if x24 < (0 : Int32) then (b_L_trades_927 k780 k796 w μ ν a x16 x18 x19 x20 x21 x22 x23 x25) else ((if s0 = (0 : Int32) then (b_L_trades_903 k780 k796 w μ ν a x16 x18 x19 x20 x21 x22 x23 x24 x25 s0) else ((if s0 ≤ (0 : Int32) then (b_L_trades_898 k780 k796 w μ ν a x16 x18 x19 x20 x21 x22 x23 x24 x25 s0 (0 : Int32)) else (b_L_trades_898 k780 k796 w μ ν a x16 x18 x19 x20 x21 x22 x23 x24 x25 s0 (1 : Int32)))))))
theorem mb_L_trades_876 {w : Nat} {μ : MP} {ν : NC} {a : AS} {x16 : Int32} {x18 : Int32} {x19 : Int32} {x20 : Int32} {x21 : Int32} {x22 : Int32} {x23 : Int32} {x24 : Int32} {x25 : Int32} {s0 : Int32} {r0 : ((MP × NC) × AS) × Int32} {k780 : MP → NC → AS → Int32 → Int32 → Int32 → Int32 → Int32 → Int32 → Int32 → Option (((MP × NC) × AS) × Int32)} {k796 : MP → NC → AS → Int32 → Int32 → Int32 → Int32 → Int32 → Int32 → Int32 → Int32 → Int32 → Option (((MP × NC) × AS) × Int32)} (hmk780 : ∀ (μ : MP) (ν : NC) (a : AS) (z16 : Int32) (z18 : Int32) (z19 : Int32) (z20 : Int32) (z21 : Int32) (z22 : Int32) (z23 : Int32), k780 μ ν a z16 z18 z19 z20 z21 z22 z23 = some r0 → mn ν r0.1.1.2) (hmk796 : ∀ (μ : MP) (ν : NC) (a : AS) (z16 : Int32) (z18 : Int32) (z19 : Int32) (z20 : Int32) (z21 : Int32) (z22 : Int32) (z23 : Int32) (z24 : Int32) (z25 : Int32), k796 μ ν a z16 z18 z19 z20 z21 z22 z23 z24 z25 = some r0 → mn ν r0.1.1.2) (h : b_L_trades_876 k780 k796 w μ ν a x16 x18 x19 x20 x21 x22 x23 x24 x25 s0 = some r0) : mn ν r0.1.1.2 := by
  unfold b_L_trades_876 at h
  by_cases c880 : x24 < (0 : Int32)
  · replace h := (if_pos c880).symm.trans h
    exact mb_L_trades_927 hmk780 hmk796 h
  · replace h := (if_neg c880).symm.trans h
    by_cases c885 : s0 = (0 : Int32)
    · replace h := (if_pos c885).symm.trans h
      exact mb_L_trades_903 hmk780 hmk796 h
    · replace h := (if_neg c885).symm.trans h
      by_cases c890 : s0 ≤ (0 : Int32)
      · replace h := (if_pos c890).symm.trans h
        exact mb_L_trades_898 hmk780 hmk796 h
      · replace h := (if_neg c890).symm.trans h
        exact mb_L_trades_898 hmk780 hmk796 h
set_option maxHeartbeats 4000000 in
set_option maxRecDepth 100000 in
theorem lb_L_trades_876 {p : Program} {l : Launch} (hl : l.stackTraces = false) {e : Env} {s : State} {m : MethodId} {args : Array Value} {below : List Frame} {meth : Method} {c : Code} {D : va_G} {E : Nat → ClassId} {sz : Nat} {μ0 : MP} {ν0 : NC} {a0 : AS} {Ad0 : Nat → Nat → Nat} {Q : Nat → Nat} {B : Nat × (Nat → Nat)} {w : Nat} {r0 : ((MP × NC) × AS) × Int32} (C : cx p s m args meth c D E (Aof (zS μ0 ν0 a0 Ad0) [] s.heap.size) cL_trades 27 "TradeLineLaw") (hEv : eV (Ad0 30 0) (Ad0 31 0) B (Aof (zS μ0 ν0 a0 Ad0) [] s.heap.size) s s.heap) (hN : vN s) (hr : meth.sig.returnType = (some .boolean)) (hz : s.heap.size = sz) (hI0 : lwI ν0) (hQ0 : lwQ Ad0 Q) {μ : MP} {ν : NC} {a : AS} {Ad : Nat → Nat → Nat} (hm0 : mn ν0 ν) (hp0 : kp ν0 Ad0 Ad) {x16 : Int32} {x18 : Int32} {x19 : Int32} {x20 : Int32} {x21 : Int32} {x22 : Int32} {x23 : Int32} {x24 : Int32} {x25 : Int32} {s0 : Int32} {k780 : MP → NC → AS → Int32 → Int32 → Int32 → Int32 → Int32 → Int32 → Int32 → Option (((MP × NC) × AS) × Int32)} {k796 : MP → NC → AS → Int32 → Int32 → Int32 → Int32 → Int32 → Int32 → Int32 → Int32 → Int32 → Option (((MP × NC) × AS) × Int32)} (hmk780 : ∀ (μ : MP) (ν : NC) (a : AS) (z16 : Int32) (z18 : Int32) (z19 : Int32) (z20 : Int32) (z21 : Int32) (z22 : Int32) (z23 : Int32), k780 μ ν a z16 z18 z19 z20 z21 z22 z23 = some r0 → mn ν r0.1.1.2) (hk780 : ∀ (μ : MP) (ν : NC) (a : AS) (Ad : Nat → Nat → Nat) (z16 : Int32) (z18 : Int32) (z19 : Int32) (z20 : Int32) (z21 : Int32) (z22 : Int32) (z23 : Int32), mn ν0 ν → kp ν0 Ad0 Ad → k780 μ ν a z16 z18 z19 z20 z21 z22 z23 = some r0 → G p l e ({ frames := 11, cells := kc r0.1.1.2 - kc ν0, slots := ks r0.1.1.2 - ks ν0, locals := 325 } : Room) s m args below meth c D E (Aof (zS μ0 ν0 a0 Ad0) [] s.heap.size) 27 (MQ below (cQ D E sz (zS μ0 ν0 a0 Ad0) [] (pI (fun r u => r = r0.2 ∧ ∃ A1, u = (zS r0.1.1.1 r0.1.1.2 r0.1.2 A1, []) ∧ kp ν0 Ad0 A1))) args s (kc r0.1.1.2 - kc ν0) (ks r0.1.1.2 - ks ν0) (Aof (zS μ0 ν0 a0 Ad0) [] s.heap.size)) (zS μ ν a Ad) [] (kc ν - kc ν0) (ks ν - ks ν0) 780 [(0, .ref (Q 0)), (4, .ref (Q 1)), (5, .ref (Q 2)), (6, .ref (Q 3)), (7, .ref (Q 4)), (8, .ref (Q 5)), (9, .ref (Q 8)), (10, .ref (Q 9)), (11, .ref (Q 10)), (12, .ref (Q 11)), (13, .ref (Q 12)), (14, .ref (Q 13)), (15, .ref (Q 14)), (16, .int z16), (18, .int z18), (19, .int z19), (20, .int z20), (21, .int z21), (22, .int z22), (23, .int z23)] []) (hmk796 : ∀ (μ : MP) (ν : NC) (a : AS) (z16 : Int32) (z18 : Int32) (z19 : Int32) (z20 : Int32) (z21 : Int32) (z22 : Int32) (z23 : Int32) (z24 : Int32) (z25 : Int32), k796 μ ν a z16 z18 z19 z20 z21 z22 z23 z24 z25 = some r0 → mn ν r0.1.1.2) (hk796 : ∀ (μ : MP) (ν : NC) (a : AS) (Ad : Nat → Nat → Nat) (z16 : Int32) (z18 : Int32) (z19 : Int32) (z20 : Int32) (z21 : Int32) (z22 : Int32) (z23 : Int32) (z24 : Int32) (z25 : Int32), mn ν0 ν → kp ν0 Ad0 Ad → k796 μ ν a z16 z18 z19 z20 z21 z22 z23 z24 z25 = some r0 → G p l e ({ frames := 11, cells := kc r0.1.1.2 - kc ν0, slots := ks r0.1.1.2 - ks ν0, locals := 325 } : Room) s m args below meth c D E (Aof (zS μ0 ν0 a0 Ad0) [] s.heap.size) 27 (MQ below (cQ D E sz (zS μ0 ν0 a0 Ad0) [] (pI (fun r u => r = r0.2 ∧ ∃ A1, u = (zS r0.1.1.1 r0.1.1.2 r0.1.2 A1, []) ∧ kp ν0 Ad0 A1))) args s (kc r0.1.1.2 - kc ν0) (ks r0.1.1.2 - ks ν0) (Aof (zS μ0 ν0 a0 Ad0) [] s.heap.size)) (zS μ ν a Ad) [] (kc ν - kc ν0) (ks ν - ks ν0) 796 [(0, .ref (Q 0)), (4, .ref (Q 1)), (5, .ref (Q 2)), (6, .ref (Q 3)), (7, .ref (Q 4)), (8, .ref (Q 5)), (9, .ref (Q 8)), (10, .ref (Q 9)), (11, .ref (Q 10)), (12, .ref (Q 11)), (13, .ref (Q 12)), (14, .ref (Q 13)), (15, .ref (Q 14)), (16, .int z16), (18, .int z18), (19, .int z19), (20, .int z20), (21, .int z21), (22, .int z22), (23, .int z23), (24, .int z24), (25, .int z25)] []) (h : b_L_trades_876 k780 k796 w μ ν a x16 x18 x19 x20 x21 x22 x23 x24 x25 s0 = some r0) : G p l e ({ frames := 11, cells := kc r0.1.1.2 - kc ν0, slots := ks r0.1.1.2 - ks ν0, locals := 325 } : Room) s m args below meth c D E (Aof (zS μ0 ν0 a0 Ad0) [] s.heap.size) 27 (MQ below (cQ D E sz (zS μ0 ν0 a0 Ad0) [] (pI (fun r u => r = r0.2 ∧ ∃ A1, u = (zS r0.1.1.1 r0.1.1.2 r0.1.2 A1, []) ∧ kp ν0 Ad0 A1))) args s (kc r0.1.1.2 - kc ν0) (ks r0.1.1.2 - ks ν0) (Aof (zS μ0 ν0 a0 Ad0) [] s.heap.size)) (zS μ ν a Ad) [] (kc ν - kc ν0) (ks ν - ks ν0) 876 [(0, .ref (Q 0)), (4, .ref (Q 1)), (5, .ref (Q 2)), (6, .ref (Q 3)), (7, .ref (Q 4)), (8, .ref (Q 5)), (9, .ref (Q 8)), (10, .ref (Q 9)), (11, .ref (Q 10)), (12, .ref (Q 11)), (13, .ref (Q 12)), (14, .ref (Q 13)), (15, .ref (Q 14)), (16, .int x16), (18, .int x18), (19, .int x19), (20, .int x20), (21, .int x21), (22, .int x22), (23, .int x23), (24, .int x24), (25, .int x25)] [.int s0] := by
  have m0 := mb_L_trades_876 hmk780 hmk796 h
  have e1 := m0.2.1; have e2 := m0.2.2.1; have e3 := hm0.2.1; have e4 := hm0.2.2.1
  have hI := lwI_mn hI0 hm0; have hQ := lwQ_kp hI0 hp0 hQ0
  unfold b_L_trades_876 at h
  refine g_istore (lv' := [(26, .int s0), (0, .ref (Q 0)), (4, .ref (Q 1)), (5, .ref (Q 2)), (6, .ref (Q 3)), (7, .ref (Q 4)), (8, .ref (Q 5)), (9, .ref (Q 8)), (10, .ref (Q 9)), (11, .ref (Q 10)), (12, .ref (Q 11)), (13, .ref (Q 12)), (14, .ref (Q 13)), (15, .ref (Q 14)), (16, .int x16), (18, .int x18), (19, .int x19), (20, .int x20), (21, .int x21), (22, .int x22), (23, .int x23), (24, .int x24), (25, .int x25)]) C dL_trades_876 (by decide) rfl ?_
  refine g_iload C dL_trades_878 21 rfl ?_
  refine g_if_lt (tgt := 927) C dL_trades_880 (by decide) (fun c880 => ?_) (fun c880 => ?_)
  · replace h := (if_pos c880).symm.trans h
    refine g_lv [1, 2, 3, 4, 5, 6, 7, 8, 9, 10, 11, 12, 13, 14, 15, 16, 17, 18, 19, 20, 22] rfl ?_
    exact lb_L_trades_927 hl C hEv hN hr hz hI0 hQ0 hm0 hp0 hmk780 hk780 hmk796 hk796 h
  · replace h := (if_neg c880).symm.trans h
    refine g_iload C dL_trades_883 0 rfl ?_
    refine g_if_eq (tgt := 903) C dL_trades_885 (by decide) (fun c885 => ?_) (fun c885 => ?_)
    · replace h := (if_pos c885).symm.trans h
      refine g_lv [1, 2, 3, 4, 5, 6, 7, 8, 9, 10, 11, 12, 13, 14, 15, 16, 17, 18, 19, 20, 21, 22, 0] rfl ?_
      exact lb_L_trades_903 hl C hEv hN hr hz hI0 hQ0 hm0 hp0 hmk780 hk780 hmk796 hk796 h
    · replace h := (if_neg c885).symm.trans h
      refine g_iload C dL_trades_888 0 rfl ?_
      refine g_if_le (tgt := 897) C dL_trades_890 (by decide) (fun c890 => ?_) (fun c890 => ?_)
      · replace h := (if_pos c890).symm.trans h
        refine g_iconst (v := (0 : Int32)) C dL_trades_897 (by decide) ?_
        refine g_lv [1, 2, 3, 4, 5, 6, 7, 8, 9, 10, 11, 12, 13, 14, 15, 16, 17, 18, 19, 20, 21, 22, 0] rfl ?_
        exact lb_L_trades_898 hl C hEv hN hr hz hI0 hQ0 hm0 hp0 hmk780 hk780 hmk796 hk796 h
      · replace h := (if_neg c890).symm.trans h
        refine g_iconst (v := (1 : Int32)) C dL_trades_893 (by decide) ?_
        refine g_goto (tgt := 898) C dL_trades_894 (by decide) ?_
        refine g_lv [1, 2, 3, 4, 5, 6, 7, 8, 9, 10, 11, 12, 13, 14, 15, 16, 17, 18, 19, 20, 21, 22, 0] rfl ?_
        exact lb_L_trades_898 hl C hEv hN hr hz hI0 hQ0 hm0 hp0 hmk780 hk780 hmk796 hk796 h
noncomputable def b_L_trades_844 (k780 : MP → NC → AS → Int32 → Int32 → Int32 → Int32 → Int32 → Int32 → Int32 → Option (((MP × NC) × AS) × Int32)) (k796 : MP → NC → AS → Int32 → Int32 → Int32 → Int32 → Int32 → Int32 → Int32 → Int32 → Int32 → Option (((MP × NC) × AS) × Int32)) (w : Nat) (μ : MP) (ν : NC) (a : AS) (x16 : Int32) (x18 : Int32) (x19 : Int32) (x20 : Int32) (x21 : Int32) (x22 : Int32) (x23 : Int32) (x24 : Int32) (x25 : Int32) (s0 : Int32) (s1 : Int32) : Option (((MP × NC) × AS) × Int32) := (if s1 = s0 then ((if (0 : Int32) ≤ x24 then (bif ixB ((10 : Int32) + x25) 20 then bif ixB ((10 : Int32) + x24) 20 then b_L_trades_876 k780 k796 w μ ν a x16 x18 x19 x20 x21 x22 x23 x24 x25 ((a 8 ((10 : Int32) + x25).toNatClampNeg) - (a 8 ((10 : Int32) + x24).toNatClampNeg)) else none else none) else (b_L_trades_876 k780 k796 w μ ν a x16 x18 x19 x20 x21 x22 x23 x24 x25 (0 : Int32)))) else (b_L_trades_931 k780 k796 w μ ν a x16 x18 x19 x20 x21 x22 x23 x24 x25))
theorem mb_L_trades_844 {w : Nat} {μ : MP} {ν : NC} {a : AS} {x16 : Int32} {x18 : Int32} {x19 : Int32} {x20 : Int32} {x21 : Int32} {x22 : Int32} {x23 : Int32} {x24 : Int32} {x25 : Int32} {s0 : Int32} {s1 : Int32} {r0 : ((MP × NC) × AS) × Int32} {k780 : MP → NC → AS → Int32 → Int32 → Int32 → Int32 → Int32 → Int32 → Int32 → Option (((MP × NC) × AS) × Int32)} {k796 : MP → NC → AS → Int32 → Int32 → Int32 → Int32 → Int32 → Int32 → Int32 → Int32 → Int32 → Option (((MP × NC) × AS) × Int32)} (hmk780 : ∀ (μ : MP) (ν : NC) (a : AS) (z16 : Int32) (z18 : Int32) (z19 : Int32) (z20 : Int32) (z21 : Int32) (z22 : Int32) (z23 : Int32), k780 μ ν a z16 z18 z19 z20 z21 z22 z23 = some r0 → mn ν r0.1.1.2) (hmk796 : ∀ (μ : MP) (ν : NC) (a : AS) (z16 : Int32) (z18 : Int32) (z19 : Int32) (z20 : Int32) (z21 : Int32) (z22 : Int32) (z23 : Int32) (z24 : Int32) (z25 : Int32), k796 μ ν a z16 z18 z19 z20 z21 z22 z23 z24 z25 = some r0 → mn ν r0.1.1.2) (h : b_L_trades_844 k780 k796 w μ ν a x16 x18 x19 x20 x21 x22 x23 x24 x25 s0 s1 = some r0) : mn ν r0.1.1.2 := by
  unfold b_L_trades_844 at h
  by_cases c844 : s1 = s0
  · replace h := (if_pos c844).symm.trans h
    by_cases c852 : (0 : Int32) ≤ x24
    · replace h := (if_pos c852).symm.trans h
      replace h := (of_guard h).2
      replace h := (of_guard h).2
      exact mb_L_trades_876 hmk780 hmk796 h
    · replace h := (if_neg c852).symm.trans h
      exact mb_L_trades_876 hmk780 hmk796 h
  · replace h := (if_neg c844).symm.trans h
    exact mb_L_trades_931 hmk780 hmk796 h
set_option maxHeartbeats 4000000 in
set_option maxRecDepth 100000 in
theorem lb_L_trades_844 {p : Program} {l : Launch} (hl : l.stackTraces = false) {e : Env} {s : State} {m : MethodId} {args : Array Value} {below : List Frame} {meth : Method} {c : Code} {D : va_G} {E : Nat → ClassId} {sz : Nat} {μ0 : MP} {ν0 : NC} {a0 : AS} {Ad0 : Nat → Nat → Nat} {Q : Nat → Nat} {B : Nat × (Nat → Nat)} {w : Nat} {r0 : ((MP × NC) × AS) × Int32} (C : cx p s m args meth c D E (Aof (zS μ0 ν0 a0 Ad0) [] s.heap.size) cL_trades 27 "TradeLineLaw") (hEv : eV (Ad0 30 0) (Ad0 31 0) B (Aof (zS μ0 ν0 a0 Ad0) [] s.heap.size) s s.heap) (hN : vN s) (hr : meth.sig.returnType = (some .boolean)) (hz : s.heap.size = sz) (hI0 : lwI ν0) (hQ0 : lwQ Ad0 Q) {μ : MP} {ν : NC} {a : AS} {Ad : Nat → Nat → Nat} (hm0 : mn ν0 ν) (hp0 : kp ν0 Ad0 Ad) {x16 : Int32} {x18 : Int32} {x19 : Int32} {x20 : Int32} {x21 : Int32} {x22 : Int32} {x23 : Int32} {x24 : Int32} {x25 : Int32} {s0 : Int32} {s1 : Int32} {k780 : MP → NC → AS → Int32 → Int32 → Int32 → Int32 → Int32 → Int32 → Int32 → Option (((MP × NC) × AS) × Int32)} {k796 : MP → NC → AS → Int32 → Int32 → Int32 → Int32 → Int32 → Int32 → Int32 → Int32 → Int32 → Option (((MP × NC) × AS) × Int32)} (hmk780 : ∀ (μ : MP) (ν : NC) (a : AS) (z16 : Int32) (z18 : Int32) (z19 : Int32) (z20 : Int32) (z21 : Int32) (z22 : Int32) (z23 : Int32), k780 μ ν a z16 z18 z19 z20 z21 z22 z23 = some r0 → mn ν r0.1.1.2) (hk780 : ∀ (μ : MP) (ν : NC) (a : AS) (Ad : Nat → Nat → Nat) (z16 : Int32) (z18 : Int32) (z19 : Int32) (z20 : Int32) (z21 : Int32) (z22 : Int32) (z23 : Int32), mn ν0 ν → kp ν0 Ad0 Ad → k780 μ ν a z16 z18 z19 z20 z21 z22 z23 = some r0 → G p l e ({ frames := 11, cells := kc r0.1.1.2 - kc ν0, slots := ks r0.1.1.2 - ks ν0, locals := 325 } : Room) s m args below meth c D E (Aof (zS μ0 ν0 a0 Ad0) [] s.heap.size) 27 (MQ below (cQ D E sz (zS μ0 ν0 a0 Ad0) [] (pI (fun r u => r = r0.2 ∧ ∃ A1, u = (zS r0.1.1.1 r0.1.1.2 r0.1.2 A1, []) ∧ kp ν0 Ad0 A1))) args s (kc r0.1.1.2 - kc ν0) (ks r0.1.1.2 - ks ν0) (Aof (zS μ0 ν0 a0 Ad0) [] s.heap.size)) (zS μ ν a Ad) [] (kc ν - kc ν0) (ks ν - ks ν0) 780 [(0, .ref (Q 0)), (4, .ref (Q 1)), (5, .ref (Q 2)), (6, .ref (Q 3)), (7, .ref (Q 4)), (8, .ref (Q 5)), (9, .ref (Q 8)), (10, .ref (Q 9)), (11, .ref (Q 10)), (12, .ref (Q 11)), (13, .ref (Q 12)), (14, .ref (Q 13)), (15, .ref (Q 14)), (16, .int z16), (18, .int z18), (19, .int z19), (20, .int z20), (21, .int z21), (22, .int z22), (23, .int z23)] []) (hmk796 : ∀ (μ : MP) (ν : NC) (a : AS) (z16 : Int32) (z18 : Int32) (z19 : Int32) (z20 : Int32) (z21 : Int32) (z22 : Int32) (z23 : Int32) (z24 : Int32) (z25 : Int32), k796 μ ν a z16 z18 z19 z20 z21 z22 z23 z24 z25 = some r0 → mn ν r0.1.1.2) (hk796 : ∀ (μ : MP) (ν : NC) (a : AS) (Ad : Nat → Nat → Nat) (z16 : Int32) (z18 : Int32) (z19 : Int32) (z20 : Int32) (z21 : Int32) (z22 : Int32) (z23 : Int32) (z24 : Int32) (z25 : Int32), mn ν0 ν → kp ν0 Ad0 Ad → k796 μ ν a z16 z18 z19 z20 z21 z22 z23 z24 z25 = some r0 → G p l e ({ frames := 11, cells := kc r0.1.1.2 - kc ν0, slots := ks r0.1.1.2 - ks ν0, locals := 325 } : Room) s m args below meth c D E (Aof (zS μ0 ν0 a0 Ad0) [] s.heap.size) 27 (MQ below (cQ D E sz (zS μ0 ν0 a0 Ad0) [] (pI (fun r u => r = r0.2 ∧ ∃ A1, u = (zS r0.1.1.1 r0.1.1.2 r0.1.2 A1, []) ∧ kp ν0 Ad0 A1))) args s (kc r0.1.1.2 - kc ν0) (ks r0.1.1.2 - ks ν0) (Aof (zS μ0 ν0 a0 Ad0) [] s.heap.size)) (zS μ ν a Ad) [] (kc ν - kc ν0) (ks ν - ks ν0) 796 [(0, .ref (Q 0)), (4, .ref (Q 1)), (5, .ref (Q 2)), (6, .ref (Q 3)), (7, .ref (Q 4)), (8, .ref (Q 5)), (9, .ref (Q 8)), (10, .ref (Q 9)), (11, .ref (Q 10)), (12, .ref (Q 11)), (13, .ref (Q 12)), (14, .ref (Q 13)), (15, .ref (Q 14)), (16, .int z16), (18, .int z18), (19, .int z19), (20, .int z20), (21, .int z21), (22, .int z22), (23, .int z23), (24, .int z24), (25, .int z25)] []) (h : b_L_trades_844 k780 k796 w μ ν a x16 x18 x19 x20 x21 x22 x23 x24 x25 s0 s1 = some r0) : G p l e ({ frames := 11, cells := kc r0.1.1.2 - kc ν0, slots := ks r0.1.1.2 - ks ν0, locals := 325 } : Room) s m args below meth c D E (Aof (zS μ0 ν0 a0 Ad0) [] s.heap.size) 27 (MQ below (cQ D E sz (zS μ0 ν0 a0 Ad0) [] (pI (fun r u => r = r0.2 ∧ ∃ A1, u = (zS r0.1.1.1 r0.1.1.2 r0.1.2 A1, []) ∧ kp ν0 Ad0 A1))) args s (kc r0.1.1.2 - kc ν0) (ks r0.1.1.2 - ks ν0) (Aof (zS μ0 ν0 a0 Ad0) [] s.heap.size)) (zS μ ν a Ad) [] (kc ν - kc ν0) (ks ν - ks ν0) 844 [(0, .ref (Q 0)), (4, .ref (Q 1)), (5, .ref (Q 2)), (6, .ref (Q 3)), (7, .ref (Q 4)), (8, .ref (Q 5)), (9, .ref (Q 8)), (10, .ref (Q 9)), (11, .ref (Q 10)), (12, .ref (Q 11)), (13, .ref (Q 12)), (14, .ref (Q 13)), (15, .ref (Q 14)), (16, .int x16), (18, .int x18), (19, .int x19), (20, .int x20), (21, .int x21), (22, .int x22), (23, .int x23), (24, .int x24), (25, .int x25)] [.int s0, .int s1] := by
  have m0 := mb_L_trades_844 hmk780 hmk796 h
  have e1 := m0.2.1; have e2 := m0.2.2.1; have e3 := hm0.2.1; have e4 := hm0.2.2.1
  have hI := lwI_mn hI0 hm0; have hQ := lwQ_kp hI0 hp0 hQ0
  unfold b_L_trades_844 at h
  refine g_icmp_eq (tgt := 850) C dL_trades_844 (by decide) (fun c844 => ?_) (fun c844 => ?_)
  · replace h := (if_pos c844).symm.trans h
    refine g_iload C dL_trades_850 20 rfl ?_
    refine g_if_ge (tgt := 859) C dL_trades_852 (by decide) (fun c852 => ?_) (fun c852 => ?_)
    · replace h := (if_pos c852).symm.trans h
      refine g_aload C dL_trades_859 6 rfl ?_
      refine g_bipush (v := (10 : Int32)) C dL_trades_861 (by decide) ?_
      refine g_iload C dL_trades_863 21 rfl ?_
      refine g_iadd C dL_trades_865 ?_
      obtain ⟨g54, h⟩ := of_guard h
      refine q_iald C (show rsh (ν.1, μ.2, ν.2, Ad) from hI.2) (j := 8) (N := 20) (by decide) (lwQ_i hQ (j := 8) (N := 20) (by decide)) g54 dL_trades_866 ?_
      refine g_aload C dL_trades_867 6 rfl ?_
      refine g_bipush (v := (10 : Int32)) C dL_trades_869 (by decide) ?_
      refine g_iload C dL_trades_871 20 rfl ?_
      refine g_iadd C dL_trades_873 ?_
      obtain ⟨g55, h⟩ := of_guard h
      refine q_iald C (show rsh (ν.1, μ.2, ν.2, Ad) from hI.2) (j := 8) (N := 20) (by decide) (lwQ_i hQ (j := 8) (N := 20) (by decide)) g55 dL_trades_874 ?_
      refine g_isub C dL_trades_875 ?_
      refine g_lv [0, 1, 2, 3, 4, 5, 6, 7, 8, 9, 10, 11, 12, 13, 14, 15, 16, 17, 18, 19, 20, 21] rfl ?_
      exact lb_L_trades_876 hl C hEv hN hr hz hI0 hQ0 hm0 hp0 hmk780 hk780 hmk796 hk796 h
    · replace h := (if_neg c852).symm.trans h
      refine g_iconst (v := (0 : Int32)) C dL_trades_855 (by decide) ?_
      refine g_goto (tgt := 876) C dL_trades_856 (by decide) ?_
      refine g_lv [0, 1, 2, 3, 4, 5, 6, 7, 8, 9, 10, 11, 12, 13, 14, 15, 16, 17, 18, 19, 20, 21] rfl ?_
      exact lb_L_trades_876 hl C hEv hN hr hz hI0 hQ0 hm0 hp0 hmk780 hk780 hmk796 hk796 h
  · replace h := (if_neg c844).symm.trans h
    refine g_goto (tgt := 931) C dL_trades_847 (by decide) ?_
    refine g_lv [0, 1, 2, 3, 4, 5, 6, 7, 8, 9, 10, 11, 12, 13, 14, 15, 16, 17, 18, 19, 20, 21] rfl ?_
    exact lb_L_trades_931 hl C hEv hN hr hz hI0 hQ0 hm0 hp0 hmk780 hk780 hmk796 hk796 h
noncomputable def b_L_trades_796 (k780 : MP → NC → AS → Int32 → Int32 → Int32 → Int32 → Int32 → Int32 → Int32 → Option (((MP × NC) × AS) × Int32)) (k796 : MP → NC → AS → Int32 → Int32 → Int32 → Int32 → Int32 → Int32 → Int32 → Int32 → Int32 → Option (((MP × NC) × AS) × Int32)) (w : Nat) (μ : MP) (ν : NC) (a : AS) (x16 : Int32) (x18 : Int32) (x19 : Int32) (x20 : Int32) (x21 : Int32) (x22 : Int32) (x23 : Int32) (x24 : Int32) (x25 : Int32)  : Option (((MP × NC) × AS) × Int32) := bif ixB (18 : Int32) 22 then (if (a 1 (18 : Int32).toNatClampNeg) ≤ x25 then ((if (0 : Int32) ≤ x24 then (yl ((x22 ||| ((1 : Int32) <<< (x24 &&& 31)))) (fun t49 => (f_L_route w a x24).bind (fun v50 => b_L_trades_983 k780 w μ ν v50.1 x16 x18 x19 x20 x21 t49 x23))) else (b_L_trades_983 k780 w μ ν a x16 x18 x19 x20 x21 x22 x23))) else ((if ((x22 >>> (x25 &&& 31)) &&& (1 : Int32)) = (1 : Int32) then (b_L_trades_931 k780 k796 w μ ν a x16 x18 x19 x20 x21 x22 x23 x24 x25) else (bif ixB x25 10 then (if ((a 12 x25.toNatClampNeg) &&& (4 : Int32)) = (0 : Int32) then (b_L_trades_931 k780 k796 w μ ν a x16 x18 x19 x20 x21 x22 x23 x24 x25) else ((if x18 = (0 : Int32) then (b_L_trades_844 k780 k796 w μ ν a x16 x18 x19 x20 x21 x22 x23 x24 x25 (0 : Int32) ((a 12 x25.toNatClampNeg) &&& (1 : Int32))) else (b_L_trades_844 k780 k796 w μ ν a x16 x18 x19 x20 x21 x22 x23 x24 x25 (1 : Int32) ((a 12 x25.toNatClampNeg) &&& (1 : Int32)))))) else none)))) else none
theorem mb_L_trades_796 {w : Nat} {μ : MP} {ν : NC} {a : AS} {x16 : Int32} {x18 : Int32} {x19 : Int32} {x20 : Int32} {x21 : Int32} {x22 : Int32} {x23 : Int32} {x24 : Int32} {x25 : Int32}  {r0 : ((MP × NC) × AS) × Int32} {k780 : MP → NC → AS → Int32 → Int32 → Int32 → Int32 → Int32 → Int32 → Int32 → Option (((MP × NC) × AS) × Int32)} {k796 : MP → NC → AS → Int32 → Int32 → Int32 → Int32 → Int32 → Int32 → Int32 → Int32 → Int32 → Option (((MP × NC) × AS) × Int32)} (hmk780 : ∀ (μ : MP) (ν : NC) (a : AS) (z16 : Int32) (z18 : Int32) (z19 : Int32) (z20 : Int32) (z21 : Int32) (z22 : Int32) (z23 : Int32), k780 μ ν a z16 z18 z19 z20 z21 z22 z23 = some r0 → mn ν r0.1.1.2) (hmk796 : ∀ (μ : MP) (ν : NC) (a : AS) (z16 : Int32) (z18 : Int32) (z19 : Int32) (z20 : Int32) (z21 : Int32) (z22 : Int32) (z23 : Int32) (z24 : Int32) (z25 : Int32), k796 μ ν a z16 z18 z19 z20 z21 z22 z23 z24 z25 = some r0 → mn ν r0.1.1.2) (h : b_L_trades_796 k780 k796 w μ ν a x16 x18 x19 x20 x21 x22 x23 x24 x25  = some r0) : mn ν r0.1.1.2 := by
  unfold b_L_trades_796 at h
  replace h := (of_guard h).2
  by_cases c803 : (a 1 (18 : Int32).toNatClampNeg) ≤ x25
  · replace h := (if_pos c803).symm.trans h
    by_cases c939 : (0 : Int32) ≤ x24
    · replace h := (if_pos c939).symm.trans h
      obtain ⟨t49, et49⟩ : ∃ y, (x22 ||| ((1 : Int32) <<< (x24 &&& 31))) = y := ⟨_, rfl⟩
      replace h := yl_of h et49
      obtain ⟨v50, hv50, h⟩ := bind_of h
      exact mb_L_trades_983 hmk780 h
    · replace h := (if_neg c939).symm.trans h
      exact mb_L_trades_983 hmk780 h
  · replace h := (if_neg c803).symm.trans h
    by_cases c814 : ((x22 >>> (x25 &&& 31)) &&& (1 : Int32)) = (1 : Int32)
    · replace h := (if_pos c814).symm.trans h
      exact mb_L_trades_931 hmk780 hmk796 h
    · replace h := (if_neg c814).symm.trans h
      replace h := (of_guard h).2
      by_cases c824 : ((a 12 x25.toNatClampNeg) &&& (4 : Int32)) = (0 : Int32)
      · replace h := (if_pos c824).symm.trans h
        exact mb_L_trades_931 hmk780 hmk796 h
      · replace h := (if_neg c824).symm.trans h
        by_cases c836 : x18 = (0 : Int32)
        · replace h := (if_pos c836).symm.trans h
          exact mb_L_trades_844 hmk780 hmk796 h
        · replace h := (if_neg c836).symm.trans h
          exact mb_L_trades_844 hmk780 hmk796 h
set_option maxHeartbeats 4000000 in
set_option maxRecDepth 100000 in
theorem lb_L_trades_796 {p : Program} {l : Launch} (hl : l.stackTraces = false) {e : Env} {s : State} {m : MethodId} {args : Array Value} {below : List Frame} {meth : Method} {c : Code} {D : va_G} {E : Nat → ClassId} {sz : Nat} {μ0 : MP} {ν0 : NC} {a0 : AS} {Ad0 : Nat → Nat → Nat} {Q : Nat → Nat} {B : Nat × (Nat → Nat)} {w : Nat} {r0 : ((MP × NC) × AS) × Int32} (C : cx p s m args meth c D E (Aof (zS μ0 ν0 a0 Ad0) [] s.heap.size) cL_trades 27 "TradeLineLaw") (hEv : eV (Ad0 30 0) (Ad0 31 0) B (Aof (zS μ0 ν0 a0 Ad0) [] s.heap.size) s s.heap) (hN : vN s) (hr : meth.sig.returnType = (some .boolean)) (hz : s.heap.size = sz) (hI0 : lwI ν0) (hQ0 : lwQ Ad0 Q) {μ : MP} {ν : NC} {a : AS} {Ad : Nat → Nat → Nat} (hm0 : mn ν0 ν) (hp0 : kp ν0 Ad0 Ad) {x16 : Int32} {x18 : Int32} {x19 : Int32} {x20 : Int32} {x21 : Int32} {x22 : Int32} {x23 : Int32} {x24 : Int32} {x25 : Int32}  {k780 : MP → NC → AS → Int32 → Int32 → Int32 → Int32 → Int32 → Int32 → Int32 → Option (((MP × NC) × AS) × Int32)} {k796 : MP → NC → AS → Int32 → Int32 → Int32 → Int32 → Int32 → Int32 → Int32 → Int32 → Int32 → Option (((MP × NC) × AS) × Int32)} (hmk780 : ∀ (μ : MP) (ν : NC) (a : AS) (z16 : Int32) (z18 : Int32) (z19 : Int32) (z20 : Int32) (z21 : Int32) (z22 : Int32) (z23 : Int32), k780 μ ν a z16 z18 z19 z20 z21 z22 z23 = some r0 → mn ν r0.1.1.2) (hk780 : ∀ (μ : MP) (ν : NC) (a : AS) (Ad : Nat → Nat → Nat) (z16 : Int32) (z18 : Int32) (z19 : Int32) (z20 : Int32) (z21 : Int32) (z22 : Int32) (z23 : Int32), mn ν0 ν → kp ν0 Ad0 Ad → k780 μ ν a z16 z18 z19 z20 z21 z22 z23 = some r0 → G p l e ({ frames := 11, cells := kc r0.1.1.2 - kc ν0, slots := ks r0.1.1.2 - ks ν0, locals := 325 } : Room) s m args below meth c D E (Aof (zS μ0 ν0 a0 Ad0) [] s.heap.size) 27 (MQ below (cQ D E sz (zS μ0 ν0 a0 Ad0) [] (pI (fun r u => r = r0.2 ∧ ∃ A1, u = (zS r0.1.1.1 r0.1.1.2 r0.1.2 A1, []) ∧ kp ν0 Ad0 A1))) args s (kc r0.1.1.2 - kc ν0) (ks r0.1.1.2 - ks ν0) (Aof (zS μ0 ν0 a0 Ad0) [] s.heap.size)) (zS μ ν a Ad) [] (kc ν - kc ν0) (ks ν - ks ν0) 780 [(0, .ref (Q 0)), (4, .ref (Q 1)), (5, .ref (Q 2)), (6, .ref (Q 3)), (7, .ref (Q 4)), (8, .ref (Q 5)), (9, .ref (Q 8)), (10, .ref (Q 9)), (11, .ref (Q 10)), (12, .ref (Q 11)), (13, .ref (Q 12)), (14, .ref (Q 13)), (15, .ref (Q 14)), (16, .int z16), (18, .int z18), (19, .int z19), (20, .int z20), (21, .int z21), (22, .int z22), (23, .int z23)] []) (hmk796 : ∀ (μ : MP) (ν : NC) (a : AS) (z16 : Int32) (z18 : Int32) (z19 : Int32) (z20 : Int32) (z21 : Int32) (z22 : Int32) (z23 : Int32) (z24 : Int32) (z25 : Int32), k796 μ ν a z16 z18 z19 z20 z21 z22 z23 z24 z25 = some r0 → mn ν r0.1.1.2) (hk796 : ∀ (μ : MP) (ν : NC) (a : AS) (Ad : Nat → Nat → Nat) (z16 : Int32) (z18 : Int32) (z19 : Int32) (z20 : Int32) (z21 : Int32) (z22 : Int32) (z23 : Int32) (z24 : Int32) (z25 : Int32), mn ν0 ν → kp ν0 Ad0 Ad → k796 μ ν a z16 z18 z19 z20 z21 z22 z23 z24 z25 = some r0 → G p l e ({ frames := 11, cells := kc r0.1.1.2 - kc ν0, slots := ks r0.1.1.2 - ks ν0, locals := 325 } : Room) s m args below meth c D E (Aof (zS μ0 ν0 a0 Ad0) [] s.heap.size) 27 (MQ below (cQ D E sz (zS μ0 ν0 a0 Ad0) [] (pI (fun r u => r = r0.2 ∧ ∃ A1, u = (zS r0.1.1.1 r0.1.1.2 r0.1.2 A1, []) ∧ kp ν0 Ad0 A1))) args s (kc r0.1.1.2 - kc ν0) (ks r0.1.1.2 - ks ν0) (Aof (zS μ0 ν0 a0 Ad0) [] s.heap.size)) (zS μ ν a Ad) [] (kc ν - kc ν0) (ks ν - ks ν0) 796 [(0, .ref (Q 0)), (4, .ref (Q 1)), (5, .ref (Q 2)), (6, .ref (Q 3)), (7, .ref (Q 4)), (8, .ref (Q 5)), (9, .ref (Q 8)), (10, .ref (Q 9)), (11, .ref (Q 10)), (12, .ref (Q 11)), (13, .ref (Q 12)), (14, .ref (Q 13)), (15, .ref (Q 14)), (16, .int z16), (18, .int z18), (19, .int z19), (20, .int z20), (21, .int z21), (22, .int z22), (23, .int z23), (24, .int z24), (25, .int z25)] []) (h : b_L_trades_796 k780 k796 w μ ν a x16 x18 x19 x20 x21 x22 x23 x24 x25  = some r0) : G p l e ({ frames := 11, cells := kc r0.1.1.2 - kc ν0, slots := ks r0.1.1.2 - ks ν0, locals := 325 } : Room) s m args below meth c D E (Aof (zS μ0 ν0 a0 Ad0) [] s.heap.size) 27 (MQ below (cQ D E sz (zS μ0 ν0 a0 Ad0) [] (pI (fun r u => r = r0.2 ∧ ∃ A1, u = (zS r0.1.1.1 r0.1.1.2 r0.1.2 A1, []) ∧ kp ν0 Ad0 A1))) args s (kc r0.1.1.2 - kc ν0) (ks r0.1.1.2 - ks ν0) (Aof (zS μ0 ν0 a0 Ad0) [] s.heap.size)) (zS μ ν a Ad) [] (kc ν - kc ν0) (ks ν - ks ν0) 796 [(0, .ref (Q 0)), (4, .ref (Q 1)), (5, .ref (Q 2)), (6, .ref (Q 3)), (7, .ref (Q 4)), (8, .ref (Q 5)), (9, .ref (Q 8)), (10, .ref (Q 9)), (11, .ref (Q 10)), (12, .ref (Q 11)), (13, .ref (Q 12)), (14, .ref (Q 13)), (15, .ref (Q 14)), (16, .int x16), (18, .int x18), (19, .int x19), (20, .int x20), (21, .int x21), (22, .int x22), (23, .int x23), (24, .int x24), (25, .int x25)] [] := by
  have m0 := mb_L_trades_796 hmk780 hmk796 h
  have e1 := m0.2.1; have e2 := m0.2.2.1; have e3 := hm0.2.1; have e4 := hm0.2.2.1
  have hI := lwI_mn hI0 hm0; have hQ := lwQ_kp hI0 hp0 hQ0
  unfold b_L_trades_796 at h
  refine g_iload C dL_trades_796 21 rfl ?_
  refine g_aload C dL_trades_798 1 rfl ?_
  refine g_bipush (v := (18 : Int32)) C dL_trades_800 (by decide) ?_
  obtain ⟨g48, h⟩ := of_guard h
  refine q_iald C (show rsh (ν.1, μ.2, ν.2, Ad) from hI.2) (j := 1) (N := 22) (by decide) (lwQ_i hQ (j := 1) (N := 22) (by decide)) g48 dL_trades_802 ?_
  refine g_icmp_ge (tgt := 937) C dL_trades_803 (by decide) (fun c803 => ?_) (fun c803 => ?_)
  · replace h := (if_pos c803).symm.trans h
    refine g_iload C dL_trades_937 20 rfl ?_
    refine g_if_ge (tgt := 945) C dL_trades_939 (by decide) (fun c939 => ?_) (fun c939 => ?_)
    · replace h := (if_pos c939).symm.trans h
      refine g_iload C dL_trades_945 18 rfl ?_
      refine g_iconst (v := (1 : Int32)) C dL_trades_947 (by decide) ?_
      refine g_iload C dL_trades_948 20 rfl ?_
      refine g_ishl C dL_trades_950 ?_
      refine g_ior C dL_trades_951 ?_
      refine q_topi (fun t49 et49 => ?_)
      replace h := yl_of h et49
      refine g_istore (lv' := [(22, .int t49), (0, .ref (Q 0)), (4, .ref (Q 1)), (5, .ref (Q 2)), (6, .ref (Q 3)), (7, .ref (Q 4)), (8, .ref (Q 5)), (9, .ref (Q 8)), (10, .ref (Q 9)), (11, .ref (Q 10)), (12, .ref (Q 11)), (13, .ref (Q 12)), (14, .ref (Q 13)), (15, .ref (Q 14)), (16, .int x16), (18, .int x18), (19, .int x19), (20, .int x20), (21, .int x21), (23, .int x23), (24, .int x24), (25, .int x25)]) C dL_trades_952 (by decide) rfl ?_
      refine g_aload C dL_trades_954 2 rfl ?_
      refine g_aload C dL_trades_956 3 rfl ?_
      refine g_aload C dL_trades_958 4 rfl ?_
      refine g_aload C dL_trades_960 5 rfl ?_
      refine g_aload C dL_trades_962 6 rfl ?_
      refine g_aload C dL_trades_964 7 rfl ?_
      refine g_aload C dL_trades_966 8 rfl ?_
      refine g_aload C dL_trades_968 9 rfl ?_
      refine g_aload C dL_trades_970 10 rfl ?_
      refine g_aload C dL_trades_972 11 rfl ?_
      refine g_aload C dL_trades_974 12 rfl ?_
      refine g_aload C dL_trades_976 13 rfl ?_
      refine g_iload C dL_trades_978 20 rfl ?_
      obtain ⟨v50, hv50, h⟩ := bind_of h
      refine g_cSv (n := 13) (exc := []) (exr := []) C [_, _, _, _, _, _, _, _, _, _, _, _, _] _ rfl rfl [] [] rfl rfl rfl rfl (fun _ h => absurd h (by simp)) (fun _ h => absurd h (by simp)) (fun _ h => absurd h (by simp)) (fun sz => wk_L_route l _ ν _ Ad Q hI hQ w _  _ hv50 D E sz) rfl gw_1029 gw_0 gw_1027 gw_1028 ⟨by decide +kernel, by decide +kernel, by decide +kernel⟩ ⟨rfl, rfl⟩ ⟨Nat.le_of_ble_eq_true rfl, Nat.le_of_ble_eq_true rfl⟩ (Nat.le_of_ble_eq_true rfl) dL_trades_980 ⟨by show (kc ν - kc ν0) + 0 ≤ kc r0.1.1.2 - kc ν0; omega, by show (ks ν - ks ν0) + 0 ≤ ks r0.1.1.2 - ks ν0; omega⟩ (fun u hp hx => ?_)
      obtain rfl := hp
      try dsimp only [List.append_nil]
      refine g_lv [1, 2, 3, 4, 5, 6, 7, 8, 9, 10, 11, 12, 13, 14, 15, 16, 17, 18, 0, 19] rfl ?_
      exact lb_L_trades_983 hl C hEv hN hr hz hI0 hQ0 hm0 hp0 hmk780 hk780 h
    · replace h := (if_neg c939).symm.trans h
      refine g_goto (tgt := 983) C dL_trades_942 (by decide) ?_
      refine g_lv [0, 1, 2, 3, 4, 5, 6, 7, 8, 9, 10, 11, 12, 13, 14, 15, 16, 17, 18, 19] rfl ?_
      exact lb_L_trades_983 hl C hEv hN hr hz hI0 hQ0 hm0 hp0 hmk780 hk780 h
  · replace h := (if_neg c803).symm.trans h
    refine g_iload C dL_trades_806 18 rfl ?_
    refine g_iload C dL_trades_808 21 rfl ?_
    refine g_ishr C dL_trades_810 ?_
    refine g_iconst (v := (1 : Int32)) C dL_trades_811 (by decide) ?_
    refine g_iand C dL_trades_812 ?_
    refine g_iconst (v := (1 : Int32)) C dL_trades_813 (by decide) ?_
    refine g_icmp_eq (tgt := 931) C dL_trades_814 (by decide) (fun c814 => ?_) (fun c814 => ?_)
    · replace h := (if_pos c814).symm.trans h
      refine g_lv [0, 1, 2, 3, 4, 5, 6, 7, 8, 9, 10, 11, 12, 13, 14, 15, 16, 17, 18, 19, 20, 21] rfl ?_
      exact lb_L_trades_931 hl C hEv hN hr hz hI0 hQ0 hm0 hp0 hmk780 hk780 hmk796 hk796 h
    · replace h := (if_neg c814).symm.trans h
      refine g_aload C dL_trades_817 10 rfl ?_
      refine g_iload C dL_trades_819 21 rfl ?_
      obtain ⟨g53, h⟩ := of_guard h
      refine q_iald C (show rsh (ν.1, μ.2, ν.2, Ad) from hI.2) (j := 12) (N := 10) (by decide) (lwQ_i hQ (j := 12) (N := 10) (by decide)) g53 dL_trades_821 ?_
      refine g_iconst (v := (4 : Int32)) C dL_trades_822 (by decide) ?_
      refine g_iand C dL_trades_823 ?_
      refine g_if_eq (tgt := 931) C dL_trades_824 (by decide) (fun c824 => ?_) (fun c824 => ?_)
      · replace h := (if_pos c824).symm.trans h
        refine g_lv [0, 1, 2, 3, 4, 5, 6, 7, 8, 9, 10, 11, 12, 13, 14, 15, 16, 17, 18, 19, 20, 21] rfl ?_
        exact lb_L_trades_931 hl C hEv hN hr hz hI0 hQ0 hm0 hp0 hmk780 hk780 hmk796 hk796 h
      · replace h := (if_neg c824).symm.trans h
        refine g_aload C dL_trades_827 10 rfl ?_
        refine g_iload C dL_trades_829 21 rfl ?_
        refine q_iald C (show rsh (ν.1, μ.2, ν.2, Ad) from hI.2) (j := 12) (N := 10) (by decide) (lwQ_i hQ (j := 12) (N := 10) (by decide)) g53 dL_trades_831 ?_
        refine g_iconst (v := (1 : Int32)) C dL_trades_832 (by decide) ?_
        refine g_iand C dL_trades_833 ?_
        refine g_iload C dL_trades_834 14 rfl ?_
        refine g_if_eq (tgt := 843) C dL_trades_836 (by decide) (fun c836 => ?_) (fun c836 => ?_)
        · replace h := (if_pos c836).symm.trans h
          refine g_iconst (v := (0 : Int32)) C dL_trades_843 (by decide) ?_
          refine g_lv [0, 1, 2, 3, 4, 5, 6, 7, 8, 9, 10, 11, 12, 13, 14, 15, 16, 17, 18, 19, 20, 21] rfl ?_
          exact lb_L_trades_844 hl C hEv hN hr hz hI0 hQ0 hm0 hp0 hmk780 hk780 hmk796 hk796 h
        · replace h := (if_neg c836).symm.trans h
          refine g_iconst (v := (1 : Int32)) C dL_trades_839 (by decide) ?_
          refine g_goto (tgt := 844) C dL_trades_840 (by decide) ?_
          refine g_lv [0, 1, 2, 3, 4, 5, 6, 7, 8, 9, 10, 11, 12, 13, 14, 15, 16, 17, 18, 19, 20, 21] rfl ?_
          exact lb_L_trades_844 hl C hEv hN hr hz hI0 hQ0 hm0 hp0 hmk780 hk780 hmk796 hk796 h
noncomputable def l_L_trades_796 (k780 : MP → NC → AS → Int32 → Int32 → Int32 → Int32 → Int32 → Int32 → Int32 → Option (((MP × NC) × AS) × Int32)) (w : Nat) : Nat → MP → NC → AS → Int32 → Int32 → Int32 → Int32 → Int32 → Int32 → Int32 → Int32 → Int32 → Option (((MP × NC) × AS) × Int32)
  | 0 => fun _ _ _ _ _ _ _ _ _ _ _ _ => none
  | n + 1 => fun μ ν a x16 x18 x19 x20 x21 x22 x23 x24 x25 => b_L_trades_796 k780 (l_L_trades_796 k780 w n) w μ ν a x16 x18 x19 x20 x21 x22 x23 x24 x25
theorem ml_L_trades_796 {w : Nat} {r0 : ((MP × NC) × AS) × Int32} {k780 : MP → NC → AS → Int32 → Int32 → Int32 → Int32 → Int32 → Int32 → Int32 → Option (((MP × NC) × AS) × Int32)} (hmk780 : ∀ (μ : MP) (ν : NC) (a : AS) (z16 : Int32) (z18 : Int32) (z19 : Int32) (z20 : Int32) (z21 : Int32) (z22 : Int32) (z23 : Int32), k780 μ ν a z16 z18 z19 z20 z21 z22 z23 = some r0 → mn ν r0.1.1.2) : ∀ (n : Nat) (μ : MP) (ν : NC) (a : AS) (x16 : Int32) (x18 : Int32) (x19 : Int32) (x20 : Int32) (x21 : Int32) (x22 : Int32) (x23 : Int32) (x24 : Int32) (x25 : Int32), l_L_trades_796 k780 w n μ ν a x16 x18 x19 x20 x21 x22 x23 x24 x25 = some r0 → mn ν r0.1.1.2 := by
  intro n
  induction n with
  | zero => exact fun μ ν a x16 x18 x19 x20 x21 x22 x23 x24 x25 h => absurd (show (none : Option (((MP × NC) × AS) × Int32)) = some r0 from h) (by simp)
  | succ n ih => exact fun μ ν a x16 x18 x19 x20 x21 x22 x23 x24 x25 h => mb_L_trades_796 hmk780 ih h
theorem ll_L_trades_796 {p : Program} {l : Launch} (hl : l.stackTraces = false) {e : Env} {s : State} {m : MethodId} {args : Array Value} {below : List Frame} {meth : Method} {c : Code} {D : va_G} {E : Nat → ClassId} {sz : Nat} {μ0 : MP} {ν0 : NC} {a0 : AS} {Ad0 : Nat → Nat → Nat} {Q : Nat → Nat} {B : Nat × (Nat → Nat)} {w : Nat} {r0 : ((MP × NC) × AS) × Int32} (C : cx p s m args meth c D E (Aof (zS μ0 ν0 a0 Ad0) [] s.heap.size) cL_trades 27 "TradeLineLaw") (hEv : eV (Ad0 30 0) (Ad0 31 0) B (Aof (zS μ0 ν0 a0 Ad0) [] s.heap.size) s s.heap) (hN : vN s) (hr : meth.sig.returnType = (some .boolean)) (hz : s.heap.size = sz) (hI0 : lwI ν0) (hQ0 : lwQ Ad0 Q) {k780 : MP → NC → AS → Int32 → Int32 → Int32 → Int32 → Int32 → Int32 → Int32 → Option (((MP × NC) × AS) × Int32)} (hmk780 : ∀ (μ : MP) (ν : NC) (a : AS) (z16 : Int32) (z18 : Int32) (z19 : Int32) (z20 : Int32) (z21 : Int32) (z22 : Int32) (z23 : Int32), k780 μ ν a z16 z18 z19 z20 z21 z22 z23 = some r0 → mn ν r0.1.1.2) (hk780 : ∀ (μ : MP) (ν : NC) (a : AS) (Ad : Nat → Nat → Nat) (z16 : Int32) (z18 : Int32) (z19 : Int32) (z20 : Int32) (z21 : Int32) (z22 : Int32) (z23 : Int32), mn ν0 ν → kp ν0 Ad0 Ad → k780 μ ν a z16 z18 z19 z20 z21 z22 z23 = some r0 → G p l e ({ frames := 11, cells := kc r0.1.1.2 - kc ν0, slots := ks r0.1.1.2 - ks ν0, locals := 325 } : Room) s m args below meth c D E (Aof (zS μ0 ν0 a0 Ad0) [] s.heap.size) 27 (MQ below (cQ D E sz (zS μ0 ν0 a0 Ad0) [] (pI (fun r u => r = r0.2 ∧ ∃ A1, u = (zS r0.1.1.1 r0.1.1.2 r0.1.2 A1, []) ∧ kp ν0 Ad0 A1))) args s (kc r0.1.1.2 - kc ν0) (ks r0.1.1.2 - ks ν0) (Aof (zS μ0 ν0 a0 Ad0) [] s.heap.size)) (zS μ ν a Ad) [] (kc ν - kc ν0) (ks ν - ks ν0) 780 [(0, .ref (Q 0)), (4, .ref (Q 1)), (5, .ref (Q 2)), (6, .ref (Q 3)), (7, .ref (Q 4)), (8, .ref (Q 5)), (9, .ref (Q 8)), (10, .ref (Q 9)), (11, .ref (Q 10)), (12, .ref (Q 11)), (13, .ref (Q 12)), (14, .ref (Q 13)), (15, .ref (Q 14)), (16, .int z16), (18, .int z18), (19, .int z19), (20, .int z20), (21, .int z21), (22, .int z22), (23, .int z23)] []) : ∀ (n : Nat) (μ : MP) (ν : NC) (a : AS) (Ad : Nat → Nat → Nat) (x16 : Int32) (x18 : Int32) (x19 : Int32) (x20 : Int32) (x21 : Int32) (x22 : Int32) (x23 : Int32) (x24 : Int32) (x25 : Int32), mn ν0 ν → kp ν0 Ad0 Ad → l_L_trades_796 k780 w n μ ν a x16 x18 x19 x20 x21 x22 x23 x24 x25 = some r0 → G p l e ({ frames := 11, cells := kc r0.1.1.2 - kc ν0, slots := ks r0.1.1.2 - ks ν0, locals := 325 } : Room) s m args below meth c D E (Aof (zS μ0 ν0 a0 Ad0) [] s.heap.size) 27 (MQ below (cQ D E sz (zS μ0 ν0 a0 Ad0) [] (pI (fun r u => r = r0.2 ∧ ∃ A1, u = (zS r0.1.1.1 r0.1.1.2 r0.1.2 A1, []) ∧ kp ν0 Ad0 A1))) args s (kc r0.1.1.2 - kc ν0) (ks r0.1.1.2 - ks ν0) (Aof (zS μ0 ν0 a0 Ad0) [] s.heap.size)) (zS μ ν a Ad) [] (kc ν - kc ν0) (ks ν - ks ν0) 796 [(0, .ref (Q 0)), (4, .ref (Q 1)), (5, .ref (Q 2)), (6, .ref (Q 3)), (7, .ref (Q 4)), (8, .ref (Q 5)), (9, .ref (Q 8)), (10, .ref (Q 9)), (11, .ref (Q 10)), (12, .ref (Q 11)), (13, .ref (Q 12)), (14, .ref (Q 13)), (15, .ref (Q 14)), (16, .int x16), (18, .int x18), (19, .int x19), (20, .int x20), (21, .int x21), (22, .int x22), (23, .int x23), (24, .int x24), (25, .int x25)] [] := by
  intro n
  induction n with
  | zero => exact fun μ ν a Ad x16 x18 x19 x20 x21 x22 x23 x24 x25 hm0 hp0 h => absurd (show (none : Option (((MP × NC) × AS) × Int32)) = some r0 from h) (by simp)
  | succ n ih => exact fun μ ν a Ad x16 x18 x19 x20 x21 x22 x23 x24 x25 hm0 hp0 h => lb_L_trades_796 (w := w) hl C hEv hN hr hz hI0 hQ0 hm0 hp0 hmk780 hk780 (fun μ ν a x16 x18 x19 x20 x21 x22 x23 x24 x25 h => ml_L_trades_796 hmk780 n μ ν a x16 x18 x19 x20 x21 x22 x23 x24 x25 h) ih h
noncomputable def b_L_trades_780 (k780 : MP → NC → AS → Int32 → Int32 → Int32 → Int32 → Int32 → Int32 → Int32 → Option (((MP × NC) × AS) × Int32)) (w : Nat) (μ : MP) (ν : NC) (a : AS) (x16 : Int32) (x18 : Int32) (x19 : Int32) (x20 : Int32) (x21 : Int32) (x22 : Int32) (x23 : Int32)  : Option (((MP × NC) × AS) × Int32) := bif ixB (18 : Int32) 22 then (if (a 1 (18 : Int32).toNatClampNeg) ≤ x23 then ((f_L_quote w μ ν x19 x18 x16 x20).bind (fun v46 => b_L_trades_1001  w v46.1.1 v46.1.2 a x21 v46.2)) else (l_L_trades_796 k780 w w μ ν a x16 x18 x19 x20 x21 x22 x23 (-1 : Int32) (0 : Int32))) else none
theorem mb_L_trades_780 {w : Nat} {μ : MP} {ν : NC} {a : AS} {x16 : Int32} {x18 : Int32} {x19 : Int32} {x20 : Int32} {x21 : Int32} {x22 : Int32} {x23 : Int32}  {r0 : ((MP × NC) × AS) × Int32} {k780 : MP → NC → AS → Int32 → Int32 → Int32 → Int32 → Int32 → Int32 → Int32 → Option (((MP × NC) × AS) × Int32)} (hmk780 : ∀ (μ : MP) (ν : NC) (a : AS) (z16 : Int32) (z18 : Int32) (z19 : Int32) (z20 : Int32) (z21 : Int32) (z22 : Int32) (z23 : Int32), k780 μ ν a z16 z18 z19 z20 z21 z22 z23 = some r0 → mn ν r0.1.1.2) (h : b_L_trades_780 k780 w μ ν a x16 x18 x19 x20 x21 x22 x23  = some r0) : mn ν r0.1.1.2 := by
  unfold b_L_trades_780 at h
  replace h := (of_guard h).2
  by_cases c787 : (a 1 (18 : Int32).toNatClampNeg) ≤ x23
  · replace h := (if_pos c787).symm.trans h
    obtain ⟨v46, hv46, h⟩ := bind_of h
    exact mn_trans (m_L_quote hv46) (mb_L_trades_1001  h)
  · replace h := (if_neg c787).symm.trans h
    exact ml_L_trades_796 hmk780 _ _ _ _ _ _ _ _ _ _ _ _ _ h
set_option maxHeartbeats 4000000 in
set_option maxRecDepth 100000 in
theorem lb_L_trades_780 {p : Program} {l : Launch} (hl : l.stackTraces = false) {e : Env} {s : State} {m : MethodId} {args : Array Value} {below : List Frame} {meth : Method} {c : Code} {D : va_G} {E : Nat → ClassId} {sz : Nat} {μ0 : MP} {ν0 : NC} {a0 : AS} {Ad0 : Nat → Nat → Nat} {Q : Nat → Nat} {B : Nat × (Nat → Nat)} {w : Nat} {r0 : ((MP × NC) × AS) × Int32} (C : cx p s m args meth c D E (Aof (zS μ0 ν0 a0 Ad0) [] s.heap.size) cL_trades 27 "TradeLineLaw") (hEv : eV (Ad0 30 0) (Ad0 31 0) B (Aof (zS μ0 ν0 a0 Ad0) [] s.heap.size) s s.heap) (hN : vN s) (hr : meth.sig.returnType = (some .boolean)) (hz : s.heap.size = sz) (hI0 : lwI ν0) (hQ0 : lwQ Ad0 Q) {μ : MP} {ν : NC} {a : AS} {Ad : Nat → Nat → Nat} (hm0 : mn ν0 ν) (hp0 : kp ν0 Ad0 Ad) {x16 : Int32} {x18 : Int32} {x19 : Int32} {x20 : Int32} {x21 : Int32} {x22 : Int32} {x23 : Int32}  {k780 : MP → NC → AS → Int32 → Int32 → Int32 → Int32 → Int32 → Int32 → Int32 → Option (((MP × NC) × AS) × Int32)} (hmk780 : ∀ (μ : MP) (ν : NC) (a : AS) (z16 : Int32) (z18 : Int32) (z19 : Int32) (z20 : Int32) (z21 : Int32) (z22 : Int32) (z23 : Int32), k780 μ ν a z16 z18 z19 z20 z21 z22 z23 = some r0 → mn ν r0.1.1.2) (hk780 : ∀ (μ : MP) (ν : NC) (a : AS) (Ad : Nat → Nat → Nat) (z16 : Int32) (z18 : Int32) (z19 : Int32) (z20 : Int32) (z21 : Int32) (z22 : Int32) (z23 : Int32), mn ν0 ν → kp ν0 Ad0 Ad → k780 μ ν a z16 z18 z19 z20 z21 z22 z23 = some r0 → G p l e ({ frames := 11, cells := kc r0.1.1.2 - kc ν0, slots := ks r0.1.1.2 - ks ν0, locals := 325 } : Room) s m args below meth c D E (Aof (zS μ0 ν0 a0 Ad0) [] s.heap.size) 27 (MQ below (cQ D E sz (zS μ0 ν0 a0 Ad0) [] (pI (fun r u => r = r0.2 ∧ ∃ A1, u = (zS r0.1.1.1 r0.1.1.2 r0.1.2 A1, []) ∧ kp ν0 Ad0 A1))) args s (kc r0.1.1.2 - kc ν0) (ks r0.1.1.2 - ks ν0) (Aof (zS μ0 ν0 a0 Ad0) [] s.heap.size)) (zS μ ν a Ad) [] (kc ν - kc ν0) (ks ν - ks ν0) 780 [(0, .ref (Q 0)), (4, .ref (Q 1)), (5, .ref (Q 2)), (6, .ref (Q 3)), (7, .ref (Q 4)), (8, .ref (Q 5)), (9, .ref (Q 8)), (10, .ref (Q 9)), (11, .ref (Q 10)), (12, .ref (Q 11)), (13, .ref (Q 12)), (14, .ref (Q 13)), (15, .ref (Q 14)), (16, .int z16), (18, .int z18), (19, .int z19), (20, .int z20), (21, .int z21), (22, .int z22), (23, .int z23)] []) (h : b_L_trades_780 k780 w μ ν a x16 x18 x19 x20 x21 x22 x23  = some r0) : G p l e ({ frames := 11, cells := kc r0.1.1.2 - kc ν0, slots := ks r0.1.1.2 - ks ν0, locals := 325 } : Room) s m args below meth c D E (Aof (zS μ0 ν0 a0 Ad0) [] s.heap.size) 27 (MQ below (cQ D E sz (zS μ0 ν0 a0 Ad0) [] (pI (fun r u => r = r0.2 ∧ ∃ A1, u = (zS r0.1.1.1 r0.1.1.2 r0.1.2 A1, []) ∧ kp ν0 Ad0 A1))) args s (kc r0.1.1.2 - kc ν0) (ks r0.1.1.2 - ks ν0) (Aof (zS μ0 ν0 a0 Ad0) [] s.heap.size)) (zS μ ν a Ad) [] (kc ν - kc ν0) (ks ν - ks ν0) 780 [(0, .ref (Q 0)), (4, .ref (Q 1)), (5, .ref (Q 2)), (6, .ref (Q 3)), (7, .ref (Q 4)), (8, .ref (Q 5)), (9, .ref (Q 8)), (10, .ref (Q 9)), (11, .ref (Q 10)), (12, .ref (Q 11)), (13, .ref (Q 12)), (14, .ref (Q 13)), (15, .ref (Q 14)), (16, .int x16), (18, .int x18), (19, .int x19), (20, .int x20), (21, .int x21), (22, .int x22), (23, .int x23)] [] := by
  have m0 := mb_L_trades_780 hmk780 h
  have e1 := m0.2.1; have e2 := m0.2.2.1; have e3 := hm0.2.1; have e4 := hm0.2.2.1
  have hI := lwI_mn hI0 hm0; have hQ := lwQ_kp hI0 hp0 hQ0
  unfold b_L_trades_780 at h
  refine g_iload C dL_trades_780 19 rfl ?_
  refine g_aload C dL_trades_782 1 rfl ?_
  refine g_bipush (v := (18 : Int32)) C dL_trades_784 (by decide) ?_
  obtain ⟨g45, h⟩ := of_guard h
  refine q_iald C (show rsh (ν.1, μ.2, ν.2, Ad) from hI.2) (j := 1) (N := 22) (by decide) (lwQ_i hQ (j := 1) (N := 22) (by decide)) g45 dL_trades_786 ?_
  refine g_icmp_ge (tgt := 989) C dL_trades_787 (by decide) (fun c787 => ?_) (fun c787 => ?_)
  · replace h := (if_pos c787).symm.trans h
    refine g_aload_n C dL_trades_989 rfl 0 rfl ?_
    refine g_iload C dL_trades_990 15 rfl ?_
    refine g_iload C dL_trades_992 14 rfl ?_
    refine g_iload C dL_trades_994 13 rfl ?_
    refine g_iload C dL_trades_996 16 rfl ?_
    obtain ⟨v46, hv46, h⟩ := bind_of h
    have m2 := m_L_quote hv46
    have m3 := mb_L_trades_1001  h
    have a1 := hm0.2.1; have a2 := hm0.2.2.1; have b1 := m2.2.1; have b2 := m2.2.2.1; have d1 := m3.2.1; have d2 := m3.2.2.1
    refine g_cSh (n := 5) (exr := []) C hEv hN ⟨hp0.2.1 0, hp0.2.2 0⟩ [_, _, _, _, _] _ rfl rfl [] rfl rfl (fun sz => wc_L_quote l hl B _ ν _ Ad Q hI hQ w _ _ _ _ _ hv46 D E sz) rfl gh_quote gw_0 gw_1173 gw_1174 ⟨by decide +kernel, by decide +kernel, by decide +kernel⟩ ⟨rfl, rfl⟩ ⟨Nat.le_of_ble_eq_true rfl, Nat.le_of_ble_eq_true rfl⟩ (Nat.le_of_ble_eq_true rfl) dL_trades_998 ⟨by show (kc ν - kc ν0) + (kc v46.1.2 - kc ν) ≤ kc r0.1.1.2 - kc ν0; omega, by show (ks ν - ks ν0) + (ks v46.1.2 - ks ν) ≤ ks r0.1.1.2 - ks ν0; omega⟩ (fun r u hp hx => ?_)
    obtain ⟨er, A1, rfl, hkp⟩ := hp
    rw [er]
    try dsimp only [List.append_nil]
    refine g_widen (k := kc v46.1.2 - kc ν0) (n := ks v46.1.2 - ks ν0) (by omega) (by omega) ?_
    refine g_lv [1, 17] rfl ?_
    exact lb_L_trades_1001 hl C hEv hN hr hz hI0 hQ0 (mn_trans hm0 m2) (kp_trans hp0 hm0 hkp)  h
  · replace h := (if_neg c787).symm.trans h
    refine g_iconst (v := (-1 : Int32)) C dL_trades_790 (by decide) ?_
    refine g_istore (lv' := [(24, .int (-1 : Int32)), (0, .ref (Q 0)), (4, .ref (Q 1)), (5, .ref (Q 2)), (6, .ref (Q 3)), (7, .ref (Q 4)), (8, .ref (Q 5)), (9, .ref (Q 8)), (10, .ref (Q 9)), (11, .ref (Q 10)), (12, .ref (Q 11)), (13, .ref (Q 12)), (14, .ref (Q 13)), (15, .ref (Q 14)), (16, .int x16), (18, .int x18), (19, .int x19), (20, .int x20), (21, .int x21), (22, .int x22), (23, .int x23)]) C dL_trades_791 (by decide) rfl ?_
    refine g_iconst (v := (0 : Int32)) C dL_trades_793 (by decide) ?_
    refine g_istore (lv' := [(25, .int (0 : Int32)), (24, .int (-1 : Int32)), (0, .ref (Q 0)), (4, .ref (Q 1)), (5, .ref (Q 2)), (6, .ref (Q 3)), (7, .ref (Q 4)), (8, .ref (Q 5)), (9, .ref (Q 8)), (10, .ref (Q 9)), (11, .ref (Q 10)), (12, .ref (Q 11)), (13, .ref (Q 12)), (14, .ref (Q 13)), (15, .ref (Q 14)), (16, .int x16), (18, .int x18), (19, .int x19), (20, .int x20), (21, .int x21), (22, .int x22), (23, .int x23)]) C dL_trades_794 (by decide) rfl ?_
    refine g_lv [2, 3, 4, 5, 6, 7, 8, 9, 10, 11, 12, 13, 14, 15, 16, 17, 18, 19, 20, 21, 1, 0] rfl ?_
    exact ll_L_trades_796 hl C hEv hN hr hz hI0 hQ0 hmk780 hk780 w _ _ _ _ _ _ _ _ _ _ _ _ _ hm0 hp0 h
noncomputable def l_L_trades_780  (w : Nat) : Nat → MP → NC → AS → Int32 → Int32 → Int32 → Int32 → Int32 → Int32 → Int32 → Option (((MP × NC) × AS) × Int32)
  | 0 => fun _ _ _ _ _ _ _ _ _ _ => none
  | n + 1 => fun μ ν a x16 x18 x19 x20 x21 x22 x23 => b_L_trades_780  (l_L_trades_780  w n) w μ ν a x16 x18 x19 x20 x21 x22 x23
theorem ml_L_trades_780 {w : Nat} {r0 : ((MP × NC) × AS) × Int32}   : ∀ (n : Nat) (μ : MP) (ν : NC) (a : AS) (x16 : Int32) (x18 : Int32) (x19 : Int32) (x20 : Int32) (x21 : Int32) (x22 : Int32) (x23 : Int32), l_L_trades_780  w n μ ν a x16 x18 x19 x20 x21 x22 x23 = some r0 → mn ν r0.1.1.2 := by
  intro n
  induction n with
  | zero => exact fun μ ν a x16 x18 x19 x20 x21 x22 x23 h => absurd (show (none : Option (((MP × NC) × AS) × Int32)) = some r0 from h) (by simp)
  | succ n ih => exact fun μ ν a x16 x18 x19 x20 x21 x22 x23 h => mb_L_trades_780  ih h
theorem ll_L_trades_780 {p : Program} {l : Launch} (hl : l.stackTraces = false) {e : Env} {s : State} {m : MethodId} {args : Array Value} {below : List Frame} {meth : Method} {c : Code} {D : va_G} {E : Nat → ClassId} {sz : Nat} {μ0 : MP} {ν0 : NC} {a0 : AS} {Ad0 : Nat → Nat → Nat} {Q : Nat → Nat} {B : Nat × (Nat → Nat)} {w : Nat} {r0 : ((MP × NC) × AS) × Int32} (C : cx p s m args meth c D E (Aof (zS μ0 ν0 a0 Ad0) [] s.heap.size) cL_trades 27 "TradeLineLaw") (hEv : eV (Ad0 30 0) (Ad0 31 0) B (Aof (zS μ0 ν0 a0 Ad0) [] s.heap.size) s s.heap) (hN : vN s) (hr : meth.sig.returnType = (some .boolean)) (hz : s.heap.size = sz) (hI0 : lwI ν0) (hQ0 : lwQ Ad0 Q)   : ∀ (n : Nat) (μ : MP) (ν : NC) (a : AS) (Ad : Nat → Nat → Nat) (x16 : Int32) (x18 : Int32) (x19 : Int32) (x20 : Int32) (x21 : Int32) (x22 : Int32) (x23 : Int32), mn ν0 ν → kp ν0 Ad0 Ad → l_L_trades_780  w n μ ν a x16 x18 x19 x20 x21 x22 x23 = some r0 → G p l e ({ frames := 11, cells := kc r0.1.1.2 - kc ν0, slots := ks r0.1.1.2 - ks ν0, locals := 325 } : Room) s m args below meth c D E (Aof (zS μ0 ν0 a0 Ad0) [] s.heap.size) 27 (MQ below (cQ D E sz (zS μ0 ν0 a0 Ad0) [] (pI (fun r u => r = r0.2 ∧ ∃ A1, u = (zS r0.1.1.1 r0.1.1.2 r0.1.2 A1, []) ∧ kp ν0 Ad0 A1))) args s (kc r0.1.1.2 - kc ν0) (ks r0.1.1.2 - ks ν0) (Aof (zS μ0 ν0 a0 Ad0) [] s.heap.size)) (zS μ ν a Ad) [] (kc ν - kc ν0) (ks ν - ks ν0) 780 [(0, .ref (Q 0)), (4, .ref (Q 1)), (5, .ref (Q 2)), (6, .ref (Q 3)), (7, .ref (Q 4)), (8, .ref (Q 5)), (9, .ref (Q 8)), (10, .ref (Q 9)), (11, .ref (Q 10)), (12, .ref (Q 11)), (13, .ref (Q 12)), (14, .ref (Q 13)), (15, .ref (Q 14)), (16, .int x16), (18, .int x18), (19, .int x19), (20, .int x20), (21, .int x21), (22, .int x22), (23, .int x23)] [] := by
  intro n
  induction n with
  | zero => exact fun μ ν a Ad x16 x18 x19 x20 x21 x22 x23 hm0 hp0 h => absurd (show (none : Option (((MP × NC) × AS) × Int32)) = some r0 from h) (by simp)
  | succ n ih => exact fun μ ν a Ad x16 x18 x19 x20 x21 x22 x23 hm0 hp0 h => lb_L_trades_780 (w := w) hl C hEv hN hr hz hI0 hQ0 hm0 hp0  (fun μ ν a x16 x18 x19 x20 x21 x22 x23 h => ml_L_trades_780  n μ ν a x16 x18 x19 x20 x21 x22 x23 h) ih h
noncomputable def b_L_trades_756  (w : Nat) (μ : MP) (ν : NC) (a : AS) (x16 : Int32) (x18 : Int32) (x19 : Int32) (x20 : Int32) (s0 : Int32) (s1 : Int32) : Option (((MP × NC) × AS) × Int32) := bif ixB (s1 + s0) 6 then yl (up2 a 14 (s1 + s0).toNatClampNeg (x20 + ((256 : Int32) * x16))) (fun a42 => bif ixB (19 : Int32) 22 then yl ((a42 1 (19 : Int32).toNatClampNeg)) (fun t44 => l_L_trades_780  w w μ ν a42 x16 x18 x19 x20 t44 (0 : Int32) (0 : Int32)) else none) else none
theorem mb_L_trades_756 {w : Nat} {μ : MP} {ν : NC} {a : AS} {x16 : Int32} {x18 : Int32} {x19 : Int32} {x20 : Int32} {s0 : Int32} {s1 : Int32} {r0 : ((MP × NC) × AS) × Int32}   (h : b_L_trades_756  w μ ν a x16 x18 x19 x20 s0 s1 = some r0) : mn ν r0.1.1.2 := by
  unfold b_L_trades_756 at h
  replace h := (of_guard h).2
  obtain ⟨a42, ea42⟩ : ∃ y, up2 a 14 (s1 + s0).toNatClampNeg (x20 + ((256 : Int32) * x16)) = y := ⟨_, rfl⟩
  replace h := yl_of h ea42
  replace h := (of_guard h).2
  obtain ⟨t44, et44⟩ : ∃ y, (a42 1 (19 : Int32).toNatClampNeg) = y := ⟨_, rfl⟩
  replace h := yl_of h et44
  exact ml_L_trades_780  _ _ _ _ _ _ _ _ _ _ _ h
set_option maxHeartbeats 4000000 in
set_option maxRecDepth 100000 in
theorem lb_L_trades_756 {p : Program} {l : Launch} (hl : l.stackTraces = false) {e : Env} {s : State} {m : MethodId} {args : Array Value} {below : List Frame} {meth : Method} {c : Code} {D : va_G} {E : Nat → ClassId} {sz : Nat} {μ0 : MP} {ν0 : NC} {a0 : AS} {Ad0 : Nat → Nat → Nat} {Q : Nat → Nat} {B : Nat × (Nat → Nat)} {w : Nat} {r0 : ((MP × NC) × AS) × Int32} (C : cx p s m args meth c D E (Aof (zS μ0 ν0 a0 Ad0) [] s.heap.size) cL_trades 27 "TradeLineLaw") (hEv : eV (Ad0 30 0) (Ad0 31 0) B (Aof (zS μ0 ν0 a0 Ad0) [] s.heap.size) s s.heap) (hN : vN s) (hr : meth.sig.returnType = (some .boolean)) (hz : s.heap.size = sz) (hI0 : lwI ν0) (hQ0 : lwQ Ad0 Q) {μ : MP} {ν : NC} {a : AS} {Ad : Nat → Nat → Nat} (hm0 : mn ν0 ν) (hp0 : kp ν0 Ad0 Ad) {x16 : Int32} {x18 : Int32} {x19 : Int32} {x20 : Int32} {s0 : Int32} {s1 : Int32}   (h : b_L_trades_756  w μ ν a x16 x18 x19 x20 s0 s1 = some r0) : G p l e ({ frames := 11, cells := kc r0.1.1.2 - kc ν0, slots := ks r0.1.1.2 - ks ν0, locals := 325 } : Room) s m args below meth c D E (Aof (zS μ0 ν0 a0 Ad0) [] s.heap.size) 27 (MQ below (cQ D E sz (zS μ0 ν0 a0 Ad0) [] (pI (fun r u => r = r0.2 ∧ ∃ A1, u = (zS r0.1.1.1 r0.1.1.2 r0.1.2 A1, []) ∧ kp ν0 Ad0 A1))) args s (kc r0.1.1.2 - kc ν0) (ks r0.1.1.2 - ks ν0) (Aof (zS μ0 ν0 a0 Ad0) [] s.heap.size)) (zS μ ν a Ad) [] (kc ν - kc ν0) (ks ν - ks ν0) 756 [(0, .ref (Q 0)), (4, .ref (Q 1)), (5, .ref (Q 2)), (6, .ref (Q 3)), (7, .ref (Q 4)), (8, .ref (Q 5)), (9, .ref (Q 8)), (10, .ref (Q 9)), (11, .ref (Q 10)), (12, .ref (Q 11)), (13, .ref (Q 12)), (14, .ref (Q 13)), (15, .ref (Q 14)), (16, .int x16), (18, .int x18), (19, .int x19), (20, .int x20)] [.int s0, .int s1, .ref (Q 14)] := by
  have m0 := mb_L_trades_756  h
  have e1 := m0.2.1; have e2 := m0.2.2.1; have e3 := hm0.2.1; have e4 := hm0.2.2.1
  have hI := lwI_mn hI0 hm0; have hQ := lwQ_kp hI0 hp0 hQ0
  unfold b_L_trades_756 at h
  refine g_iadd C dL_trades_756 ?_
  refine g_iload C dL_trades_757 16 rfl ?_
  refine g_sipush (v := (256 : Int32)) C dL_trades_759 (by decide) ?_
  refine g_iload C dL_trades_762 13 rfl ?_
  refine g_imul C dL_trades_764 ?_
  refine g_iadd C dL_trades_765 ?_
  obtain ⟨g41, h⟩ := of_guard h
  refine q_iast C (show rsh (ν.1, μ.2, ν.2, Ad) from hI.2) (j := 14) (N := 6) (by decide) (lwQ_i hQ (j := 14) (N := 6) (by decide)) g41 dL_trades_766 (fun a42 ea42 => ?_)
  replace h := yl_of h ea42
  refine g_aload C dL_trades_767 1 rfl ?_
  refine g_bipush (v := (19 : Int32)) C dL_trades_769 (by decide) ?_
  obtain ⟨g43, h⟩ := of_guard h
  refine q_iald C (show rsh (ν.1, μ.2, ν.2, Ad) from hI.2) (j := 1) (N := 22) (by decide) (lwQ_i hQ (j := 1) (N := 22) (by decide)) g43 dL_trades_771 ?_
  refine q_topi (fun t44 et44 => ?_)
  replace h := yl_of h et44
  refine g_istore (lv' := [(21, .int t44), (0, .ref (Q 0)), (4, .ref (Q 1)), (5, .ref (Q 2)), (6, .ref (Q 3)), (7, .ref (Q 4)), (8, .ref (Q 5)), (9, .ref (Q 8)), (10, .ref (Q 9)), (11, .ref (Q 10)), (12, .ref (Q 11)), (13, .ref (Q 12)), (14, .ref (Q 13)), (15, .ref (Q 14)), (16, .int x16), (18, .int x18), (19, .int x19), (20, .int x20)]) C dL_trades_772 (by decide) rfl ?_
  refine g_iconst (v := (0 : Int32)) C dL_trades_774 (by decide) ?_
  refine g_istore (lv' := [(22, .int (0 : Int32)), (21, .int t44), (0, .ref (Q 0)), (4, .ref (Q 1)), (5, .ref (Q 2)), (6, .ref (Q 3)), (7, .ref (Q 4)), (8, .ref (Q 5)), (9, .ref (Q 8)), (10, .ref (Q 9)), (11, .ref (Q 10)), (12, .ref (Q 11)), (13, .ref (Q 12)), (14, .ref (Q 13)), (15, .ref (Q 14)), (16, .int x16), (18, .int x18), (19, .int x19), (20, .int x20)]) C dL_trades_775 (by decide) rfl ?_
  refine g_iconst (v := (0 : Int32)) C dL_trades_777 (by decide) ?_
  refine g_istore (lv' := [(23, .int (0 : Int32)), (22, .int (0 : Int32)), (21, .int t44), (0, .ref (Q 0)), (4, .ref (Q 1)), (5, .ref (Q 2)), (6, .ref (Q 3)), (7, .ref (Q 4)), (8, .ref (Q 5)), (9, .ref (Q 8)), (10, .ref (Q 9)), (11, .ref (Q 10)), (12, .ref (Q 11)), (13, .ref (Q 12)), (14, .ref (Q 13)), (15, .ref (Q 14)), (16, .int x16), (18, .int x18), (19, .int x19), (20, .int x20)]) C dL_trades_778 (by decide) rfl ?_
  refine g_lv [3, 4, 5, 6, 7, 8, 9, 10, 11, 12, 13, 14, 15, 16, 17, 18, 19, 2, 1, 0] rfl ?_
  exact ll_L_trades_780 hl C hEv hN hr hz hI0 hQ0  w _ _ _ _ _ _ _ _ _ _ _ hm0 hp0 h
noncomputable def b_L_trades_732  (w : Nat) (μ : MP) (ν : NC) (a : AS) (x16 : Int32) (x18 : Int32) (x19 : Int32) (x20 : Int32) (s0 : Int32) : Option (((MP × NC) × AS) × Int32) := (if s0 = (-7200 : Int32) then ((if x18 = (0 : Int32) then (b_L_trades_756  w μ ν a x16 x18 x19 x20 (0 : Int32) ((2 : Int32) * x19)) else (b_L_trades_756  w μ ν a x16 x18 x19 x20 (1 : Int32) ((2 : Int32) * x19)))) else (some (((μ, ν), a), (0 : Int32))))
theorem mb_L_trades_732 {w : Nat} {μ : MP} {ν : NC} {a : AS} {x16 : Int32} {x18 : Int32} {x19 : Int32} {x20 : Int32} {s0 : Int32} {r0 : ((MP × NC) × AS) × Int32}   (h : b_L_trades_732  w μ ν a x16 x18 x19 x20 s0 = some r0) : mn ν r0.1.1.2 := by
  unfold b_L_trades_732 at h
  by_cases c735 : s0 = (-7200 : Int32)
  · replace h := (if_pos c735).symm.trans h
    by_cases c748 : x18 = (0 : Int32)
    · replace h := (if_pos c748).symm.trans h
      exact mb_L_trades_756  h
    · replace h := (if_neg c748).symm.trans h
      exact mb_L_trades_756  h
  · replace h := (if_neg c735).symm.trans h
    obtain rfl := Option.some.inj h
    exact mn_rfl _
set_option maxHeartbeats 4000000 in
set_option maxRecDepth 100000 in
theorem lb_L_trades_732 {p : Program} {l : Launch} (hl : l.stackTraces = false) {e : Env} {s : State} {m : MethodId} {args : Array Value} {below : List Frame} {meth : Method} {c : Code} {D : va_G} {E : Nat → ClassId} {sz : Nat} {μ0 : MP} {ν0 : NC} {a0 : AS} {Ad0 : Nat → Nat → Nat} {Q : Nat → Nat} {B : Nat × (Nat → Nat)} {w : Nat} {r0 : ((MP × NC) × AS) × Int32} (C : cx p s m args meth c D E (Aof (zS μ0 ν0 a0 Ad0) [] s.heap.size) cL_trades 27 "TradeLineLaw") (hEv : eV (Ad0 30 0) (Ad0 31 0) B (Aof (zS μ0 ν0 a0 Ad0) [] s.heap.size) s s.heap) (hN : vN s) (hr : meth.sig.returnType = (some .boolean)) (hz : s.heap.size = sz) (hI0 : lwI ν0) (hQ0 : lwQ Ad0 Q) {μ : MP} {ν : NC} {a : AS} {Ad : Nat → Nat → Nat} (hm0 : mn ν0 ν) (hp0 : kp ν0 Ad0 Ad) {x16 : Int32} {x18 : Int32} {x19 : Int32} {x20 : Int32} {s0 : Int32}   (h : b_L_trades_732  w μ ν a x16 x18 x19 x20 s0 = some r0) : G p l e ({ frames := 11, cells := kc r0.1.1.2 - kc ν0, slots := ks r0.1.1.2 - ks ν0, locals := 325 } : Room) s m args below meth c D E (Aof (zS μ0 ν0 a0 Ad0) [] s.heap.size) 27 (MQ below (cQ D E sz (zS μ0 ν0 a0 Ad0) [] (pI (fun r u => r = r0.2 ∧ ∃ A1, u = (zS r0.1.1.1 r0.1.1.2 r0.1.2 A1, []) ∧ kp ν0 Ad0 A1))) args s (kc r0.1.1.2 - kc ν0) (ks r0.1.1.2 - ks ν0) (Aof (zS μ0 ν0 a0 Ad0) [] s.heap.size)) (zS μ ν a Ad) [] (kc ν - kc ν0) (ks ν - ks ν0) 732 [(0, .ref (Q 0)), (4, .ref (Q 1)), (5, .ref (Q 2)), (6, .ref (Q 3)), (7, .ref (Q 4)), (8, .ref (Q 5)), (9, .ref (Q 8)), (10, .ref (Q 9)), (11, .ref (Q 10)), (12, .ref (Q 11)), (13, .ref (Q 12)), (14, .ref (Q 13)), (15, .ref (Q 14)), (16, .int x16), (18, .int x18), (19, .int x19), (20, .int x20)] [.int s0] := by
  have m0 := mb_L_trades_732  h
  have e1 := m0.2.1; have e2 := m0.2.2.1; have e3 := hm0.2.1; have e4 := hm0.2.2.1
  have hI := lwI_mn hI0 hm0; have hQ := lwQ_kp hI0 hp0 hQ0
  unfold b_L_trades_732 at h
  refine g_sipush (v := (-7200 : Int32)) C dL_trades_732 (by decide) ?_
  refine g_icmp_eq (tgt := 740) C dL_trades_735 (by decide) (fun c735 => ?_) (fun c735 => ?_)
  · replace h := (if_pos c735).symm.trans h
    refine g_aload C dL_trades_740 12 rfl ?_
    refine g_iconst (v := (2 : Int32)) C dL_trades_742 (by decide) ?_
    refine g_iload C dL_trades_743 15 rfl ?_
    refine g_imul C dL_trades_745 ?_
    refine g_iload C dL_trades_746 14 rfl ?_
    refine g_if_eq (tgt := 755) C dL_trades_748 (by decide) (fun c748 => ?_) (fun c748 => ?_)
    · replace h := (if_pos c748).symm.trans h
      refine g_iconst (v := (0 : Int32)) C dL_trades_755 (by decide) ?_
      refine g_lv [0, 1, 2, 3, 4, 5, 6, 7, 8, 9, 10, 11, 12, 13, 14, 15, 16] rfl ?_
      exact lb_L_trades_756 hl C hEv hN hr hz hI0 hQ0 hm0 hp0  h
    · replace h := (if_neg c748).symm.trans h
      refine g_iconst (v := (1 : Int32)) C dL_trades_751 (by decide) ?_
      refine g_goto (tgt := 756) C dL_trades_752 (by decide) ?_
      refine g_lv [0, 1, 2, 3, 4, 5, 6, 7, 8, 9, 10, 11, 12, 13, 14, 15, 16] rfl ?_
      exact lb_L_trades_756 hl C hEv hN hr hz hI0 hQ0 hm0 hp0  h
  · replace h := (if_neg c735).symm.trans h
    refine g_iconst (v := (0 : Int32)) C dL_trades_738 (by decide) ?_
    obtain rfl := Option.some.inj h
    exact g_iret C hr rfl hz ⟨(hm0.2.2.2 30 (by decide) (by decide)).1, (hm0.2.2.2 31 (by decide) (by decide)).1, hp0.2.1, hp0.2.2⟩ ⟨rfl, Ad, rfl, hp0⟩ (fun j x h => by simp at h) dL_trades_739
noncomputable def b_L_trades_715  (w : Nat) (μ : MP) (ν : NC) (a : AS) (x16 : Int32) (x18 : Int32) (x19 : Int32) (x20 : Int32) (s0 : Int32) : Option (((MP × NC) × AS) × Int32) := (if s0 = (-7200 : Int32) then ((f_L_quote w μ ν x19 x18 x16 (-1 : Int32)).bind (fun v40 => b_L_trades_732  w v40.1.1 v40.1.2 a x16 x18 x19 x20 v40.2)) else (some (((μ, ν), a), (0 : Int32))))
theorem mb_L_trades_715 {w : Nat} {μ : MP} {ν : NC} {a : AS} {x16 : Int32} {x18 : Int32} {x19 : Int32} {x20 : Int32} {s0 : Int32} {r0 : ((MP × NC) × AS) × Int32}   (h : b_L_trades_715  w μ ν a x16 x18 x19 x20 s0 = some r0) : mn ν r0.1.1.2 := by
  unfold b_L_trades_715 at h
  by_cases c718 : s0 = (-7200 : Int32)
  · replace h := (if_pos c718).symm.trans h
    obtain ⟨v40, hv40, h⟩ := bind_of h
    exact mn_trans (m_L_quote hv40) (mb_L_trades_732  h)
  · replace h := (if_neg c718).symm.trans h
    obtain rfl := Option.some.inj h
    exact mn_rfl _
set_option maxHeartbeats 4000000 in
set_option maxRecDepth 100000 in
theorem lb_L_trades_715 {p : Program} {l : Launch} (hl : l.stackTraces = false) {e : Env} {s : State} {m : MethodId} {args : Array Value} {below : List Frame} {meth : Method} {c : Code} {D : va_G} {E : Nat → ClassId} {sz : Nat} {μ0 : MP} {ν0 : NC} {a0 : AS} {Ad0 : Nat → Nat → Nat} {Q : Nat → Nat} {B : Nat × (Nat → Nat)} {w : Nat} {r0 : ((MP × NC) × AS) × Int32} (C : cx p s m args meth c D E (Aof (zS μ0 ν0 a0 Ad0) [] s.heap.size) cL_trades 27 "TradeLineLaw") (hEv : eV (Ad0 30 0) (Ad0 31 0) B (Aof (zS μ0 ν0 a0 Ad0) [] s.heap.size) s s.heap) (hN : vN s) (hr : meth.sig.returnType = (some .boolean)) (hz : s.heap.size = sz) (hI0 : lwI ν0) (hQ0 : lwQ Ad0 Q) {μ : MP} {ν : NC} {a : AS} {Ad : Nat → Nat → Nat} (hm0 : mn ν0 ν) (hp0 : kp ν0 Ad0 Ad) {x16 : Int32} {x18 : Int32} {x19 : Int32} {x20 : Int32} {s0 : Int32}   (h : b_L_trades_715  w μ ν a x16 x18 x19 x20 s0 = some r0) : G p l e ({ frames := 11, cells := kc r0.1.1.2 - kc ν0, slots := ks r0.1.1.2 - ks ν0, locals := 325 } : Room) s m args below meth c D E (Aof (zS μ0 ν0 a0 Ad0) [] s.heap.size) 27 (MQ below (cQ D E sz (zS μ0 ν0 a0 Ad0) [] (pI (fun r u => r = r0.2 ∧ ∃ A1, u = (zS r0.1.1.1 r0.1.1.2 r0.1.2 A1, []) ∧ kp ν0 Ad0 A1))) args s (kc r0.1.1.2 - kc ν0) (ks r0.1.1.2 - ks ν0) (Aof (zS μ0 ν0 a0 Ad0) [] s.heap.size)) (zS μ ν a Ad) [] (kc ν - kc ν0) (ks ν - ks ν0) 715 [(0, .ref (Q 0)), (4, .ref (Q 1)), (5, .ref (Q 2)), (6, .ref (Q 3)), (7, .ref (Q 4)), (8, .ref (Q 5)), (9, .ref (Q 8)), (10, .ref (Q 9)), (11, .ref (Q 10)), (12, .ref (Q 11)), (13, .ref (Q 12)), (14, .ref (Q 13)), (15, .ref (Q 14)), (16, .int x16), (18, .int x18), (19, .int x19), (20, .int x20)] [.int s0] := by
  have m0 := mb_L_trades_715  h
  have e1 := m0.2.1; have e2 := m0.2.2.1; have e3 := hm0.2.1; have e4 := hm0.2.2.1
  have hI := lwI_mn hI0 hm0; have hQ := lwQ_kp hI0 hp0 hQ0
  unfold b_L_trades_715 at h
  refine g_sipush (v := (-7200 : Int32)) C dL_trades_715 (by decide) ?_
  refine g_icmp_ne (tgt := 738) C dL_trades_718 (by decide) (fun c718 => ?_) (fun c718 => ?_)
  · replace h := (if_neg c718).symm.trans h
    refine g_iconst (v := (0 : Int32)) C dL_trades_738 (by decide) ?_
    obtain rfl := Option.some.inj h
    exact g_iret C hr rfl hz ⟨(hm0.2.2.2 30 (by decide) (by decide)).1, (hm0.2.2.2 31 (by decide) (by decide)).1, hp0.2.1, hp0.2.2⟩ ⟨rfl, Ad, rfl, hp0⟩ (fun j x h => by simp at h) dL_trades_739
  · replace h := (if_pos c718).symm.trans h
    refine g_aload_n C dL_trades_721 rfl 0 rfl ?_
    refine g_iload C dL_trades_722 15 rfl ?_
    refine g_iload C dL_trades_724 14 rfl ?_
    refine g_iload C dL_trades_726 13 rfl ?_
    refine g_iconst (v := (-1 : Int32)) C dL_trades_728 (by decide) ?_
    obtain ⟨v40, hv40, h⟩ := bind_of h
    have m2 := m_L_quote hv40
    have m3 := mb_L_trades_732  h
    have a1 := hm0.2.1; have a2 := hm0.2.2.1; have b1 := m2.2.1; have b2 := m2.2.2.1; have d1 := m3.2.1; have d2 := m3.2.2.1
    refine g_cSh (n := 5) (exr := []) C hEv hN ⟨hp0.2.1 0, hp0.2.2 0⟩ [_, _, _, _, _] _ rfl rfl [] rfl rfl (fun sz => wc_L_quote l hl B _ ν _ Ad Q hI hQ w _ _ _ _ _ hv40 D E sz) rfl gh_quote gw_0 gw_1173 gw_1174 ⟨by decide +kernel, by decide +kernel, by decide +kernel⟩ ⟨rfl, rfl⟩ ⟨Nat.le_of_ble_eq_true rfl, Nat.le_of_ble_eq_true rfl⟩ (Nat.le_of_ble_eq_true rfl) dL_trades_729 ⟨by show (kc ν - kc ν0) + (kc v40.1.2 - kc ν) ≤ kc r0.1.1.2 - kc ν0; omega, by show (ks ν - ks ν0) + (ks v40.1.2 - ks ν) ≤ ks r0.1.1.2 - ks ν0; omega⟩ (fun r u hp hx => ?_)
    obtain ⟨er, A1, rfl, hkp⟩ := hp
    rw [er]
    try dsimp only [List.append_nil]
    refine g_widen (k := kc v40.1.2 - kc ν0) (n := ks v40.1.2 - ks ν0) (by omega) (by omega) ?_
    refine g_lv [0, 1, 2, 3, 4, 5, 6, 7, 8, 9, 10, 11, 12, 13, 14, 15, 16] rfl ?_
    exact lb_L_trades_732 hl C hEv hN hr hz hI0 hQ0 (mn_trans hm0 m2) (kp_trans hp0 hm0 hkp)  h
noncomputable def b_L_trades_696  (w : Nat) (μ : MP) (ν : NC) (a : AS) (x16 : Int32) (x18 : Int32) (x19 : Int32) (x20 : Int32) (s0 : Int32) : Option (((MP × NC) × AS) × Int32) := (if s0 = (-7200 : Int32) then ((f_L_quote w μ ν x19 x18 x16 (201 : Int32)).bind (fun v39 => b_L_trades_715  w v39.1.1 v39.1.2 a x16 x18 x19 x20 v39.2)) else (some (((μ, ν), a), (0 : Int32))))
theorem mb_L_trades_696 {w : Nat} {μ : MP} {ν : NC} {a : AS} {x16 : Int32} {x18 : Int32} {x19 : Int32} {x20 : Int32} {s0 : Int32} {r0 : ((MP × NC) × AS) × Int32}   (h : b_L_trades_696  w μ ν a x16 x18 x19 x20 s0 = some r0) : mn ν r0.1.1.2 := by
  unfold b_L_trades_696 at h
  by_cases c699 : s0 = (-7200 : Int32)
  · replace h := (if_pos c699).symm.trans h
    obtain ⟨v39, hv39, h⟩ := bind_of h
    exact mn_trans (m_L_quote hv39) (mb_L_trades_715  h)
  · replace h := (if_neg c699).symm.trans h
    obtain rfl := Option.some.inj h
    exact mn_rfl _
set_option maxHeartbeats 4000000 in
set_option maxRecDepth 100000 in
theorem lb_L_trades_696 {p : Program} {l : Launch} (hl : l.stackTraces = false) {e : Env} {s : State} {m : MethodId} {args : Array Value} {below : List Frame} {meth : Method} {c : Code} {D : va_G} {E : Nat → ClassId} {sz : Nat} {μ0 : MP} {ν0 : NC} {a0 : AS} {Ad0 : Nat → Nat → Nat} {Q : Nat → Nat} {B : Nat × (Nat → Nat)} {w : Nat} {r0 : ((MP × NC) × AS) × Int32} (C : cx p s m args meth c D E (Aof (zS μ0 ν0 a0 Ad0) [] s.heap.size) cL_trades 27 "TradeLineLaw") (hEv : eV (Ad0 30 0) (Ad0 31 0) B (Aof (zS μ0 ν0 a0 Ad0) [] s.heap.size) s s.heap) (hN : vN s) (hr : meth.sig.returnType = (some .boolean)) (hz : s.heap.size = sz) (hI0 : lwI ν0) (hQ0 : lwQ Ad0 Q) {μ : MP} {ν : NC} {a : AS} {Ad : Nat → Nat → Nat} (hm0 : mn ν0 ν) (hp0 : kp ν0 Ad0 Ad) {x16 : Int32} {x18 : Int32} {x19 : Int32} {x20 : Int32} {s0 : Int32}   (h : b_L_trades_696  w μ ν a x16 x18 x19 x20 s0 = some r0) : G p l e ({ frames := 11, cells := kc r0.1.1.2 - kc ν0, slots := ks r0.1.1.2 - ks ν0, locals := 325 } : Room) s m args below meth c D E (Aof (zS μ0 ν0 a0 Ad0) [] s.heap.size) 27 (MQ below (cQ D E sz (zS μ0 ν0 a0 Ad0) [] (pI (fun r u => r = r0.2 ∧ ∃ A1, u = (zS r0.1.1.1 r0.1.1.2 r0.1.2 A1, []) ∧ kp ν0 Ad0 A1))) args s (kc r0.1.1.2 - kc ν0) (ks r0.1.1.2 - ks ν0) (Aof (zS μ0 ν0 a0 Ad0) [] s.heap.size)) (zS μ ν a Ad) [] (kc ν - kc ν0) (ks ν - ks ν0) 696 [(0, .ref (Q 0)), (4, .ref (Q 1)), (5, .ref (Q 2)), (6, .ref (Q 3)), (7, .ref (Q 4)), (8, .ref (Q 5)), (9, .ref (Q 8)), (10, .ref (Q 9)), (11, .ref (Q 10)), (12, .ref (Q 11)), (13, .ref (Q 12)), (14, .ref (Q 13)), (15, .ref (Q 14)), (16, .int x16), (18, .int x18), (19, .int x19), (20, .int x20)] [.int s0] := by
  have m0 := mb_L_trades_696  h
  have e1 := m0.2.1; have e2 := m0.2.2.1; have e3 := hm0.2.1; have e4 := hm0.2.2.1
  have hI := lwI_mn hI0 hm0; have hQ := lwQ_kp hI0 hp0 hQ0
  unfold b_L_trades_696 at h
  refine g_sipush (v := (-7200 : Int32)) C dL_trades_696 (by decide) ?_
  refine g_icmp_ne (tgt := 738) C dL_trades_699 (by decide) (fun c699 => ?_) (fun c699 => ?_)
  · replace h := (if_neg c699).symm.trans h
    refine g_iconst (v := (0 : Int32)) C dL_trades_738 (by decide) ?_
    obtain rfl := Option.some.inj h
    exact g_iret C hr rfl hz ⟨(hm0.2.2.2 30 (by decide) (by decide)).1, (hm0.2.2.2 31 (by decide) (by decide)).1, hp0.2.1, hp0.2.2⟩ ⟨rfl, Ad, rfl, hp0⟩ (fun j x h => by simp at h) dL_trades_739
  · replace h := (if_pos c699).symm.trans h
    refine g_aload_n C dL_trades_702 rfl 0 rfl ?_
    refine g_iload C dL_trades_703 15 rfl ?_
    refine g_iload C dL_trades_705 14 rfl ?_
    refine g_iload C dL_trades_707 13 rfl ?_
    refine g_sipush (v := (201 : Int32)) C dL_trades_709 (by decide) ?_
    obtain ⟨v39, hv39, h⟩ := bind_of h
    have m2 := m_L_quote hv39
    have m3 := mb_L_trades_715  h
    have a1 := hm0.2.1; have a2 := hm0.2.2.1; have b1 := m2.2.1; have b2 := m2.2.2.1; have d1 := m3.2.1; have d2 := m3.2.2.1
    refine g_cSh (n := 5) (exr := []) C hEv hN ⟨hp0.2.1 0, hp0.2.2 0⟩ [_, _, _, _, _] _ rfl rfl [] rfl rfl (fun sz => wc_L_quote l hl B _ ν _ Ad Q hI hQ w _ _ _ _ _ hv39 D E sz) rfl gh_quote gw_0 gw_1173 gw_1174 ⟨by decide +kernel, by decide +kernel, by decide +kernel⟩ ⟨rfl, rfl⟩ ⟨Nat.le_of_ble_eq_true rfl, Nat.le_of_ble_eq_true rfl⟩ (Nat.le_of_ble_eq_true rfl) dL_trades_712 ⟨by show (kc ν - kc ν0) + (kc v39.1.2 - kc ν) ≤ kc r0.1.1.2 - kc ν0; omega, by show (ks ν - ks ν0) + (ks v39.1.2 - ks ν) ≤ ks r0.1.1.2 - ks ν0; omega⟩ (fun r u hp hx => ?_)
    obtain ⟨er, A1, rfl, hkp⟩ := hp
    rw [er]
    try dsimp only [List.append_nil]
    refine g_widen (k := kc v39.1.2 - kc ν0) (n := ks v39.1.2 - ks ν0) (by omega) (by omega) ?_
    refine g_lv [0, 1, 2, 3, 4, 5, 6, 7, 8, 9, 10, 11, 12, 13, 14, 15, 16] rfl ?_
    exact lb_L_trades_715 hl C hEv hN hr hz hI0 hQ0 (mn_trans hm0 m2) (kp_trans hp0 hm0 hkp)  h
noncomputable def b_L_trades_678  (w : Nat) (μ : MP) (ν : NC) (a : AS) (x16 : Int32) (x18 : Int32) (x19 : Int32) (x20 : Int32) (s0 : Int32) : Option (((MP × NC) × AS) × Int32) := (if s0 = (-7200 : Int32) then ((f_L_quote w μ ν x19 x18 (101 : Int32) x20).bind (fun v38 => b_L_trades_696  w v38.1.1 v38.1.2 a x16 x18 x19 x20 v38.2)) else (some (((μ, ν), a), (0 : Int32))))
theorem mb_L_trades_678 {w : Nat} {μ : MP} {ν : NC} {a : AS} {x16 : Int32} {x18 : Int32} {x19 : Int32} {x20 : Int32} {s0 : Int32} {r0 : ((MP × NC) × AS) × Int32}   (h : b_L_trades_678  w μ ν a x16 x18 x19 x20 s0 = some r0) : mn ν r0.1.1.2 := by
  unfold b_L_trades_678 at h
  by_cases c681 : s0 = (-7200 : Int32)
  · replace h := (if_pos c681).symm.trans h
    obtain ⟨v38, hv38, h⟩ := bind_of h
    exact mn_trans (m_L_quote hv38) (mb_L_trades_696  h)
  · replace h := (if_neg c681).symm.trans h
    obtain rfl := Option.some.inj h
    exact mn_rfl _
set_option maxHeartbeats 4000000 in
set_option maxRecDepth 100000 in
theorem lb_L_trades_678 {p : Program} {l : Launch} (hl : l.stackTraces = false) {e : Env} {s : State} {m : MethodId} {args : Array Value} {below : List Frame} {meth : Method} {c : Code} {D : va_G} {E : Nat → ClassId} {sz : Nat} {μ0 : MP} {ν0 : NC} {a0 : AS} {Ad0 : Nat → Nat → Nat} {Q : Nat → Nat} {B : Nat × (Nat → Nat)} {w : Nat} {r0 : ((MP × NC) × AS) × Int32} (C : cx p s m args meth c D E (Aof (zS μ0 ν0 a0 Ad0) [] s.heap.size) cL_trades 27 "TradeLineLaw") (hEv : eV (Ad0 30 0) (Ad0 31 0) B (Aof (zS μ0 ν0 a0 Ad0) [] s.heap.size) s s.heap) (hN : vN s) (hr : meth.sig.returnType = (some .boolean)) (hz : s.heap.size = sz) (hI0 : lwI ν0) (hQ0 : lwQ Ad0 Q) {μ : MP} {ν : NC} {a : AS} {Ad : Nat → Nat → Nat} (hm0 : mn ν0 ν) (hp0 : kp ν0 Ad0 Ad) {x16 : Int32} {x18 : Int32} {x19 : Int32} {x20 : Int32} {s0 : Int32}   (h : b_L_trades_678  w μ ν a x16 x18 x19 x20 s0 = some r0) : G p l e ({ frames := 11, cells := kc r0.1.1.2 - kc ν0, slots := ks r0.1.1.2 - ks ν0, locals := 325 } : Room) s m args below meth c D E (Aof (zS μ0 ν0 a0 Ad0) [] s.heap.size) 27 (MQ below (cQ D E sz (zS μ0 ν0 a0 Ad0) [] (pI (fun r u => r = r0.2 ∧ ∃ A1, u = (zS r0.1.1.1 r0.1.1.2 r0.1.2 A1, []) ∧ kp ν0 Ad0 A1))) args s (kc r0.1.1.2 - kc ν0) (ks r0.1.1.2 - ks ν0) (Aof (zS μ0 ν0 a0 Ad0) [] s.heap.size)) (zS μ ν a Ad) [] (kc ν - kc ν0) (ks ν - ks ν0) 678 [(0, .ref (Q 0)), (4, .ref (Q 1)), (5, .ref (Q 2)), (6, .ref (Q 3)), (7, .ref (Q 4)), (8, .ref (Q 5)), (9, .ref (Q 8)), (10, .ref (Q 9)), (11, .ref (Q 10)), (12, .ref (Q 11)), (13, .ref (Q 12)), (14, .ref (Q 13)), (15, .ref (Q 14)), (16, .int x16), (18, .int x18), (19, .int x19), (20, .int x20)] [.int s0] := by
  have m0 := mb_L_trades_678  h
  have e1 := m0.2.1; have e2 := m0.2.2.1; have e3 := hm0.2.1; have e4 := hm0.2.2.1
  have hI := lwI_mn hI0 hm0; have hQ := lwQ_kp hI0 hp0 hQ0
  unfold b_L_trades_678 at h
  refine g_sipush (v := (-7200 : Int32)) C dL_trades_678 (by decide) ?_
  refine g_icmp_ne (tgt := 738) C dL_trades_681 (by decide) (fun c681 => ?_) (fun c681 => ?_)
  · replace h := (if_neg c681).symm.trans h
    refine g_iconst (v := (0 : Int32)) C dL_trades_738 (by decide) ?_
    obtain rfl := Option.some.inj h
    exact g_iret C hr rfl hz ⟨(hm0.2.2.2 30 (by decide) (by decide)).1, (hm0.2.2.2 31 (by decide) (by decide)).1, hp0.2.1, hp0.2.2⟩ ⟨rfl, Ad, rfl, hp0⟩ (fun j x h => by simp at h) dL_trades_739
  · replace h := (if_pos c681).symm.trans h
    refine g_aload_n C dL_trades_684 rfl 0 rfl ?_
    refine g_iload C dL_trades_685 15 rfl ?_
    refine g_iload C dL_trades_687 14 rfl ?_
    refine g_bipush (v := (101 : Int32)) C dL_trades_689 (by decide) ?_
    refine g_iload C dL_trades_691 16 rfl ?_
    obtain ⟨v38, hv38, h⟩ := bind_of h
    have m2 := m_L_quote hv38
    have m3 := mb_L_trades_696  h
    have a1 := hm0.2.1; have a2 := hm0.2.2.1; have b1 := m2.2.1; have b2 := m2.2.2.1; have d1 := m3.2.1; have d2 := m3.2.2.1
    refine g_cSh (n := 5) (exr := []) C hEv hN ⟨hp0.2.1 0, hp0.2.2 0⟩ [_, _, _, _, _] _ rfl rfl [] rfl rfl (fun sz => wc_L_quote l hl B _ ν _ Ad Q hI hQ w _ _ _ _ _ hv38 D E sz) rfl gh_quote gw_0 gw_1173 gw_1174 ⟨by decide +kernel, by decide +kernel, by decide +kernel⟩ ⟨rfl, rfl⟩ ⟨Nat.le_of_ble_eq_true rfl, Nat.le_of_ble_eq_true rfl⟩ (Nat.le_of_ble_eq_true rfl) dL_trades_693 ⟨by show (kc ν - kc ν0) + (kc v38.1.2 - kc ν) ≤ kc r0.1.1.2 - kc ν0; omega, by show (ks ν - ks ν0) + (ks v38.1.2 - ks ν) ≤ ks r0.1.1.2 - ks ν0; omega⟩ (fun r u hp hx => ?_)
    obtain ⟨er, A1, rfl, hkp⟩ := hp
    rw [er]
    try dsimp only [List.append_nil]
    refine g_widen (k := kc v38.1.2 - kc ν0) (n := ks v38.1.2 - ks ν0) (by omega) (by omega) ?_
    refine g_lv [0, 1, 2, 3, 4, 5, 6, 7, 8, 9, 10, 11, 12, 13, 14, 15, 16] rfl ?_
    exact lb_L_trades_696 hl C hEv hN hr hz hI0 hQ0 (mn_trans hm0 m2) (kp_trans hp0 hm0 hkp)  h
noncomputable def b_L_trades_661  (w : Nat) (μ : MP) (ν : NC) (a : AS) (x16 : Int32) (x18 : Int32) (x19 : Int32) (x20 : Int32) (s0 : Int32) : Option (((MP × NC) × AS) × Int32) := (if s0 = (-7100 : Int32) then ((f_L_quote w μ ν x19 x18 (0 : Int32) x20).bind (fun v37 => b_L_trades_678  w v37.1.1 v37.1.2 a x16 x18 x19 x20 v37.2)) else (some (((μ, ν), a), (0 : Int32))))
theorem mb_L_trades_661 {w : Nat} {μ : MP} {ν : NC} {a : AS} {x16 : Int32} {x18 : Int32} {x19 : Int32} {x20 : Int32} {s0 : Int32} {r0 : ((MP × NC) × AS) × Int32}   (h : b_L_trades_661  w μ ν a x16 x18 x19 x20 s0 = some r0) : mn ν r0.1.1.2 := by
  unfold b_L_trades_661 at h
  by_cases c664 : s0 = (-7100 : Int32)
  · replace h := (if_pos c664).symm.trans h
    obtain ⟨v37, hv37, h⟩ := bind_of h
    exact mn_trans (m_L_quote hv37) (mb_L_trades_678  h)
  · replace h := (if_neg c664).symm.trans h
    obtain rfl := Option.some.inj h
    exact mn_rfl _
set_option maxHeartbeats 4000000 in
set_option maxRecDepth 100000 in
theorem lb_L_trades_661 {p : Program} {l : Launch} (hl : l.stackTraces = false) {e : Env} {s : State} {m : MethodId} {args : Array Value} {below : List Frame} {meth : Method} {c : Code} {D : va_G} {E : Nat → ClassId} {sz : Nat} {μ0 : MP} {ν0 : NC} {a0 : AS} {Ad0 : Nat → Nat → Nat} {Q : Nat → Nat} {B : Nat × (Nat → Nat)} {w : Nat} {r0 : ((MP × NC) × AS) × Int32} (C : cx p s m args meth c D E (Aof (zS μ0 ν0 a0 Ad0) [] s.heap.size) cL_trades 27 "TradeLineLaw") (hEv : eV (Ad0 30 0) (Ad0 31 0) B (Aof (zS μ0 ν0 a0 Ad0) [] s.heap.size) s s.heap) (hN : vN s) (hr : meth.sig.returnType = (some .boolean)) (hz : s.heap.size = sz) (hI0 : lwI ν0) (hQ0 : lwQ Ad0 Q) {μ : MP} {ν : NC} {a : AS} {Ad : Nat → Nat → Nat} (hm0 : mn ν0 ν) (hp0 : kp ν0 Ad0 Ad) {x16 : Int32} {x18 : Int32} {x19 : Int32} {x20 : Int32} {s0 : Int32}   (h : b_L_trades_661  w μ ν a x16 x18 x19 x20 s0 = some r0) : G p l e ({ frames := 11, cells := kc r0.1.1.2 - kc ν0, slots := ks r0.1.1.2 - ks ν0, locals := 325 } : Room) s m args below meth c D E (Aof (zS μ0 ν0 a0 Ad0) [] s.heap.size) 27 (MQ below (cQ D E sz (zS μ0 ν0 a0 Ad0) [] (pI (fun r u => r = r0.2 ∧ ∃ A1, u = (zS r0.1.1.1 r0.1.1.2 r0.1.2 A1, []) ∧ kp ν0 Ad0 A1))) args s (kc r0.1.1.2 - kc ν0) (ks r0.1.1.2 - ks ν0) (Aof (zS μ0 ν0 a0 Ad0) [] s.heap.size)) (zS μ ν a Ad) [] (kc ν - kc ν0) (ks ν - ks ν0) 661 [(0, .ref (Q 0)), (4, .ref (Q 1)), (5, .ref (Q 2)), (6, .ref (Q 3)), (7, .ref (Q 4)), (8, .ref (Q 5)), (9, .ref (Q 8)), (10, .ref (Q 9)), (11, .ref (Q 10)), (12, .ref (Q 11)), (13, .ref (Q 12)), (14, .ref (Q 13)), (15, .ref (Q 14)), (16, .int x16), (18, .int x18), (19, .int x19), (20, .int x20)] [.int s0] := by
  have m0 := mb_L_trades_661  h
  have e1 := m0.2.1; have e2 := m0.2.2.1; have e3 := hm0.2.1; have e4 := hm0.2.2.1
  have hI := lwI_mn hI0 hm0; have hQ := lwQ_kp hI0 hp0 hQ0
  unfold b_L_trades_661 at h
  refine g_sipush (v := (-7100 : Int32)) C dL_trades_661 (by decide) ?_
  refine g_icmp_ne (tgt := 738) C dL_trades_664 (by decide) (fun c664 => ?_) (fun c664 => ?_)
  · replace h := (if_neg c664).symm.trans h
    refine g_iconst (v := (0 : Int32)) C dL_trades_738 (by decide) ?_
    obtain rfl := Option.some.inj h
    exact g_iret C hr rfl hz ⟨(hm0.2.2.2 30 (by decide) (by decide)).1, (hm0.2.2.2 31 (by decide) (by decide)).1, hp0.2.1, hp0.2.2⟩ ⟨rfl, Ad, rfl, hp0⟩ (fun j x h => by simp at h) dL_trades_739
  · replace h := (if_pos c664).symm.trans h
    refine g_aload_n C dL_trades_667 rfl 0 rfl ?_
    refine g_iload C dL_trades_668 15 rfl ?_
    refine g_iload C dL_trades_670 14 rfl ?_
    refine g_iconst (v := (0 : Int32)) C dL_trades_672 (by decide) ?_
    refine g_iload C dL_trades_673 16 rfl ?_
    obtain ⟨v37, hv37, h⟩ := bind_of h
    have m2 := m_L_quote hv37
    have m3 := mb_L_trades_678  h
    have a1 := hm0.2.1; have a2 := hm0.2.2.1; have b1 := m2.2.1; have b2 := m2.2.2.1; have d1 := m3.2.1; have d2 := m3.2.2.1
    refine g_cSh (n := 5) (exr := []) C hEv hN ⟨hp0.2.1 0, hp0.2.2 0⟩ [_, _, _, _, _] _ rfl rfl [] rfl rfl (fun sz => wc_L_quote l hl B _ ν _ Ad Q hI hQ w _ _ _ _ _ hv37 D E sz) rfl gh_quote gw_0 gw_1173 gw_1174 ⟨by decide +kernel, by decide +kernel, by decide +kernel⟩ ⟨rfl, rfl⟩ ⟨Nat.le_of_ble_eq_true rfl, Nat.le_of_ble_eq_true rfl⟩ (Nat.le_of_ble_eq_true rfl) dL_trades_675 ⟨by show (kc ν - kc ν0) + (kc v37.1.2 - kc ν) ≤ kc r0.1.1.2 - kc ν0; omega, by show (ks ν - ks ν0) + (ks v37.1.2 - ks ν) ≤ ks r0.1.1.2 - ks ν0; omega⟩ (fun r u hp hx => ?_)
    obtain ⟨er, A1, rfl, hkp⟩ := hp
    rw [er]
    try dsimp only [List.append_nil]
    refine g_widen (k := kc v37.1.2 - kc ν0) (n := ks v37.1.2 - ks ν0) (by omega) (by omega) ?_
    refine g_lv [0, 1, 2, 3, 4, 5, 6, 7, 8, 9, 10, 11, 12, 13, 14, 15, 16] rfl ?_
    exact lb_L_trades_678 hl C hEv hN hr hz hI0 hQ0 (mn_trans hm0 m2) (kp_trans hp0 hm0 hkp)  h
noncomputable def b_L_trades_647  (w : Nat) (μ : MP) (ν : NC) (a : AS) (x16 : Int32) (x18 : Int32) (x19 : Int32) (s0 : Int32) (s1 : Int32) : Option (((MP × NC) × AS) × Int32) := (f_L_low w a s1 s0).bind (fun v35 => (f_L_quote w μ ν (3 : Int32) x18 (0 : Int32) (0 : Int32)).bind (fun v36 => b_L_trades_661  w v36.1.1 v36.1.2 a x16 x18 x19 v35 v36.2))
theorem mb_L_trades_647 {w : Nat} {μ : MP} {ν : NC} {a : AS} {x16 : Int32} {x18 : Int32} {x19 : Int32} {s0 : Int32} {s1 : Int32} {r0 : ((MP × NC) × AS) × Int32}   (h : b_L_trades_647  w μ ν a x16 x18 x19 s0 s1 = some r0) : mn ν r0.1.1.2 := by
  unfold b_L_trades_647 at h
  obtain ⟨v35, hv35, h⟩ := bind_of h
  obtain ⟨v36, hv36, h⟩ := bind_of h
  exact mn_trans (m_L_quote hv36) (mb_L_trades_661  h)
set_option maxHeartbeats 4000000 in
set_option maxRecDepth 100000 in
theorem lb_L_trades_647 {p : Program} {l : Launch} (hl : l.stackTraces = false) {e : Env} {s : State} {m : MethodId} {args : Array Value} {below : List Frame} {meth : Method} {c : Code} {D : va_G} {E : Nat → ClassId} {sz : Nat} {μ0 : MP} {ν0 : NC} {a0 : AS} {Ad0 : Nat → Nat → Nat} {Q : Nat → Nat} {B : Nat × (Nat → Nat)} {w : Nat} {r0 : ((MP × NC) × AS) × Int32} (C : cx p s m args meth c D E (Aof (zS μ0 ν0 a0 Ad0) [] s.heap.size) cL_trades 27 "TradeLineLaw") (hEv : eV (Ad0 30 0) (Ad0 31 0) B (Aof (zS μ0 ν0 a0 Ad0) [] s.heap.size) s s.heap) (hN : vN s) (hr : meth.sig.returnType = (some .boolean)) (hz : s.heap.size = sz) (hI0 : lwI ν0) (hQ0 : lwQ Ad0 Q) {μ : MP} {ν : NC} {a : AS} {Ad : Nat → Nat → Nat} (hm0 : mn ν0 ν) (hp0 : kp ν0 Ad0 Ad) {x16 : Int32} {x18 : Int32} {x19 : Int32} {s0 : Int32} {s1 : Int32}   (h : b_L_trades_647  w μ ν a x16 x18 x19 s0 s1 = some r0) : G p l e ({ frames := 11, cells := kc r0.1.1.2 - kc ν0, slots := ks r0.1.1.2 - ks ν0, locals := 325 } : Room) s m args below meth c D E (Aof (zS μ0 ν0 a0 Ad0) [] s.heap.size) 27 (MQ below (cQ D E sz (zS μ0 ν0 a0 Ad0) [] (pI (fun r u => r = r0.2 ∧ ∃ A1, u = (zS r0.1.1.1 r0.1.1.2 r0.1.2 A1, []) ∧ kp ν0 Ad0 A1))) args s (kc r0.1.1.2 - kc ν0) (ks r0.1.1.2 - ks ν0) (Aof (zS μ0 ν0 a0 Ad0) [] s.heap.size)) (zS μ ν a Ad) [] (kc ν - kc ν0) (ks ν - ks ν0) 647 [(0, .ref (Q 0)), (4, .ref (Q 1)), (5, .ref (Q 2)), (6, .ref (Q 3)), (7, .ref (Q 4)), (8, .ref (Q 5)), (9, .ref (Q 8)), (10, .ref (Q 9)), (11, .ref (Q 10)), (12, .ref (Q 11)), (13, .ref (Q 12)), (14, .ref (Q 13)), (15, .ref (Q 14)), (16, .int x16), (18, .int x18), (19, .int x19)] [.int s0, .int s1] := by
  have m0 := mb_L_trades_647  h
  have e1 := m0.2.1; have e2 := m0.2.2.1; have e3 := hm0.2.1; have e4 := hm0.2.2.1
  have hI := lwI_mn hI0 hm0; have hQ := lwQ_kp hI0 hp0 hQ0
  unfold b_L_trades_647 at h
  obtain ⟨v35, hv35, h⟩ := bind_of h
  refine g_cSi (n := 2) (exc := []) (exr := []) C [_, _] _ rfl rfl [] [] rfl rfl rfl rfl (fun _ h => absurd h (by simp)) (fun _ h => absurd h (by simp)) (fun _ h => absurd h (by simp)) (fun sz => wk_L_low l _ ν _ Ad Q hI hQ w _ _  _ hv35 D E sz) rfl gw_210 gw_0 gw_208 gw_209 ⟨by decide +kernel, by decide +kernel, by decide +kernel⟩ ⟨rfl, rfl⟩ ⟨Nat.le_of_ble_eq_true rfl, Nat.le_of_ble_eq_true rfl⟩ (Nat.le_of_ble_eq_true rfl) dL_trades_647 ⟨by show (kc ν - kc ν0) + 0 ≤ kc r0.1.1.2 - kc ν0; omega, by show (ks ν - ks ν0) + 0 ≤ ks r0.1.1.2 - ks ν0; omega⟩ (fun r u hp hx => ?_)
  obtain ⟨er, rfl⟩ := hp
  rw [er]
  try dsimp only [List.append_nil]
  refine g_istore (lv' := [(20, .int v35), (0, .ref (Q 0)), (4, .ref (Q 1)), (5, .ref (Q 2)), (6, .ref (Q 3)), (7, .ref (Q 4)), (8, .ref (Q 5)), (9, .ref (Q 8)), (10, .ref (Q 9)), (11, .ref (Q 10)), (12, .ref (Q 11)), (13, .ref (Q 12)), (14, .ref (Q 13)), (15, .ref (Q 14)), (16, .int x16), (18, .int x18), (19, .int x19)]) C dL_trades_650 (by decide) rfl ?_
  refine g_aload_n C dL_trades_652 rfl 1 rfl ?_
  refine g_iconst (v := (3 : Int32)) C dL_trades_653 (by decide) ?_
  refine g_iload C dL_trades_654 15 rfl ?_
  refine g_iconst (v := (0 : Int32)) C dL_trades_656 (by decide) ?_
  refine g_iconst (v := (0 : Int32)) C dL_trades_657 (by decide) ?_
  obtain ⟨v36, hv36, h⟩ := bind_of h
  have m2 := m_L_quote hv36
  have m3 := mb_L_trades_661  h
  have a1 := hm0.2.1; have a2 := hm0.2.2.1; have b1 := m2.2.1; have b2 := m2.2.2.1; have d1 := m3.2.1; have d2 := m3.2.2.1
  refine g_cSh (n := 5) (exr := []) C hEv hN ⟨hp0.2.1 0, hp0.2.2 0⟩ [_, _, _, _, _] _ rfl rfl [] rfl rfl (fun sz => wc_L_quote l hl B _ ν _ Ad Q hI hQ w _ _ _ _ _ hv36 D E sz) rfl gh_quote gw_0 gw_1173 gw_1174 ⟨by decide +kernel, by decide +kernel, by decide +kernel⟩ ⟨rfl, rfl⟩ ⟨Nat.le_of_ble_eq_true rfl, Nat.le_of_ble_eq_true rfl⟩ (Nat.le_of_ble_eq_true rfl) dL_trades_658 ⟨by show (kc ν - kc ν0) + (kc v36.1.2 - kc ν) ≤ kc r0.1.1.2 - kc ν0; omega, by show (ks ν - ks ν0) + (ks v36.1.2 - ks ν) ≤ ks r0.1.1.2 - ks ν0; omega⟩ (fun r u hp hx => ?_)
  obtain ⟨er, A1, rfl, hkp⟩ := hp
  rw [er]
  try dsimp only [List.append_nil]
  refine g_widen (k := kc v36.1.2 - kc ν0) (n := ks v36.1.2 - ks ν0) (by omega) (by omega) ?_
  refine g_lv [1, 2, 3, 4, 5, 6, 7, 8, 9, 10, 11, 12, 13, 14, 15, 16, 0] rfl ?_
  exact lb_L_trades_661 hl C hEv hN hr hz hI0 hQ0 (mn_trans hm0 m2) (kp_trans hp0 hm0 hkp)  h
noncomputable def b_L_trades_501  (w : Nat) (μ : MP) (ν : NC) (a : AS)  (s0 : Int32) : Option (((MP × NC) × AS) × Int32) := (if s0 = (-7300 : Int32) then (some (((μ, ν), a), (1 : Int32))) else (some (((μ, ν), a), (0 : Int32))))
theorem mb_L_trades_501 {w : Nat} {μ : MP} {ν : NC} {a : AS}  {s0 : Int32} {r0 : ((MP × NC) × AS) × Int32}   (h : b_L_trades_501  w μ ν a  s0 = some r0) : mn ν r0.1.1.2 := by
  unfold b_L_trades_501 at h
  by_cases c504 : s0 = (-7300 : Int32)
  · replace h := (if_pos c504).symm.trans h
    obtain rfl := Option.some.inj h
    exact mn_rfl _
  · replace h := (if_neg c504).symm.trans h
    obtain rfl := Option.some.inj h
    exact mn_rfl _
set_option maxHeartbeats 4000000 in
set_option maxRecDepth 100000 in
theorem lb_L_trades_501 {p : Program} {l : Launch} (hl : l.stackTraces = false) {e : Env} {s : State} {m : MethodId} {args : Array Value} {below : List Frame} {meth : Method} {c : Code} {D : va_G} {E : Nat → ClassId} {sz : Nat} {μ0 : MP} {ν0 : NC} {a0 : AS} {Ad0 : Nat → Nat → Nat} {Q : Nat → Nat} {B : Nat × (Nat → Nat)} {w : Nat} {r0 : ((MP × NC) × AS) × Int32} (C : cx p s m args meth c D E (Aof (zS μ0 ν0 a0 Ad0) [] s.heap.size) cL_trades 27 "TradeLineLaw") (hEv : eV (Ad0 30 0) (Ad0 31 0) B (Aof (zS μ0 ν0 a0 Ad0) [] s.heap.size) s s.heap) (hN : vN s) (hr : meth.sig.returnType = (some .boolean)) (hz : s.heap.size = sz) (hI0 : lwI ν0) (hQ0 : lwQ Ad0 Q) {μ : MP} {ν : NC} {a : AS} {Ad : Nat → Nat → Nat} (hm0 : mn ν0 ν) (hp0 : kp ν0 Ad0 Ad)  {s0 : Int32}   (h : b_L_trades_501  w μ ν a  s0 = some r0) : G p l e ({ frames := 11, cells := kc r0.1.1.2 - kc ν0, slots := ks r0.1.1.2 - ks ν0, locals := 325 } : Room) s m args below meth c D E (Aof (zS μ0 ν0 a0 Ad0) [] s.heap.size) 27 (MQ below (cQ D E sz (zS μ0 ν0 a0 Ad0) [] (pI (fun r u => r = r0.2 ∧ ∃ A1, u = (zS r0.1.1.1 r0.1.1.2 r0.1.2 A1, []) ∧ kp ν0 Ad0 A1))) args s (kc r0.1.1.2 - kc ν0) (ks r0.1.1.2 - ks ν0) (Aof (zS μ0 ν0 a0 Ad0) [] s.heap.size)) (zS μ ν a Ad) [] (kc ν - kc ν0) (ks ν - ks ν0) 501 [] [.int s0] := by
  have m0 := mb_L_trades_501  h
  have e1 := m0.2.1; have e2 := m0.2.2.1; have e3 := hm0.2.1; have e4 := hm0.2.2.1
  have hI := lwI_mn hI0 hm0; have hQ := lwQ_kp hI0 hp0 hQ0
  unfold b_L_trades_501 at h
  refine g_sipush (v := (-7300 : Int32)) C dL_trades_501 (by decide) ?_
  refine g_icmp_ne (tgt := 511) C dL_trades_504 (by decide) (fun c504 => ?_) (fun c504 => ?_)
  · replace h := (if_neg c504).symm.trans h
    refine g_iconst (v := (0 : Int32)) C dL_trades_511 (by decide) ?_
    obtain rfl := Option.some.inj h
    exact g_iret C hr rfl hz ⟨(hm0.2.2.2 30 (by decide) (by decide)).1, (hm0.2.2.2 31 (by decide) (by decide)).1, hp0.2.1, hp0.2.2⟩ ⟨rfl, Ad, rfl, hp0⟩ (fun j x h => by simp at h) dL_trades_512
  · replace h := (if_pos c504).symm.trans h
    refine g_iconst (v := (1 : Int32)) C dL_trades_507 (by decide) ?_
    refine g_goto (tgt := 512) C dL_trades_508 (by decide) ?_
    obtain rfl := Option.some.inj h
    exact g_iret C hr rfl hz ⟨(hm0.2.2.2 30 (by decide) (by decide)).1, (hm0.2.2.2 31 (by decide) (by decide)).1, hp0.2.1, hp0.2.2⟩ ⟨rfl, Ad, rfl, hp0⟩ (fun j x h => by simp at h) dL_trades_512
noncomputable def b_L_trades_477  (w : Nat) (μ : MP) (ν : NC) (a : AS)  (s0 : Int32) : Option (((MP × NC) × AS) × Int32) := (if s0 = (-7300 : Int32) then (some (((μ, ν), a), (1 : Int32))) else (some (((μ, ν), a), (0 : Int32))))
theorem mb_L_trades_477 {w : Nat} {μ : MP} {ν : NC} {a : AS}  {s0 : Int32} {r0 : ((MP × NC) × AS) × Int32}   (h : b_L_trades_477  w μ ν a  s0 = some r0) : mn ν r0.1.1.2 := by
  unfold b_L_trades_477 at h
  by_cases c480 : s0 = (-7300 : Int32)
  · replace h := (if_pos c480).symm.trans h
    obtain rfl := Option.some.inj h
    exact mn_rfl _
  · replace h := (if_neg c480).symm.trans h
    obtain rfl := Option.some.inj h
    exact mn_rfl _
set_option maxHeartbeats 4000000 in
set_option maxRecDepth 100000 in
theorem lb_L_trades_477 {p : Program} {l : Launch} (hl : l.stackTraces = false) {e : Env} {s : State} {m : MethodId} {args : Array Value} {below : List Frame} {meth : Method} {c : Code} {D : va_G} {E : Nat → ClassId} {sz : Nat} {μ0 : MP} {ν0 : NC} {a0 : AS} {Ad0 : Nat → Nat → Nat} {Q : Nat → Nat} {B : Nat × (Nat → Nat)} {w : Nat} {r0 : ((MP × NC) × AS) × Int32} (C : cx p s m args meth c D E (Aof (zS μ0 ν0 a0 Ad0) [] s.heap.size) cL_trades 27 "TradeLineLaw") (hEv : eV (Ad0 30 0) (Ad0 31 0) B (Aof (zS μ0 ν0 a0 Ad0) [] s.heap.size) s s.heap) (hN : vN s) (hr : meth.sig.returnType = (some .boolean)) (hz : s.heap.size = sz) (hI0 : lwI ν0) (hQ0 : lwQ Ad0 Q) {μ : MP} {ν : NC} {a : AS} {Ad : Nat → Nat → Nat} (hm0 : mn ν0 ν) (hp0 : kp ν0 Ad0 Ad)  {s0 : Int32}   (h : b_L_trades_477  w μ ν a  s0 = some r0) : G p l e ({ frames := 11, cells := kc r0.1.1.2 - kc ν0, slots := ks r0.1.1.2 - ks ν0, locals := 325 } : Room) s m args below meth c D E (Aof (zS μ0 ν0 a0 Ad0) [] s.heap.size) 27 (MQ below (cQ D E sz (zS μ0 ν0 a0 Ad0) [] (pI (fun r u => r = r0.2 ∧ ∃ A1, u = (zS r0.1.1.1 r0.1.1.2 r0.1.2 A1, []) ∧ kp ν0 Ad0 A1))) args s (kc r0.1.1.2 - kc ν0) (ks r0.1.1.2 - ks ν0) (Aof (zS μ0 ν0 a0 Ad0) [] s.heap.size)) (zS μ ν a Ad) [] (kc ν - kc ν0) (ks ν - ks ν0) 477 [] [.int s0] := by
  have m0 := mb_L_trades_477  h
  have e1 := m0.2.1; have e2 := m0.2.2.1; have e3 := hm0.2.1; have e4 := hm0.2.2.1
  have hI := lwI_mn hI0 hm0; have hQ := lwQ_kp hI0 hp0 hQ0
  unfold b_L_trades_477 at h
  refine g_sipush (v := (-7300 : Int32)) C dL_trades_477 (by decide) ?_
  refine g_icmp_ne (tgt := 487) C dL_trades_480 (by decide) (fun c480 => ?_) (fun c480 => ?_)
  · replace h := (if_neg c480).symm.trans h
    refine g_iconst (v := (0 : Int32)) C dL_trades_487 (by decide) ?_
    refine g_goto (tgt := 512) C dL_trades_488 (by decide) ?_
    obtain rfl := Option.some.inj h
    exact g_iret C hr rfl hz ⟨(hm0.2.2.2 30 (by decide) (by decide)).1, (hm0.2.2.2 31 (by decide) (by decide)).1, hp0.2.1, hp0.2.2⟩ ⟨rfl, Ad, rfl, hp0⟩ (fun j x h => by simp at h) dL_trades_512
  · replace h := (if_pos c480).symm.trans h
    refine g_iconst (v := (1 : Int32)) C dL_trades_483 (by decide) ?_
    refine g_goto (tgt := 512) C dL_trades_484 (by decide) ?_
    obtain rfl := Option.some.inj h
    exact g_iret C hr rfl hz ⟨(hm0.2.2.2 30 (by decide) (by decide)).1, (hm0.2.2.2 31 (by decide) (by decide)).1, hp0.2.1, hp0.2.2⟩ ⟨rfl, Ad, rfl, hp0⟩ (fun j x h => by simp at h) dL_trades_512
noncomputable def b_L_trades_466  (w : Nat) (μ : MP) (ν : NC) (a : AS) (x1 : Int32) (x16 : Int32) (x17 : Int32) (x19 : Int32)  : Option (((MP × NC) × AS) × Int32) := (if x1 = (3 : Int32) then ((f_L_cancel w μ ν x19).bind (fun v65 => b_L_trades_477  w v65.1.1 v65.1.2 a v65.2)) else ((f_L_replace w μ ν x19 x16 x17).bind (fun v64 => b_L_trades_501  w v64.1.1 v64.1.2 a v64.2)))
theorem mb_L_trades_466 {w : Nat} {μ : MP} {ν : NC} {a : AS} {x1 : Int32} {x16 : Int32} {x17 : Int32} {x19 : Int32}  {r0 : ((MP × NC) × AS) × Int32}   (h : b_L_trades_466  w μ ν a x1 x16 x17 x19  = some r0) : mn ν r0.1.1.2 := by
  unfold b_L_trades_466 at h
  by_cases c468 : x1 = (3 : Int32)
  · replace h := (if_pos c468).symm.trans h
    obtain ⟨v65, hv65, h⟩ := bind_of h
    exact mn_trans (m_L_cancel hv65) (mb_L_trades_477  h)
  · replace h := (if_neg c468).symm.trans h
    obtain ⟨v64, hv64, h⟩ := bind_of h
    exact mn_trans (m_L_replace hv64) (mb_L_trades_501  h)
set_option maxHeartbeats 4000000 in
set_option maxRecDepth 100000 in
theorem lb_L_trades_466 {p : Program} {l : Launch} (hl : l.stackTraces = false) {e : Env} {s : State} {m : MethodId} {args : Array Value} {below : List Frame} {meth : Method} {c : Code} {D : va_G} {E : Nat → ClassId} {sz : Nat} {μ0 : MP} {ν0 : NC} {a0 : AS} {Ad0 : Nat → Nat → Nat} {Q : Nat → Nat} {B : Nat × (Nat → Nat)} {w : Nat} {r0 : ((MP × NC) × AS) × Int32} (C : cx p s m args meth c D E (Aof (zS μ0 ν0 a0 Ad0) [] s.heap.size) cL_trades 27 "TradeLineLaw") (hEv : eV (Ad0 30 0) (Ad0 31 0) B (Aof (zS μ0 ν0 a0 Ad0) [] s.heap.size) s s.heap) (hN : vN s) (hr : meth.sig.returnType = (some .boolean)) (hz : s.heap.size = sz) (hI0 : lwI ν0) (hQ0 : lwQ Ad0 Q) {μ : MP} {ν : NC} {a : AS} {Ad : Nat → Nat → Nat} (hm0 : mn ν0 ν) (hp0 : kp ν0 Ad0 Ad) {x1 : Int32} {x16 : Int32} {x17 : Int32} {x19 : Int32}    (h : b_L_trades_466  w μ ν a x1 x16 x17 x19  = some r0) : G p l e ({ frames := 11, cells := kc r0.1.1.2 - kc ν0, slots := ks r0.1.1.2 - ks ν0, locals := 325 } : Room) s m args below meth c D E (Aof (zS μ0 ν0 a0 Ad0) [] s.heap.size) 27 (MQ below (cQ D E sz (zS μ0 ν0 a0 Ad0) [] (pI (fun r u => r = r0.2 ∧ ∃ A1, u = (zS r0.1.1.1 r0.1.1.2 r0.1.2 A1, []) ∧ kp ν0 Ad0 A1))) args s (kc r0.1.1.2 - kc ν0) (ks r0.1.1.2 - ks ν0) (Aof (zS μ0 ν0 a0 Ad0) [] s.heap.size)) (zS μ ν a Ad) [] (kc ν - kc ν0) (ks ν - ks ν0) 466 [(0, .ref (Q 0)), (1, .int x1), (16, .int x16), (17, .int x17), (19, .int x19)] [] := by
  have m0 := mb_L_trades_466  h
  have e1 := m0.2.1; have e2 := m0.2.2.1; have e3 := hm0.2.1; have e4 := hm0.2.2.1
  have hI := lwI_mn hI0 hm0; have hQ := lwQ_kp hI0 hp0 hQ0
  unfold b_L_trades_466 at h
  refine g_iload_n C dL_trades_466 rfl 1 rfl ?_
  refine g_iconst (v := (3 : Int32)) C dL_trades_467 (by decide) ?_
  refine g_icmp_ne (tgt := 491) C dL_trades_468 (by decide) (fun c468 => ?_) (fun c468 => ?_)
  · replace h := (if_neg c468).symm.trans h
    refine g_aload_n C dL_trades_491 rfl 0 rfl ?_
    refine g_iload C dL_trades_492 4 rfl ?_
    refine g_iload C dL_trades_494 2 rfl ?_
    refine g_iload C dL_trades_496 3 rfl ?_
    obtain ⟨v64, hv64, h⟩ := bind_of h
    have m2 := m_L_replace hv64
    have m3 := mb_L_trades_501  h
    have a1 := hm0.2.1; have a2 := hm0.2.2.1; have b1 := m2.2.1; have b2 := m2.2.2.1; have d1 := m3.2.1; have d2 := m3.2.2.1
    refine g_cSh (n := 4) (exr := []) C hEv hN ⟨hp0.2.1 0, hp0.2.2 0⟩ [_, _, _, _] _ rfl rfl [] rfl rfl (fun sz => wc_L_replace l hl B _ ν _ Ad Q hI hQ w _ _ _ _ hv64 D E sz) rfl gh_replace gw_0 gw_1166 gw_1167 ⟨by decide +kernel, by decide +kernel, by decide +kernel⟩ ⟨rfl, rfl⟩ ⟨Nat.le_of_ble_eq_true rfl, Nat.le_of_ble_eq_true rfl⟩ (Nat.le_of_ble_eq_true rfl) dL_trades_498 ⟨by show (kc ν - kc ν0) + (kc v64.1.2 - kc ν) ≤ kc r0.1.1.2 - kc ν0; omega, by show (ks ν - ks ν0) + (ks v64.1.2 - ks ν) ≤ ks r0.1.1.2 - ks ν0; omega⟩ (fun r u hp hx => ?_)
    obtain ⟨er, A1, rfl, hkp⟩ := hp
    rw [er]
    try dsimp only [List.append_nil]
    refine g_widen (k := kc v64.1.2 - kc ν0) (n := ks v64.1.2 - ks ν0) (by omega) (by omega) ?_
    refine g_lv [] rfl ?_
    exact lb_L_trades_501 hl C hEv hN hr hz hI0 hQ0 (mn_trans hm0 m2) (kp_trans hp0 hm0 hkp)  h
  · replace h := (if_pos c468).symm.trans h
    refine g_aload_n C dL_trades_471 rfl 0 rfl ?_
    refine g_iload C dL_trades_472 4 rfl ?_
    obtain ⟨v65, hv65, h⟩ := bind_of h
    have m2 := m_L_cancel hv65
    have m3 := mb_L_trades_477  h
    have a1 := hm0.2.1; have a2 := hm0.2.2.1; have b1 := m2.2.1; have b2 := m2.2.2.1; have d1 := m3.2.1; have d2 := m3.2.2.1
    refine g_cSh (n := 2) (exr := []) C hEv hN ⟨hp0.2.1 0, hp0.2.2 0⟩ [_, _] _ rfl rfl [] rfl rfl (fun sz => wc_L_cancel l hl B _ ν _ Ad Q hI hQ w _ _ hv65 D E sz) rfl gh_cancel gw_0 gw_1145 gw_1146 ⟨by decide +kernel, by decide +kernel, by decide +kernel⟩ ⟨rfl, rfl⟩ ⟨Nat.le_of_ble_eq_true rfl, Nat.le_of_ble_eq_true rfl⟩ (Nat.le_of_ble_eq_true rfl) dL_trades_474 ⟨by show (kc ν - kc ν0) + (kc v65.1.2 - kc ν) ≤ kc r0.1.1.2 - kc ν0; omega, by show (ks ν - ks ν0) + (ks v65.1.2 - ks ν) ≤ ks r0.1.1.2 - ks ν0; omega⟩ (fun r u hp hx => ?_)
    obtain ⟨er, A1, rfl, hkp⟩ := hp
    rw [er]
    try dsimp only [List.append_nil]
    refine g_widen (k := kc v65.1.2 - kc ν0) (n := ks v65.1.2 - ks ν0) (by omega) (by omega) ?_
    refine g_lv [] rfl ?_
    exact lb_L_trades_477 hl C hEv hN hr hz hI0 hQ0 (mn_trans hm0 m2) (kp_trans hp0 hm0 hkp)  h
noncomputable def b_L_trades_599  (w : Nat) (μ : MP) (ν : NC) (a : AS) (x19 : Int32) (s0 : Int32) : Option (((MP × NC) × AS) × Int32) := bif ixB x19 10 then (if s0 = (((a 12 x19.toNatClampNeg) >>> ((4 : Int32) &&& 31)) &&& (7 : Int32)) then (some (((μ, ν), a), (1 : Int32))) else (some (((μ, ν), a), (0 : Int32)))) else none
theorem mb_L_trades_599 {w : Nat} {μ : MP} {ν : NC} {a : AS} {x19 : Int32} {s0 : Int32} {r0 : ((MP × NC) × AS) × Int32}   (h : b_L_trades_599  w μ ν a x19 s0 = some r0) : mn ν r0.1.1.2 := by
  unfold b_L_trades_599 at h
  replace h := (of_guard h).2
  by_cases c609 : s0 = (((a 12 x19.toNatClampNeg) >>> ((4 : Int32) &&& 31)) &&& (7 : Int32))
  · replace h := (if_pos c609).symm.trans h
    obtain rfl := Option.some.inj h
    exact mn_rfl _
  · replace h := (if_neg c609).symm.trans h
    obtain rfl := Option.some.inj h
    exact mn_rfl _
set_option maxHeartbeats 4000000 in
set_option maxRecDepth 100000 in
theorem lb_L_trades_599 {p : Program} {l : Launch} (hl : l.stackTraces = false) {e : Env} {s : State} {m : MethodId} {args : Array Value} {below : List Frame} {meth : Method} {c : Code} {D : va_G} {E : Nat → ClassId} {sz : Nat} {μ0 : MP} {ν0 : NC} {a0 : AS} {Ad0 : Nat → Nat → Nat} {Q : Nat → Nat} {B : Nat × (Nat → Nat)} {w : Nat} {r0 : ((MP × NC) × AS) × Int32} (C : cx p s m args meth c D E (Aof (zS μ0 ν0 a0 Ad0) [] s.heap.size) cL_trades 27 "TradeLineLaw") (hEv : eV (Ad0 30 0) (Ad0 31 0) B (Aof (zS μ0 ν0 a0 Ad0) [] s.heap.size) s s.heap) (hN : vN s) (hr : meth.sig.returnType = (some .boolean)) (hz : s.heap.size = sz) (hI0 : lwI ν0) (hQ0 : lwQ Ad0 Q) {μ : MP} {ν : NC} {a : AS} {Ad : Nat → Nat → Nat} (hm0 : mn ν0 ν) (hp0 : kp ν0 Ad0 Ad) {x19 : Int32} {s0 : Int32}   (h : b_L_trades_599  w μ ν a x19 s0 = some r0) : G p l e ({ frames := 11, cells := kc r0.1.1.2 - kc ν0, slots := ks r0.1.1.2 - ks ν0, locals := 325 } : Room) s m args below meth c D E (Aof (zS μ0 ν0 a0 Ad0) [] s.heap.size) 27 (MQ below (cQ D E sz (zS μ0 ν0 a0 Ad0) [] (pI (fun r u => r = r0.2 ∧ ∃ A1, u = (zS r0.1.1.1 r0.1.1.2 r0.1.2 A1, []) ∧ kp ν0 Ad0 A1))) args s (kc r0.1.1.2 - kc ν0) (ks r0.1.1.2 - ks ν0) (Aof (zS μ0 ν0 a0 Ad0) [] s.heap.size)) (zS μ ν a Ad) [] (kc ν - kc ν0) (ks ν - ks ν0) 599 [(13, .ref (Q 12)), (19, .int x19)] [.int s0] := by
  have m0 := mb_L_trades_599  h
  have e1 := m0.2.1; have e2 := m0.2.2.1; have e3 := hm0.2.1; have e4 := hm0.2.2.1
  have hI := lwI_mn hI0 hm0; have hQ := lwQ_kp hI0 hp0 hQ0
  unfold b_L_trades_599 at h
  refine g_aload C dL_trades_599 0 rfl ?_
  refine g_iload C dL_trades_601 1 rfl ?_
  obtain ⟨g70, h⟩ := of_guard h
  refine q_iald C (show rsh (ν.1, μ.2, ν.2, Ad) from hI.2) (j := 12) (N := 10) (by decide) (lwQ_i hQ (j := 12) (N := 10) (by decide)) g70 dL_trades_603 ?_
  refine g_iconst (v := (4 : Int32)) C dL_trades_604 (by decide) ?_
  refine g_ishr C dL_trades_605 ?_
  refine g_bipush (v := (7 : Int32)) C dL_trades_606 (by decide) ?_
  refine g_iand C dL_trades_608 ?_
  refine g_icmp_ne (tgt := 616) C dL_trades_609 (by decide) (fun c609 => ?_) (fun c609 => ?_)
  · replace h := (if_neg c609).symm.trans h
    refine g_iconst (v := (0 : Int32)) C dL_trades_616 (by decide) ?_
    obtain rfl := Option.some.inj h
    exact g_iret C hr rfl hz ⟨(hm0.2.2.2 30 (by decide) (by decide)).1, (hm0.2.2.2 31 (by decide) (by decide)).1, hp0.2.1, hp0.2.2⟩ ⟨rfl, Ad, rfl, hp0⟩ (fun j x h => by simp at h) dL_trades_617
  · replace h := (if_pos c609).symm.trans h
    refine g_iconst (v := (1 : Int32)) C dL_trades_612 (by decide) ?_
    refine g_goto (tgt := 617) C dL_trades_613 (by decide) ?_
    obtain rfl := Option.some.inj h
    exact g_iret C hr rfl hz ⟨(hm0.2.2.2 30 (by decide) (by decide)).1, (hm0.2.2.2 31 (by decide) (by decide)).1, hp0.2.1, hp0.2.2⟩ ⟨rfl, Ad, rfl, hp0⟩ (fun j x h => by simp at h) dL_trades_617
noncomputable def b_L_trades_586  (w : Nat) (μ : MP) (ν : NC) (a : AS) (x19 : Int32) (s0 : Int32) : Option (((MP × NC) × AS) × Int32) := b_L_trades_599  w μ ν a x19 s0
theorem mb_L_trades_586 {w : Nat} {μ : MP} {ν : NC} {a : AS} {x19 : Int32} {s0 : Int32} {r0 : ((MP × NC) × AS) × Int32}   (h : b_L_trades_586  w μ ν a x19 s0 = some r0) : mn ν r0.1.1.2 := by
  unfold b_L_trades_586 at h
  exact mb_L_trades_599  h
set_option maxHeartbeats 4000000 in
set_option maxRecDepth 100000 in
theorem lb_L_trades_586 {p : Program} {l : Launch} (hl : l.stackTraces = false) {e : Env} {s : State} {m : MethodId} {args : Array Value} {below : List Frame} {meth : Method} {c : Code} {D : va_G} {E : Nat → ClassId} {sz : Nat} {μ0 : MP} {ν0 : NC} {a0 : AS} {Ad0 : Nat → Nat → Nat} {Q : Nat → Nat} {B : Nat × (Nat → Nat)} {w : Nat} {r0 : ((MP × NC) × AS) × Int32} (C : cx p s m args meth c D E (Aof (zS μ0 ν0 a0 Ad0) [] s.heap.size) cL_trades 27 "TradeLineLaw") (hEv : eV (Ad0 30 0) (Ad0 31 0) B (Aof (zS μ0 ν0 a0 Ad0) [] s.heap.size) s s.heap) (hN : vN s) (hr : meth.sig.returnType = (some .boolean)) (hz : s.heap.size = sz) (hI0 : lwI ν0) (hQ0 : lwQ Ad0 Q) {μ : MP} {ν : NC} {a : AS} {Ad : Nat → Nat → Nat} (hm0 : mn ν0 ν) (hp0 : kp ν0 Ad0 Ad) {x19 : Int32} {s0 : Int32}   (h : b_L_trades_586  w μ ν a x19 s0 = some r0) : G p l e ({ frames := 11, cells := kc r0.1.1.2 - kc ν0, slots := ks r0.1.1.2 - ks ν0, locals := 325 } : Room) s m args below meth c D E (Aof (zS μ0 ν0 a0 Ad0) [] s.heap.size) 27 (MQ below (cQ D E sz (zS μ0 ν0 a0 Ad0) [] (pI (fun r u => r = r0.2 ∧ ∃ A1, u = (zS r0.1.1.1 r0.1.1.2 r0.1.2 A1, []) ∧ kp ν0 Ad0 A1))) args s (kc r0.1.1.2 - kc ν0) (ks r0.1.1.2 - ks ν0) (Aof (zS μ0 ν0 a0 Ad0) [] s.heap.size)) (zS μ ν a Ad) [] (kc ν - kc ν0) (ks ν - ks ν0) 586 [(13, .ref (Q 12)), (19, .int x19)] [.int s0] := by
  have m0 := mb_L_trades_586  h
  have e1 := m0.2.1; have e2 := m0.2.2.1; have e3 := hm0.2.1; have e4 := hm0.2.2.1
  have hI := lwI_mn hI0 hm0; have hQ := lwQ_kp hI0 hp0 hQ0
  unfold b_L_trades_586 at h
  refine g_goto (tgt := 599) C dL_trades_586 (by decide) ?_
  refine g_lv [0, 1] rfl ?_
  exact lb_L_trades_599 hl C hEv hN hr hz hI0 hQ0 hm0 hp0  h
noncomputable def b_L_trades_575  (w : Nat) (μ : MP) (ν : NC) (a : AS) (x1 : Int32) (x16 : Int32) (x17 : Int32) (x19 : Int32)  : Option (((MP × NC) × AS) × Int32) := (if x1 = (3 : Int32) then ((f_L_cancel w μ ν x19).bind (fun v71 => b_L_trades_586  w v71.1.1 v71.1.2 a x19 v71.2)) else ((f_L_replace w μ ν x19 x16 x17).bind (fun v69 => b_L_trades_599  w v69.1.1 v69.1.2 a x19 v69.2)))
theorem mb_L_trades_575 {w : Nat} {μ : MP} {ν : NC} {a : AS} {x1 : Int32} {x16 : Int32} {x17 : Int32} {x19 : Int32}  {r0 : ((MP × NC) × AS) × Int32}   (h : b_L_trades_575  w μ ν a x1 x16 x17 x19  = some r0) : mn ν r0.1.1.2 := by
  unfold b_L_trades_575 at h
  by_cases c577 : x1 = (3 : Int32)
  · replace h := (if_pos c577).symm.trans h
    obtain ⟨v71, hv71, h⟩ := bind_of h
    exact mn_trans (m_L_cancel hv71) (mb_L_trades_586  h)
  · replace h := (if_neg c577).symm.trans h
    obtain ⟨v69, hv69, h⟩ := bind_of h
    exact mn_trans (m_L_replace hv69) (mb_L_trades_599  h)
set_option maxHeartbeats 4000000 in
set_option maxRecDepth 100000 in
theorem lb_L_trades_575 {p : Program} {l : Launch} (hl : l.stackTraces = false) {e : Env} {s : State} {m : MethodId} {args : Array Value} {below : List Frame} {meth : Method} {c : Code} {D : va_G} {E : Nat → ClassId} {sz : Nat} {μ0 : MP} {ν0 : NC} {a0 : AS} {Ad0 : Nat → Nat → Nat} {Q : Nat → Nat} {B : Nat × (Nat → Nat)} {w : Nat} {r0 : ((MP × NC) × AS) × Int32} (C : cx p s m args meth c D E (Aof (zS μ0 ν0 a0 Ad0) [] s.heap.size) cL_trades 27 "TradeLineLaw") (hEv : eV (Ad0 30 0) (Ad0 31 0) B (Aof (zS μ0 ν0 a0 Ad0) [] s.heap.size) s s.heap) (hN : vN s) (hr : meth.sig.returnType = (some .boolean)) (hz : s.heap.size = sz) (hI0 : lwI ν0) (hQ0 : lwQ Ad0 Q) {μ : MP} {ν : NC} {a : AS} {Ad : Nat → Nat → Nat} (hm0 : mn ν0 ν) (hp0 : kp ν0 Ad0 Ad) {x1 : Int32} {x16 : Int32} {x17 : Int32} {x19 : Int32}    (h : b_L_trades_575  w μ ν a x1 x16 x17 x19  = some r0) : G p l e ({ frames := 11, cells := kc r0.1.1.2 - kc ν0, slots := ks r0.1.1.2 - ks ν0, locals := 325 } : Room) s m args below meth c D E (Aof (zS μ0 ν0 a0 Ad0) [] s.heap.size) 27 (MQ below (cQ D E sz (zS μ0 ν0 a0 Ad0) [] (pI (fun r u => r = r0.2 ∧ ∃ A1, u = (zS r0.1.1.1 r0.1.1.2 r0.1.2 A1, []) ∧ kp ν0 Ad0 A1))) args s (kc r0.1.1.2 - kc ν0) (ks r0.1.1.2 - ks ν0) (Aof (zS μ0 ν0 a0 Ad0) [] s.heap.size)) (zS μ ν a Ad) [] (kc ν - kc ν0) (ks ν - ks ν0) 575 [(0, .ref (Q 0)), (1, .int x1), (13, .ref (Q 12)), (16, .int x16), (17, .int x17), (19, .int x19)] [] := by
  have m0 := mb_L_trades_575  h
  have e1 := m0.2.1; have e2 := m0.2.2.1; have e3 := hm0.2.1; have e4 := hm0.2.2.1
  have hI := lwI_mn hI0 hm0; have hQ := lwQ_kp hI0 hp0 hQ0
  unfold b_L_trades_575 at h
  refine g_iload_n C dL_trades_575 rfl 1 rfl ?_
  refine g_iconst (v := (3 : Int32)) C dL_trades_576 (by decide) ?_
  refine g_icmp_ne (tgt := 589) C dL_trades_577 (by decide) (fun c577 => ?_) (fun c577 => ?_)
  · replace h := (if_neg c577).symm.trans h
    refine g_aload_n C dL_trades_589 rfl 0 rfl ?_
    refine g_iload C dL_trades_590 5 rfl ?_
    refine g_iload C dL_trades_592 3 rfl ?_
    refine g_iload C dL_trades_594 4 rfl ?_
    obtain ⟨v69, hv69, h⟩ := bind_of h
    have m2 := m_L_replace hv69
    have m3 := mb_L_trades_599  h
    have a1 := hm0.2.1; have a2 := hm0.2.2.1; have b1 := m2.2.1; have b2 := m2.2.2.1; have d1 := m3.2.1; have d2 := m3.2.2.1
    refine g_cSh (n := 4) (exr := []) C hEv hN ⟨hp0.2.1 0, hp0.2.2 0⟩ [_, _, _, _] _ rfl rfl [] rfl rfl (fun sz => wc_L_replace l hl B _ ν _ Ad Q hI hQ w _ _ _ _ hv69 D E sz) rfl gh_replace gw_0 gw_1166 gw_1167 ⟨by decide +kernel, by decide +kernel, by decide +kernel⟩ ⟨rfl, rfl⟩ ⟨Nat.le_of_ble_eq_true rfl, Nat.le_of_ble_eq_true rfl⟩ (Nat.le_of_ble_eq_true rfl) dL_trades_596 ⟨by show (kc ν - kc ν0) + (kc v69.1.2 - kc ν) ≤ kc r0.1.1.2 - kc ν0; omega, by show (ks ν - ks ν0) + (ks v69.1.2 - ks ν) ≤ ks r0.1.1.2 - ks ν0; omega⟩ (fun r u hp hx => ?_)
    obtain ⟨er, A1, rfl, hkp⟩ := hp
    rw [er]
    try dsimp only [List.append_nil]
    refine g_widen (k := kc v69.1.2 - kc ν0) (n := ks v69.1.2 - ks ν0) (by omega) (by omega) ?_
    refine g_lv [2, 5] rfl ?_
    exact lb_L_trades_599 hl C hEv hN hr hz hI0 hQ0 (mn_trans hm0 m2) (kp_trans hp0 hm0 hkp)  h
  · replace h := (if_pos c577).symm.trans h
    refine g_aload_n C dL_trades_580 rfl 0 rfl ?_
    refine g_iload C dL_trades_581 5 rfl ?_
    obtain ⟨v71, hv71, h⟩ := bind_of h
    have m2 := m_L_cancel hv71
    have m3 := mb_L_trades_586  h
    have a1 := hm0.2.1; have a2 := hm0.2.2.1; have b1 := m2.2.1; have b2 := m2.2.2.1; have d1 := m3.2.1; have d2 := m3.2.2.1
    refine g_cSh (n := 2) (exr := []) C hEv hN ⟨hp0.2.1 0, hp0.2.2 0⟩ [_, _] _ rfl rfl [] rfl rfl (fun sz => wc_L_cancel l hl B _ ν _ Ad Q hI hQ w _ _ hv71 D E sz) rfl gh_cancel gw_0 gw_1145 gw_1146 ⟨by decide +kernel, by decide +kernel, by decide +kernel⟩ ⟨rfl, rfl⟩ ⟨Nat.le_of_ble_eq_true rfl, Nat.le_of_ble_eq_true rfl⟩ (Nat.le_of_ble_eq_true rfl) dL_trades_583 ⟨by show (kc ν - kc ν0) + (kc v71.1.2 - kc ν) ≤ kc r0.1.1.2 - kc ν0; omega, by show (ks ν - ks ν0) + (ks v71.1.2 - ks ν) ≤ ks r0.1.1.2 - ks ν0; omega⟩ (fun r u hp hx => ?_)
    obtain ⟨er, A1, rfl, hkp⟩ := hp
    rw [er]
    try dsimp only [List.append_nil]
    refine g_widen (k := kc v71.1.2 - kc ν0) (n := ks v71.1.2 - ks ν0) (by omega) (by omega) ?_
    refine g_lv [2, 5] rfl ?_
    exact lb_L_trades_586 hl C hEv hN hr hz hI0 hQ0 (mn_trans hm0 m2) (kp_trans hp0 hm0 hkp)  h
noncomputable def b_L_trades_438  (w : Nat) (μ : MP) (ν : NC) (a : AS) (x1 : Int32) (x16 : Int32) (x17 : Int32) (x19 : Int32) (s0 : Int32) : Option (((MP × NC) × AS) × Int32) := bif ixB (2 : Int32) 22 then (if (a 1 (2 : Int32).toNatClampNeg) = (0 : Int32) then (b_L_trades_466  w μ ν a x1 x16 x17 x19) else ((if s0 = (0 : Int32) then (bif ixB x19 10 then (if (((a 12 x19.toNatClampNeg) >>> ((4 : Int32) &&& 31)) &&& (7 : Int32)) = (5 : Int32) then (b_L_trades_466  w μ ν a x1 x16 x17 x19) else (yl (up2 a 12 x19.toNatClampNeg ((a 12 x19.toNatClampNeg) + (16 : Int32))) (fun a67 => (if x1 = (3 : Int32) then ((f_L_send w a67 (0 : Int32) (6 : Int32) x19 (0 : Int32) (0 : Int32) (0 : Int32)).bind (fun v72 => b_L_trades_575  w μ ν v72.1 x1 x16 x17 x19)) else ((f_L_send w a67 (0 : Int32) (7 : Int32) x19 x16 x17 (0 : Int32)).bind (fun v68 => b_L_trades_575  w μ ν v68.1 x1 x16 x17 x19)))))) else none) else (b_L_trades_466  w μ ν a x1 x16 x17 x19)))) else none
theorem mb_L_trades_438 {w : Nat} {μ : MP} {ν : NC} {a : AS} {x1 : Int32} {x16 : Int32} {x17 : Int32} {x19 : Int32} {s0 : Int32} {r0 : ((MP × NC) × AS) × Int32}   (h : b_L_trades_438  w μ ν a x1 x16 x17 x19 s0 = some r0) : mn ν r0.1.1.2 := by
  unfold b_L_trades_438 at h
  replace h := (of_guard h).2
  by_cases c444 : (a 1 (2 : Int32).toNatClampNeg) = (0 : Int32)
  · replace h := (if_pos c444).symm.trans h
    exact mb_L_trades_466  h
  · replace h := (if_neg c444).symm.trans h
    by_cases c449 : s0 = (0 : Int32)
    · replace h := (if_pos c449).symm.trans h
      replace h := (of_guard h).2
      by_cases c463 : (((a 12 x19.toNatClampNeg) >>> ((4 : Int32) &&& 31)) &&& (7 : Int32)) = (5 : Int32)
      · replace h := (if_pos c463).symm.trans h
        exact mb_L_trades_466  h
      · replace h := (if_neg c463).symm.trans h
        obtain ⟨a67, ea67⟩ : ∃ y, up2 a 12 x19.toNatClampNeg ((a 12 x19.toNatClampNeg) + (16 : Int32)) = y := ⟨_, rfl⟩
        replace h := yl_of h ea67
        by_cases c525 : x1 = (3 : Int32)
        · replace h := (if_pos c525).symm.trans h
          obtain ⟨v72, hv72, h⟩ := bind_of h
          exact mb_L_trades_575  h
        · replace h := (if_neg c525).symm.trans h
          obtain ⟨v68, hv68, h⟩ := bind_of h
          exact mb_L_trades_575  h
    · replace h := (if_neg c449).symm.trans h
      exact mb_L_trades_466  h
set_option maxHeartbeats 4000000 in
set_option maxRecDepth 100000 in
theorem lb_L_trades_438 {p : Program} {l : Launch} (hl : l.stackTraces = false) {e : Env} {s : State} {m : MethodId} {args : Array Value} {below : List Frame} {meth : Method} {c : Code} {D : va_G} {E : Nat → ClassId} {sz : Nat} {μ0 : MP} {ν0 : NC} {a0 : AS} {Ad0 : Nat → Nat → Nat} {Q : Nat → Nat} {B : Nat × (Nat → Nat)} {w : Nat} {r0 : ((MP × NC) × AS) × Int32} (C : cx p s m args meth c D E (Aof (zS μ0 ν0 a0 Ad0) [] s.heap.size) cL_trades 27 "TradeLineLaw") (hEv : eV (Ad0 30 0) (Ad0 31 0) B (Aof (zS μ0 ν0 a0 Ad0) [] s.heap.size) s s.heap) (hN : vN s) (hr : meth.sig.returnType = (some .boolean)) (hz : s.heap.size = sz) (hI0 : lwI ν0) (hQ0 : lwQ Ad0 Q) {μ : MP} {ν : NC} {a : AS} {Ad : Nat → Nat → Nat} (hm0 : mn ν0 ν) (hp0 : kp ν0 Ad0 Ad) {x1 : Int32} {x16 : Int32} {x17 : Int32} {x19 : Int32} {s0 : Int32}   (h : b_L_trades_438  w μ ν a x1 x16 x17 x19 s0 = some r0) : G p l e ({ frames := 11, cells := kc r0.1.1.2 - kc ν0, slots := ks r0.1.1.2 - ks ν0, locals := 325 } : Room) s m args below meth c D E (Aof (zS μ0 ν0 a0 Ad0) [] s.heap.size) 27 (MQ below (cQ D E sz (zS μ0 ν0 a0 Ad0) [] (pI (fun r u => r = r0.2 ∧ ∃ A1, u = (zS r0.1.1.1 r0.1.1.2 r0.1.2 A1, []) ∧ kp ν0 Ad0 A1))) args s (kc r0.1.1.2 - kc ν0) (ks r0.1.1.2 - ks ν0) (Aof (zS μ0 ν0 a0 Ad0) [] s.heap.size)) (zS μ ν a Ad) [] (kc ν - kc ν0) (ks ν - ks ν0) 438 [(0, .ref (Q 0)), (1, .int x1), (4, .ref (Q 1)), (5, .ref (Q 2)), (6, .ref (Q 3)), (7, .ref (Q 4)), (8, .ref (Q 5)), (13, .ref (Q 12)), (16, .int x16), (17, .int x17), (19, .int x19)] [.int s0] := by
  have m0 := mb_L_trades_438  h
  have e1 := m0.2.1; have e2 := m0.2.2.1; have e3 := hm0.2.1; have e4 := hm0.2.2.1
  have hI := lwI_mn hI0 hm0; have hQ := lwQ_kp hI0 hp0 hQ0
  unfold b_L_trades_438 at h
  refine g_istore (lv' := [(20, .int s0), (0, .ref (Q 0)), (1, .int x1), (4, .ref (Q 1)), (5, .ref (Q 2)), (6, .ref (Q 3)), (7, .ref (Q 4)), (8, .ref (Q 5)), (13, .ref (Q 12)), (16, .int x16), (17, .int x17), (19, .int x19)]) C dL_trades_438 (by decide) rfl ?_
  refine g_aload C dL_trades_440 3 rfl ?_
  refine g_iconst (v := (2 : Int32)) C dL_trades_442 (by decide) ?_
  obtain ⟨g63, h⟩ := of_guard h
  refine q_iald C (show rsh (ν.1, μ.2, ν.2, Ad) from hI.2) (j := 1) (N := 22) (by decide) (lwQ_i hQ (j := 1) (N := 22) (by decide)) g63 dL_trades_443 ?_
  refine g_if_eq (tgt := 466) C dL_trades_444 (by decide) (fun c444 => ?_) (fun c444 => ?_)
  · replace h := (if_pos c444).symm.trans h
    refine g_lv [1, 2, 9, 10, 11] rfl ?_
    exact lb_L_trades_466 hl C hEv hN hr hz hI0 hQ0 hm0 hp0  h
  · replace h := (if_neg c444).symm.trans h
    refine g_iload C dL_trades_447 0 rfl ?_
    refine g_if_ne (tgt := 466) C dL_trades_449 (by decide) (fun c449 => ?_) (fun c449 => ?_)
    · replace h := (if_neg c449).symm.trans h
      refine g_lv [1, 2, 9, 10, 11] rfl ?_
      exact lb_L_trades_466 hl C hEv hN hr hz hI0 hQ0 hm0 hp0  h
    · replace h := (if_pos c449).symm.trans h
      refine g_aload C dL_trades_452 8 rfl ?_
      refine g_iload C dL_trades_454 11 rfl ?_
      obtain ⟨g66, h⟩ := of_guard h
      refine q_iald C (show rsh (ν.1, μ.2, ν.2, Ad) from hI.2) (j := 12) (N := 10) (by decide) (lwQ_i hQ (j := 12) (N := 10) (by decide)) g66 dL_trades_456 ?_
      refine g_iconst (v := (4 : Int32)) C dL_trades_457 (by decide) ?_
      refine g_ishr C dL_trades_458 ?_
      refine g_bipush (v := (7 : Int32)) C dL_trades_459 (by decide) ?_
      refine g_iand C dL_trades_461 ?_
      refine g_iconst (v := (5 : Int32)) C dL_trades_462 (by decide) ?_
      refine g_icmp_ne (tgt := 513) C dL_trades_463 (by decide) (fun c463 => ?_) (fun c463 => ?_)
      · replace h := (if_neg c463).symm.trans h
        refine g_aload C dL_trades_513 8 rfl ?_
        refine g_iload C dL_trades_515 11 rfl ?_
        refine g_dup2 C dL_trades_517 rfl rfl ?_
        refine q_iald C (show rsh (ν.1, μ.2, ν.2, Ad) from hI.2) (j := 12) (N := 10) (by decide) (lwQ_i hQ (j := 12) (N := 10) (by decide)) g66 dL_trades_518 ?_
        refine g_bipush (v := (16 : Int32)) C dL_trades_519 (by decide) ?_
        refine g_iadd C dL_trades_521 ?_
        refine q_iast C (show rsh (ν.1, μ.2, ν.2, Ad) from hI.2) (j := 12) (N := 10) (by decide) (lwQ_i hQ (j := 12) (N := 10) (by decide)) g66 dL_trades_522 (fun a67 ea67 => ?_)
        replace h := yl_of h ea67
        refine g_iload_n C dL_trades_523 rfl 2 rfl ?_
        refine g_iconst (v := (3 : Int32)) C dL_trades_524 (by decide) ?_
        refine g_icmp_ne (tgt := 552) C dL_trades_525 (by decide) (fun c525 => ?_) (fun c525 => ?_)
        · replace h := (if_neg c525).symm.trans h
          refine g_aload C dL_trades_552 3 rfl ?_
          refine g_aload C dL_trades_554 4 rfl ?_
          refine g_aload C dL_trades_556 5 rfl ?_
          refine g_aload C dL_trades_558 6 rfl ?_
          refine g_aload C dL_trades_560 7 rfl ?_
          refine g_iconst (v := (0 : Int32)) C dL_trades_562 (by decide) ?_
          refine g_bipush (v := (7 : Int32)) C dL_trades_563 (by decide) ?_
          refine g_iload C dL_trades_565 11 rfl ?_
          refine g_iload C dL_trades_567 9 rfl ?_
          refine g_iload C dL_trades_569 10 rfl ?_
          refine g_iconst (v := (0 : Int32)) C dL_trades_571 (by decide) ?_
          obtain ⟨v68, hv68, h⟩ := bind_of h
          refine g_cSv (n := 11) (exc := []) (exr := []) C [_, _, _, _, _, _, _, _, _, _, _] _ rfl rfl [] [] rfl rfl rfl rfl (fun _ h => absurd h (by simp)) (fun _ h => absurd h (by simp)) (fun _ h => absurd h (by simp)) (fun sz => wk_L_send l _ ν _ Ad Q hI hQ w _ _ _ _ _ _  _ hv68 D E sz) rfl gw_458 gw_0 gw_456 gw_457 ⟨by decide +kernel, by decide +kernel, by decide +kernel⟩ ⟨rfl, rfl⟩ ⟨Nat.le_of_ble_eq_true rfl, Nat.le_of_ble_eq_true rfl⟩ (Nat.le_of_ble_eq_true rfl) dL_trades_572 ⟨by show (kc ν - kc ν0) + 0 ≤ kc r0.1.1.2 - kc ν0; omega, by show (ks ν - ks ν0) + 0 ≤ ks r0.1.1.2 - ks ν0; omega⟩ (fun u hp hx => ?_)
          obtain rfl := hp
          try dsimp only [List.append_nil]
          refine g_lv [1, 2, 8, 9, 10, 11] rfl ?_
          exact lb_L_trades_575 hl C hEv hN hr hz hI0 hQ0 hm0 hp0  h
        · replace h := (if_pos c525).symm.trans h
          refine g_aload C dL_trades_528 3 rfl ?_
          refine g_aload C dL_trades_530 4 rfl ?_
          refine g_aload C dL_trades_532 5 rfl ?_
          refine g_aload C dL_trades_534 6 rfl ?_
          refine g_aload C dL_trades_536 7 rfl ?_
          refine g_iconst (v := (0 : Int32)) C dL_trades_538 (by decide) ?_
          refine g_bipush (v := (6 : Int32)) C dL_trades_539 (by decide) ?_
          refine g_iload C dL_trades_541 11 rfl ?_
          refine g_iconst (v := (0 : Int32)) C dL_trades_543 (by decide) ?_
          refine g_iconst (v := (0 : Int32)) C dL_trades_544 (by decide) ?_
          refine g_iconst (v := (0 : Int32)) C dL_trades_545 (by decide) ?_
          obtain ⟨v72, hv72, h⟩ := bind_of h
          refine g_cSv (n := 11) (exc := []) (exr := []) C [_, _, _, _, _, _, _, _, _, _, _] _ rfl rfl [] [] rfl rfl rfl rfl (fun _ h => absurd h (by simp)) (fun _ h => absurd h (by simp)) (fun _ h => absurd h (by simp)) (fun sz => wk_L_send l _ ν _ Ad Q hI hQ w _ _ _ _ _ _  _ hv72 D E sz) rfl gw_458 gw_0 gw_456 gw_457 ⟨by decide +kernel, by decide +kernel, by decide +kernel⟩ ⟨rfl, rfl⟩ ⟨Nat.le_of_ble_eq_true rfl, Nat.le_of_ble_eq_true rfl⟩ (Nat.le_of_ble_eq_true rfl) dL_trades_546 ⟨by show (kc ν - kc ν0) + 0 ≤ kc r0.1.1.2 - kc ν0; omega, by show (ks ν - ks ν0) + 0 ≤ ks r0.1.1.2 - ks ν0; omega⟩ (fun u hp hx => ?_)
          obtain rfl := hp
          try dsimp only [List.append_nil]
          refine g_goto (tgt := 575) C dL_trades_549 (by decide) ?_
          refine g_lv [1, 2, 8, 9, 10, 11] rfl ?_
          exact lb_L_trades_575 hl C hEv hN hr hz hI0 hQ0 hm0 hp0  h
      · replace h := (if_pos c463).symm.trans h
        refine g_lv [1, 2, 9, 10, 11] rfl ?_
        exact lb_L_trades_466 hl C hEv hN hr hz hI0 hQ0 hm0 hp0  h
noncomputable def b_L_trades_437  (w : Nat) (μ : MP) (ν : NC) (a : AS) (x1 : Int32) (x16 : Int32) (x17 : Int32) (x19 : Int32)  : Option (((MP × NC) × AS) × Int32) := b_L_trades_438  w μ ν a x1 x16 x17 x19 (0 : Int32)
theorem mb_L_trades_437 {w : Nat} {μ : MP} {ν : NC} {a : AS} {x1 : Int32} {x16 : Int32} {x17 : Int32} {x19 : Int32}  {r0 : ((MP × NC) × AS) × Int32}   (h : b_L_trades_437  w μ ν a x1 x16 x17 x19  = some r0) : mn ν r0.1.1.2 := by
  unfold b_L_trades_437 at h
  exact mb_L_trades_438  h
set_option maxHeartbeats 4000000 in
set_option maxRecDepth 100000 in
theorem lb_L_trades_437 {p : Program} {l : Launch} (hl : l.stackTraces = false) {e : Env} {s : State} {m : MethodId} {args : Array Value} {below : List Frame} {meth : Method} {c : Code} {D : va_G} {E : Nat → ClassId} {sz : Nat} {μ0 : MP} {ν0 : NC} {a0 : AS} {Ad0 : Nat → Nat → Nat} {Q : Nat → Nat} {B : Nat × (Nat → Nat)} {w : Nat} {r0 : ((MP × NC) × AS) × Int32} (C : cx p s m args meth c D E (Aof (zS μ0 ν0 a0 Ad0) [] s.heap.size) cL_trades 27 "TradeLineLaw") (hEv : eV (Ad0 30 0) (Ad0 31 0) B (Aof (zS μ0 ν0 a0 Ad0) [] s.heap.size) s s.heap) (hN : vN s) (hr : meth.sig.returnType = (some .boolean)) (hz : s.heap.size = sz) (hI0 : lwI ν0) (hQ0 : lwQ Ad0 Q) {μ : MP} {ν : NC} {a : AS} {Ad : Nat → Nat → Nat} (hm0 : mn ν0 ν) (hp0 : kp ν0 Ad0 Ad) {x1 : Int32} {x16 : Int32} {x17 : Int32} {x19 : Int32}    (h : b_L_trades_437  w μ ν a x1 x16 x17 x19  = some r0) : G p l e ({ frames := 11, cells := kc r0.1.1.2 - kc ν0, slots := ks r0.1.1.2 - ks ν0, locals := 325 } : Room) s m args below meth c D E (Aof (zS μ0 ν0 a0 Ad0) [] s.heap.size) 27 (MQ below (cQ D E sz (zS μ0 ν0 a0 Ad0) [] (pI (fun r u => r = r0.2 ∧ ∃ A1, u = (zS r0.1.1.1 r0.1.1.2 r0.1.2 A1, []) ∧ kp ν0 Ad0 A1))) args s (kc r0.1.1.2 - kc ν0) (ks r0.1.1.2 - ks ν0) (Aof (zS μ0 ν0 a0 Ad0) [] s.heap.size)) (zS μ ν a Ad) [] (kc ν - kc ν0) (ks ν - ks ν0) 437 [(0, .ref (Q 0)), (1, .int x1), (4, .ref (Q 1)), (5, .ref (Q 2)), (6, .ref (Q 3)), (7, .ref (Q 4)), (8, .ref (Q 5)), (13, .ref (Q 12)), (16, .int x16), (17, .int x17), (19, .int x19)] [] := by
  have m0 := mb_L_trades_437  h
  have e1 := m0.2.1; have e2 := m0.2.2.1; have e3 := hm0.2.1; have e4 := hm0.2.2.1
  have hI := lwI_mn hI0 hm0; have hQ := lwQ_kp hI0 hp0 hQ0
  unfold b_L_trades_437 at h
  refine g_iconst (v := (0 : Int32)) C dL_trades_437 (by decide) ?_
  refine g_lv [0, 1, 2, 3, 4, 5, 6, 7, 8, 9, 10] rfl ?_
  exact lb_L_trades_438 hl C hEv hN hr hz hI0 hQ0 hm0 hp0  h
noncomputable def b_L_trades_401  (w : Nat) (μ : MP) (ν : NC) (a : AS) (x1 : Int32) (x16 : Int32) (x17 : Int32) (x19 : Int32) (s0 : Int32) : Option (((MP × NC) × AS) × Int32) := (if s0 = (-7200 : Int32) then (bif ixB x19 10 then (if ((a 12 x19.toNatClampNeg) &&& (2 : Int32)) ≤ (0 : Int32) then (b_L_trades_437  w μ ν a x1 x16 x17 x19) else ((f_L_rest w a x19).bind (fun v73 => (if (0 : Int32) < v73 then (b_L_trades_437  w μ ν a x1 x16 x17 x19) else (b_L_trades_438  w μ ν a x1 x16 x17 x19 (1 : Int32)))))) else none) else (some (((μ, ν), a), (0 : Int32))))
theorem mb_L_trades_401 {w : Nat} {μ : MP} {ν : NC} {a : AS} {x1 : Int32} {x16 : Int32} {x17 : Int32} {x19 : Int32} {s0 : Int32} {r0 : ((MP × NC) × AS) × Int32}   (h : b_L_trades_401  w μ ν a x1 x16 x17 x19 s0 = some r0) : mn ν r0.1.1.2 := by
  unfold b_L_trades_401 at h
  by_cases c404 : s0 = (-7200 : Int32)
  · replace h := (if_pos c404).symm.trans h
    replace h := (of_guard h).2
    by_cases c416 : ((a 12 x19.toNatClampNeg) &&& (2 : Int32)) ≤ (0 : Int32)
    · replace h := (if_pos c416).symm.trans h
      exact mb_L_trades_437  h
    · replace h := (if_neg c416).symm.trans h
      obtain ⟨v73, hv73, h⟩ := bind_of h
      by_cases c430 : (0 : Int32) < v73
      · replace h := (if_pos c430).symm.trans h
        exact mb_L_trades_437  h
      · replace h := (if_neg c430).symm.trans h
        exact mb_L_trades_438  h
  · replace h := (if_neg c404).symm.trans h
    obtain rfl := Option.some.inj h
    exact mn_rfl _
set_option maxHeartbeats 4000000 in
set_option maxRecDepth 100000 in
theorem lb_L_trades_401 {p : Program} {l : Launch} (hl : l.stackTraces = false) {e : Env} {s : State} {m : MethodId} {args : Array Value} {below : List Frame} {meth : Method} {c : Code} {D : va_G} {E : Nat → ClassId} {sz : Nat} {μ0 : MP} {ν0 : NC} {a0 : AS} {Ad0 : Nat → Nat → Nat} {Q : Nat → Nat} {B : Nat × (Nat → Nat)} {w : Nat} {r0 : ((MP × NC) × AS) × Int32} (C : cx p s m args meth c D E (Aof (zS μ0 ν0 a0 Ad0) [] s.heap.size) cL_trades 27 "TradeLineLaw") (hEv : eV (Ad0 30 0) (Ad0 31 0) B (Aof (zS μ0 ν0 a0 Ad0) [] s.heap.size) s s.heap) (hN : vN s) (hr : meth.sig.returnType = (some .boolean)) (hz : s.heap.size = sz) (hI0 : lwI ν0) (hQ0 : lwQ Ad0 Q) {μ : MP} {ν : NC} {a : AS} {Ad : Nat → Nat → Nat} (hm0 : mn ν0 ν) (hp0 : kp ν0 Ad0 Ad) {x1 : Int32} {x16 : Int32} {x17 : Int32} {x19 : Int32} {s0 : Int32}   (h : b_L_trades_401  w μ ν a x1 x16 x17 x19 s0 = some r0) : G p l e ({ frames := 11, cells := kc r0.1.1.2 - kc ν0, slots := ks r0.1.1.2 - ks ν0, locals := 325 } : Room) s m args below meth c D E (Aof (zS μ0 ν0 a0 Ad0) [] s.heap.size) 27 (MQ below (cQ D E sz (zS μ0 ν0 a0 Ad0) [] (pI (fun r u => r = r0.2 ∧ ∃ A1, u = (zS r0.1.1.1 r0.1.1.2 r0.1.2 A1, []) ∧ kp ν0 Ad0 A1))) args s (kc r0.1.1.2 - kc ν0) (ks r0.1.1.2 - ks ν0) (Aof (zS μ0 ν0 a0 Ad0) [] s.heap.size)) (zS μ ν a Ad) [] (kc ν - kc ν0) (ks ν - ks ν0) 401 [(0, .ref (Q 0)), (1, .int x1), (4, .ref (Q 1)), (5, .ref (Q 2)), (6, .ref (Q 3)), (7, .ref (Q 4)), (8, .ref (Q 5)), (10, .ref (Q 9)), (11, .ref (Q 10)), (12, .ref (Q 11)), (13, .ref (Q 12)), (16, .int x16), (17, .int x17), (19, .int x19)] [.int s0] := by
  have m0 := mb_L_trades_401  h
  have e1 := m0.2.1; have e2 := m0.2.2.1; have e3 := hm0.2.1; have e4 := hm0.2.2.1
  have hI := lwI_mn hI0 hm0; have hQ := lwQ_kp hI0 hp0 hQ0
  unfold b_L_trades_401 at h
  refine g_sipush (v := (-7200 : Int32)) C dL_trades_401 (by decide) ?_
  refine g_icmp_eq (tgt := 409) C dL_trades_404 (by decide) (fun c404 => ?_) (fun c404 => ?_)
  · replace h := (if_pos c404).symm.trans h
    refine g_aload C dL_trades_409 10 rfl ?_
    refine g_iload C dL_trades_411 13 rfl ?_
    obtain ⟨g62, h⟩ := of_guard h
    refine q_iald C (show rsh (ν.1, μ.2, ν.2, Ad) from hI.2) (j := 12) (N := 10) (by decide) (lwQ_i hQ (j := 12) (N := 10) (by decide)) g62 dL_trades_413 ?_
    refine g_iconst (v := (2 : Int32)) C dL_trades_414 (by decide) ?_
    refine g_iand C dL_trades_415 ?_
    refine g_if_le (tgt := 437) C dL_trades_416 (by decide) (fun c416 => ?_) (fun c416 => ?_)
    · replace h := (if_pos c416).symm.trans h
      refine g_lv [0, 1, 2, 3, 4, 5, 6, 10, 11, 12, 13] rfl ?_
      exact lb_L_trades_437 hl C hEv hN hr hz hI0 hQ0 hm0 hp0  h
    · replace h := (if_neg c416).symm.trans h
      refine g_aload C dL_trades_419 7 rfl ?_
      refine g_aload C dL_trades_421 8 rfl ?_
      refine g_aload C dL_trades_423 9 rfl ?_
      refine g_iload C dL_trades_425 13 rfl ?_
      obtain ⟨v73, hv73, h⟩ := bind_of h
      refine g_cSi (n := 4) (exc := []) (exr := []) C [_, _, _, _] _ rfl rfl [] [] rfl rfl rfl rfl (fun _ h => absurd h (by simp)) (fun _ h => absurd h (by simp)) (fun _ h => absurd h (by simp)) (fun sz => wk_L_rest l _ ν _ Ad Q hI hQ w _  _ hv73 D E sz) rfl gw_1035 gw_0 gw_1033 gw_1034 ⟨by decide +kernel, by decide +kernel, by decide +kernel⟩ ⟨rfl, rfl⟩ ⟨Nat.le_of_ble_eq_true rfl, Nat.le_of_ble_eq_true rfl⟩ (Nat.le_of_ble_eq_true rfl) dL_trades_427 ⟨by show (kc ν - kc ν0) + 0 ≤ kc r0.1.1.2 - kc ν0; omega, by show (ks ν - ks ν0) + 0 ≤ ks r0.1.1.2 - ks ν0; omega⟩ (fun r u hp hx => ?_)
      obtain ⟨er, rfl⟩ := hp
      rw [er]
      try dsimp only [List.append_nil]
      refine g_if_gt (tgt := 437) C dL_trades_430 (by decide) (fun c430 => ?_) (fun c430 => ?_)
      · replace h := (if_pos c430).symm.trans h
        refine g_lv [0, 1, 2, 3, 4, 5, 6, 10, 11, 12, 13] rfl ?_
        exact lb_L_trades_437 hl C hEv hN hr hz hI0 hQ0 hm0 hp0  h
      · replace h := (if_neg c430).symm.trans h
        refine g_iconst (v := (1 : Int32)) C dL_trades_433 (by decide) ?_
        refine g_goto (tgt := 438) C dL_trades_434 (by decide) ?_
        refine g_lv [0, 1, 2, 3, 4, 5, 6, 10, 11, 12, 13] rfl ?_
        exact lb_L_trades_438 hl C hEv hN hr hz hI0 hQ0 hm0 hp0  h
  · replace h := (if_neg c404).symm.trans h
    refine g_iconst (v := (0 : Int32)) C dL_trades_407 (by decide) ?_
    obtain rfl := Option.some.inj h
    exact g_iret C hr rfl hz ⟨(hm0.2.2.2 30 (by decide) (by decide)).1, (hm0.2.2.2 31 (by decide) (by decide)).1, hp0.2.1, hp0.2.2⟩ ⟨rfl, Ad, rfl, hp0⟩ (fun j x h => by simp at h) dL_trades_408
noncomputable def b_L_trades_385  (w : Nat) (μ : MP) (ν : NC) (a : AS) (x1 : Int32) (x16 : Int32) (x17 : Int32) (x19 : Int32) (s0 : Int32) : Option (((MP × NC) × AS) × Int32) := (if s0 = (-7200 : Int32) then ((f_L_replace w μ ν x19 x16 (101 : Int32)).bind (fun v61 => b_L_trades_401  w v61.1.1 v61.1.2 a x1 x16 x17 x19 v61.2)) else (some (((μ, ν), a), (0 : Int32))))
theorem mb_L_trades_385 {w : Nat} {μ : MP} {ν : NC} {a : AS} {x1 : Int32} {x16 : Int32} {x17 : Int32} {x19 : Int32} {s0 : Int32} {r0 : ((MP × NC) × AS) × Int32}   (h : b_L_trades_385  w μ ν a x1 x16 x17 x19 s0 = some r0) : mn ν r0.1.1.2 := by
  unfold b_L_trades_385 at h
  by_cases c388 : s0 = (-7200 : Int32)
  · replace h := (if_pos c388).symm.trans h
    obtain ⟨v61, hv61, h⟩ := bind_of h
    exact mn_trans (m_L_replace hv61) (mb_L_trades_401  h)
  · replace h := (if_neg c388).symm.trans h
    obtain rfl := Option.some.inj h
    exact mn_rfl _
set_option maxHeartbeats 4000000 in
set_option maxRecDepth 100000 in
theorem lb_L_trades_385 {p : Program} {l : Launch} (hl : l.stackTraces = false) {e : Env} {s : State} {m : MethodId} {args : Array Value} {below : List Frame} {meth : Method} {c : Code} {D : va_G} {E : Nat → ClassId} {sz : Nat} {μ0 : MP} {ν0 : NC} {a0 : AS} {Ad0 : Nat → Nat → Nat} {Q : Nat → Nat} {B : Nat × (Nat → Nat)} {w : Nat} {r0 : ((MP × NC) × AS) × Int32} (C : cx p s m args meth c D E (Aof (zS μ0 ν0 a0 Ad0) [] s.heap.size) cL_trades 27 "TradeLineLaw") (hEv : eV (Ad0 30 0) (Ad0 31 0) B (Aof (zS μ0 ν0 a0 Ad0) [] s.heap.size) s s.heap) (hN : vN s) (hr : meth.sig.returnType = (some .boolean)) (hz : s.heap.size = sz) (hI0 : lwI ν0) (hQ0 : lwQ Ad0 Q) {μ : MP} {ν : NC} {a : AS} {Ad : Nat → Nat → Nat} (hm0 : mn ν0 ν) (hp0 : kp ν0 Ad0 Ad) {x1 : Int32} {x16 : Int32} {x17 : Int32} {x19 : Int32} {s0 : Int32}   (h : b_L_trades_385  w μ ν a x1 x16 x17 x19 s0 = some r0) : G p l e ({ frames := 11, cells := kc r0.1.1.2 - kc ν0, slots := ks r0.1.1.2 - ks ν0, locals := 325 } : Room) s m args below meth c D E (Aof (zS μ0 ν0 a0 Ad0) [] s.heap.size) 27 (MQ below (cQ D E sz (zS μ0 ν0 a0 Ad0) [] (pI (fun r u => r = r0.2 ∧ ∃ A1, u = (zS r0.1.1.1 r0.1.1.2 r0.1.2 A1, []) ∧ kp ν0 Ad0 A1))) args s (kc r0.1.1.2 - kc ν0) (ks r0.1.1.2 - ks ν0) (Aof (zS μ0 ν0 a0 Ad0) [] s.heap.size)) (zS μ ν a Ad) [] (kc ν - kc ν0) (ks ν - ks ν0) 385 [(0, .ref (Q 0)), (1, .int x1), (4, .ref (Q 1)), (5, .ref (Q 2)), (6, .ref (Q 3)), (7, .ref (Q 4)), (8, .ref (Q 5)), (10, .ref (Q 9)), (11, .ref (Q 10)), (12, .ref (Q 11)), (13, .ref (Q 12)), (16, .int x16), (17, .int x17), (19, .int x19)] [.int s0] := by
  have m0 := mb_L_trades_385  h
  have e1 := m0.2.1; have e2 := m0.2.2.1; have e3 := hm0.2.1; have e4 := hm0.2.2.1
  have hI := lwI_mn hI0 hm0; have hQ := lwQ_kp hI0 hp0 hQ0
  unfold b_L_trades_385 at h
  refine g_sipush (v := (-7200 : Int32)) C dL_trades_385 (by decide) ?_
  refine g_icmp_ne (tgt := 407) C dL_trades_388 (by decide) (fun c388 => ?_) (fun c388 => ?_)
  · replace h := (if_neg c388).symm.trans h
    refine g_iconst (v := (0 : Int32)) C dL_trades_407 (by decide) ?_
    obtain rfl := Option.some.inj h
    exact g_iret C hr rfl hz ⟨(hm0.2.2.2 30 (by decide) (by decide)).1, (hm0.2.2.2 31 (by decide) (by decide)).1, hp0.2.1, hp0.2.2⟩ ⟨rfl, Ad, rfl, hp0⟩ (fun j x h => by simp at h) dL_trades_408
  · replace h := (if_pos c388).symm.trans h
    refine g_aload_n C dL_trades_391 rfl 0 rfl ?_
    refine g_iload C dL_trades_392 13 rfl ?_
    refine g_iload C dL_trades_394 11 rfl ?_
    refine g_bipush (v := (101 : Int32)) C dL_trades_396 (by decide) ?_
    obtain ⟨v61, hv61, h⟩ := bind_of h
    have m2 := m_L_replace hv61
    have m3 := mb_L_trades_401  h
    have a1 := hm0.2.1; have a2 := hm0.2.2.1; have b1 := m2.2.1; have b2 := m2.2.2.1; have d1 := m3.2.1; have d2 := m3.2.2.1
    refine g_cSh (n := 4) (exr := []) C hEv hN ⟨hp0.2.1 0, hp0.2.2 0⟩ [_, _, _, _] _ rfl rfl [] rfl rfl (fun sz => wc_L_replace l hl B _ ν _ Ad Q hI hQ w _ _ _ _ hv61 D E sz) rfl gh_replace gw_0 gw_1166 gw_1167 ⟨by decide +kernel, by decide +kernel, by decide +kernel⟩ ⟨rfl, rfl⟩ ⟨Nat.le_of_ble_eq_true rfl, Nat.le_of_ble_eq_true rfl⟩ (Nat.le_of_ble_eq_true rfl) dL_trades_398 ⟨by show (kc ν - kc ν0) + (kc v61.1.2 - kc ν) ≤ kc r0.1.1.2 - kc ν0; omega, by show (ks ν - ks ν0) + (ks v61.1.2 - ks ν) ≤ ks r0.1.1.2 - ks ν0; omega⟩ (fun r u hp hx => ?_)
    obtain ⟨er, A1, rfl, hkp⟩ := hp
    rw [er]
    try dsimp only [List.append_nil]
    refine g_widen (k := kc v61.1.2 - kc ν0) (n := ks v61.1.2 - ks ν0) (by omega) (by omega) ?_
    refine g_lv [0, 1, 2, 3, 4, 5, 6, 7, 8, 9, 10, 11, 12, 13] rfl ?_
    exact lb_L_trades_401 hl C hEv hN hr hz hI0 hQ0 (mn_trans hm0 m2) (kp_trans hp0 hm0 hkp)  h
noncomputable def b_L_trades_364  (w : Nat) (μ : MP) (ν : NC) (a : AS)  (s0 : Int32) : Option (((MP × NC) × AS) × Int32) := (if s0 = (-7100 : Int32) then (some (((μ, ν), a), (1 : Int32))) else (some (((μ, ν), a), (0 : Int32))))
theorem mb_L_trades_364 {w : Nat} {μ : MP} {ν : NC} {a : AS}  {s0 : Int32} {r0 : ((MP × NC) × AS) × Int32}   (h : b_L_trades_364  w μ ν a  s0 = some r0) : mn ν r0.1.1.2 := by
  unfold b_L_trades_364 at h
  by_cases c367 : s0 = (-7100 : Int32)
  · replace h := (if_pos c367).symm.trans h
    obtain rfl := Option.some.inj h
    exact mn_rfl _
  · replace h := (if_neg c367).symm.trans h
    obtain rfl := Option.some.inj h
    exact mn_rfl _
set_option maxHeartbeats 4000000 in
set_option maxRecDepth 100000 in
theorem lb_L_trades_364 {p : Program} {l : Launch} (hl : l.stackTraces = false) {e : Env} {s : State} {m : MethodId} {args : Array Value} {below : List Frame} {meth : Method} {c : Code} {D : va_G} {E : Nat → ClassId} {sz : Nat} {μ0 : MP} {ν0 : NC} {a0 : AS} {Ad0 : Nat → Nat → Nat} {Q : Nat → Nat} {B : Nat × (Nat → Nat)} {w : Nat} {r0 : ((MP × NC) × AS) × Int32} (C : cx p s m args meth c D E (Aof (zS μ0 ν0 a0 Ad0) [] s.heap.size) cL_trades 27 "TradeLineLaw") (hEv : eV (Ad0 30 0) (Ad0 31 0) B (Aof (zS μ0 ν0 a0 Ad0) [] s.heap.size) s s.heap) (hN : vN s) (hr : meth.sig.returnType = (some .boolean)) (hz : s.heap.size = sz) (hI0 : lwI ν0) (hQ0 : lwQ Ad0 Q) {μ : MP} {ν : NC} {a : AS} {Ad : Nat → Nat → Nat} (hm0 : mn ν0 ν) (hp0 : kp ν0 Ad0 Ad)  {s0 : Int32}   (h : b_L_trades_364  w μ ν a  s0 = some r0) : G p l e ({ frames := 11, cells := kc r0.1.1.2 - kc ν0, slots := ks r0.1.1.2 - ks ν0, locals := 325 } : Room) s m args below meth c D E (Aof (zS μ0 ν0 a0 Ad0) [] s.heap.size) 27 (MQ below (cQ D E sz (zS μ0 ν0 a0 Ad0) [] (pI (fun r u => r = r0.2 ∧ ∃ A1, u = (zS r0.1.1.1 r0.1.1.2 r0.1.2 A1, []) ∧ kp ν0 Ad0 A1))) args s (kc r0.1.1.2 - kc ν0) (ks r0.1.1.2 - ks ν0) (Aof (zS μ0 ν0 a0 Ad0) [] s.heap.size)) (zS μ ν a Ad) [] (kc ν - kc ν0) (ks ν - ks ν0) 364 [] [.int s0] := by
  have m0 := mb_L_trades_364  h
  have e1 := m0.2.1; have e2 := m0.2.2.1; have e3 := hm0.2.1; have e4 := hm0.2.2.1
  have hI := lwI_mn hI0 hm0; have hQ := lwQ_kp hI0 hp0 hQ0
  unfold b_L_trades_364 at h
  refine g_sipush (v := (-7100 : Int32)) C dL_trades_364 (by decide) ?_
  refine g_icmp_ne (tgt := 374) C dL_trades_367 (by decide) (fun c367 => ?_) (fun c367 => ?_)
  · replace h := (if_neg c367).symm.trans h
    refine g_iconst (v := (0 : Int32)) C dL_trades_374 (by decide) ?_
    obtain rfl := Option.some.inj h
    exact g_iret C hr rfl hz ⟨(hm0.2.2.2 30 (by decide) (by decide)).1, (hm0.2.2.2 31 (by decide) (by decide)).1, hp0.2.1, hp0.2.2⟩ ⟨rfl, Ad, rfl, hp0⟩ (fun j x h => by simp at h) dL_trades_375
  · replace h := (if_pos c367).symm.trans h
    refine g_iconst (v := (1 : Int32)) C dL_trades_370 (by decide) ?_
    refine g_goto (tgt := 375) C dL_trades_371 (by decide) ?_
    obtain rfl := Option.some.inj h
    exact g_iret C hr rfl hz ⟨(hm0.2.2.2 30 (by decide) (by decide)).1, (hm0.2.2.2 31 (by decide) (by decide)).1, hp0.2.1, hp0.2.2⟩ ⟨rfl, Ad, rfl, hp0⟩ (fun j x h => by simp at h) dL_trades_375
noncomputable def b_L_trades_353  (w : Nat) (μ : MP) (ν : NC) (a : AS)  (s0 : Int32) : Option (((MP × NC) × AS) × Int32) := (if s0 = (-7100 : Int32) then ((f_L_cancel w μ ν (-1 : Int32)).bind (fun v76 => b_L_trades_364  w v76.1.1 v76.1.2 a v76.2)) else (some (((μ, ν), a), (0 : Int32))))
theorem mb_L_trades_353 {w : Nat} {μ : MP} {ν : NC} {a : AS}  {s0 : Int32} {r0 : ((MP × NC) × AS) × Int32}   (h : b_L_trades_353  w μ ν a  s0 = some r0) : mn ν r0.1.1.2 := by
  unfold b_L_trades_353 at h
  by_cases c356 : s0 = (-7100 : Int32)
  · replace h := (if_pos c356).symm.trans h
    obtain ⟨v76, hv76, h⟩ := bind_of h
    exact mn_trans (m_L_cancel hv76) (mb_L_trades_364  h)
  · replace h := (if_neg c356).symm.trans h
    obtain rfl := Option.some.inj h
    exact mn_rfl _
set_option maxHeartbeats 4000000 in
set_option maxRecDepth 100000 in
theorem lb_L_trades_353 {p : Program} {l : Launch} (hl : l.stackTraces = false) {e : Env} {s : State} {m : MethodId} {args : Array Value} {below : List Frame} {meth : Method} {c : Code} {D : va_G} {E : Nat → ClassId} {sz : Nat} {μ0 : MP} {ν0 : NC} {a0 : AS} {Ad0 : Nat → Nat → Nat} {Q : Nat → Nat} {B : Nat × (Nat → Nat)} {w : Nat} {r0 : ((MP × NC) × AS) × Int32} (C : cx p s m args meth c D E (Aof (zS μ0 ν0 a0 Ad0) [] s.heap.size) cL_trades 27 "TradeLineLaw") (hEv : eV (Ad0 30 0) (Ad0 31 0) B (Aof (zS μ0 ν0 a0 Ad0) [] s.heap.size) s s.heap) (hN : vN s) (hr : meth.sig.returnType = (some .boolean)) (hz : s.heap.size = sz) (hI0 : lwI ν0) (hQ0 : lwQ Ad0 Q) {μ : MP} {ν : NC} {a : AS} {Ad : Nat → Nat → Nat} (hm0 : mn ν0 ν) (hp0 : kp ν0 Ad0 Ad)  {s0 : Int32}   (h : b_L_trades_353  w μ ν a  s0 = some r0) : G p l e ({ frames := 11, cells := kc r0.1.1.2 - kc ν0, slots := ks r0.1.1.2 - ks ν0, locals := 325 } : Room) s m args below meth c D E (Aof (zS μ0 ν0 a0 Ad0) [] s.heap.size) 27 (MQ below (cQ D E sz (zS μ0 ν0 a0 Ad0) [] (pI (fun r u => r = r0.2 ∧ ∃ A1, u = (zS r0.1.1.1 r0.1.1.2 r0.1.2 A1, []) ∧ kp ν0 Ad0 A1))) args s (kc r0.1.1.2 - kc ν0) (ks r0.1.1.2 - ks ν0) (Aof (zS μ0 ν0 a0 Ad0) [] s.heap.size)) (zS μ ν a Ad) [] (kc ν - kc ν0) (ks ν - ks ν0) 353 [(0, .ref (Q 0))] [.int s0] := by
  have m0 := mb_L_trades_353  h
  have e1 := m0.2.1; have e2 := m0.2.2.1; have e3 := hm0.2.1; have e4 := hm0.2.2.1
  have hI := lwI_mn hI0 hm0; have hQ := lwQ_kp hI0 hp0 hQ0
  unfold b_L_trades_353 at h
  refine g_sipush (v := (-7100 : Int32)) C dL_trades_353 (by decide) ?_
  refine g_icmp_ne (tgt := 374) C dL_trades_356 (by decide) (fun c356 => ?_) (fun c356 => ?_)
  · replace h := (if_neg c356).symm.trans h
    refine g_iconst (v := (0 : Int32)) C dL_trades_374 (by decide) ?_
    obtain rfl := Option.some.inj h
    exact g_iret C hr rfl hz ⟨(hm0.2.2.2 30 (by decide) (by decide)).1, (hm0.2.2.2 31 (by decide) (by decide)).1, hp0.2.1, hp0.2.2⟩ ⟨rfl, Ad, rfl, hp0⟩ (fun j x h => by simp at h) dL_trades_375
  · replace h := (if_pos c356).symm.trans h
    refine g_aload_n C dL_trades_359 rfl 0 rfl ?_
    refine g_iconst (v := (-1 : Int32)) C dL_trades_360 (by decide) ?_
    obtain ⟨v76, hv76, h⟩ := bind_of h
    have m2 := m_L_cancel hv76
    have m3 := mb_L_trades_364  h
    have a1 := hm0.2.1; have a2 := hm0.2.2.1; have b1 := m2.2.1; have b2 := m2.2.2.1; have d1 := m3.2.1; have d2 := m3.2.2.1
    refine g_cSh (n := 2) (exr := []) C hEv hN ⟨hp0.2.1 0, hp0.2.2 0⟩ [_, _] _ rfl rfl [] rfl rfl (fun sz => wc_L_cancel l hl B _ ν _ Ad Q hI hQ w _ _ hv76 D E sz) rfl gh_cancel gw_0 gw_1145 gw_1146 ⟨by decide +kernel, by decide +kernel, by decide +kernel⟩ ⟨rfl, rfl⟩ ⟨Nat.le_of_ble_eq_true rfl, Nat.le_of_ble_eq_true rfl⟩ (Nat.le_of_ble_eq_true rfl) dL_trades_361 ⟨by show (kc ν - kc ν0) + (kc v76.1.2 - kc ν) ≤ kc r0.1.1.2 - kc ν0; omega, by show (ks ν - ks ν0) + (ks v76.1.2 - ks ν) ≤ ks r0.1.1.2 - ks ν0; omega⟩ (fun r u hp hx => ?_)
    obtain ⟨er, A1, rfl, hkp⟩ := hp
    rw [er]
    try dsimp only [List.append_nil]
    refine g_widen (k := kc v76.1.2 - kc ν0) (n := ks v76.1.2 - ks ν0) (by omega) (by omega) ?_
    refine g_lv [] rfl ?_
    exact lb_L_trades_364 hl C hEv hN hr hz hI0 hQ0 (mn_trans hm0 m2) (kp_trans hp0 hm0 hkp)  h
noncomputable def b_L_trades_339  (w : Nat) (μ : MP) (ν : NC) (a : AS) (x19 : Int32) (s0 : Int32) : Option (((MP × NC) × AS) × Int32) := (if s0 = (-7100 : Int32) then ((f_L_replace w μ ν x19 (0 : Int32) (0 : Int32)).bind (fun v75 => b_L_trades_353  w v75.1.1 v75.1.2 a v75.2)) else (some (((μ, ν), a), (0 : Int32))))
theorem mb_L_trades_339 {w : Nat} {μ : MP} {ν : NC} {a : AS} {x19 : Int32} {s0 : Int32} {r0 : ((MP × NC) × AS) × Int32}   (h : b_L_trades_339  w μ ν a x19 s0 = some r0) : mn ν r0.1.1.2 := by
  unfold b_L_trades_339 at h
  by_cases c342 : s0 = (-7100 : Int32)
  · replace h := (if_pos c342).symm.trans h
    obtain ⟨v75, hv75, h⟩ := bind_of h
    exact mn_trans (m_L_replace hv75) (mb_L_trades_353  h)
  · replace h := (if_neg c342).symm.trans h
    obtain rfl := Option.some.inj h
    exact mn_rfl _
set_option maxHeartbeats 4000000 in
set_option maxRecDepth 100000 in
theorem lb_L_trades_339 {p : Program} {l : Launch} (hl : l.stackTraces = false) {e : Env} {s : State} {m : MethodId} {args : Array Value} {below : List Frame} {meth : Method} {c : Code} {D : va_G} {E : Nat → ClassId} {sz : Nat} {μ0 : MP} {ν0 : NC} {a0 : AS} {Ad0 : Nat → Nat → Nat} {Q : Nat → Nat} {B : Nat × (Nat → Nat)} {w : Nat} {r0 : ((MP × NC) × AS) × Int32} (C : cx p s m args meth c D E (Aof (zS μ0 ν0 a0 Ad0) [] s.heap.size) cL_trades 27 "TradeLineLaw") (hEv : eV (Ad0 30 0) (Ad0 31 0) B (Aof (zS μ0 ν0 a0 Ad0) [] s.heap.size) s s.heap) (hN : vN s) (hr : meth.sig.returnType = (some .boolean)) (hz : s.heap.size = sz) (hI0 : lwI ν0) (hQ0 : lwQ Ad0 Q) {μ : MP} {ν : NC} {a : AS} {Ad : Nat → Nat → Nat} (hm0 : mn ν0 ν) (hp0 : kp ν0 Ad0 Ad) {x19 : Int32} {s0 : Int32}   (h : b_L_trades_339  w μ ν a x19 s0 = some r0) : G p l e ({ frames := 11, cells := kc r0.1.1.2 - kc ν0, slots := ks r0.1.1.2 - ks ν0, locals := 325 } : Room) s m args below meth c D E (Aof (zS μ0 ν0 a0 Ad0) [] s.heap.size) 27 (MQ below (cQ D E sz (zS μ0 ν0 a0 Ad0) [] (pI (fun r u => r = r0.2 ∧ ∃ A1, u = (zS r0.1.1.1 r0.1.1.2 r0.1.2 A1, []) ∧ kp ν0 Ad0 A1))) args s (kc r0.1.1.2 - kc ν0) (ks r0.1.1.2 - ks ν0) (Aof (zS μ0 ν0 a0 Ad0) [] s.heap.size)) (zS μ ν a Ad) [] (kc ν - kc ν0) (ks ν - ks ν0) 339 [(0, .ref (Q 0)), (19, .int x19)] [.int s0] := by
  have m0 := mb_L_trades_339  h
  have e1 := m0.2.1; have e2 := m0.2.2.1; have e3 := hm0.2.1; have e4 := hm0.2.2.1
  have hI := lwI_mn hI0 hm0; have hQ := lwQ_kp hI0 hp0 hQ0
  unfold b_L_trades_339 at h
  refine g_sipush (v := (-7100 : Int32)) C dL_trades_339 (by decide) ?_
  refine g_icmp_ne (tgt := 374) C dL_trades_342 (by decide) (fun c342 => ?_) (fun c342 => ?_)
  · replace h := (if_neg c342).symm.trans h
    refine g_iconst (v := (0 : Int32)) C dL_trades_374 (by decide) ?_
    obtain rfl := Option.some.inj h
    exact g_iret C hr rfl hz ⟨(hm0.2.2.2 30 (by decide) (by decide)).1, (hm0.2.2.2 31 (by decide) (by decide)).1, hp0.2.1, hp0.2.2⟩ ⟨rfl, Ad, rfl, hp0⟩ (fun j x h => by simp at h) dL_trades_375
  · replace h := (if_pos c342).symm.trans h
    refine g_aload_n C dL_trades_345 rfl 0 rfl ?_
    refine g_iload C dL_trades_346 1 rfl ?_
    refine g_iconst (v := (0 : Int32)) C dL_trades_348 (by decide) ?_
    refine g_iconst (v := (0 : Int32)) C dL_trades_349 (by decide) ?_
    obtain ⟨v75, hv75, h⟩ := bind_of h
    have m2 := m_L_replace hv75
    have m3 := mb_L_trades_353  h
    have a1 := hm0.2.1; have a2 := hm0.2.2.1; have b1 := m2.2.1; have b2 := m2.2.2.1; have d1 := m3.2.1; have d2 := m3.2.2.1
    refine g_cSh (n := 4) (exr := []) C hEv hN ⟨hp0.2.1 0, hp0.2.2 0⟩ [_, _, _, _] _ rfl rfl [] rfl rfl (fun sz => wc_L_replace l hl B _ ν _ Ad Q hI hQ w _ _ _ _ hv75 D E sz) rfl gh_replace gw_0 gw_1166 gw_1167 ⟨by decide +kernel, by decide +kernel, by decide +kernel⟩ ⟨rfl, rfl⟩ ⟨Nat.le_of_ble_eq_true rfl, Nat.le_of_ble_eq_true rfl⟩ (Nat.le_of_ble_eq_true rfl) dL_trades_350 ⟨by show (kc ν - kc ν0) + (kc v75.1.2 - kc ν) ≤ kc r0.1.1.2 - kc ν0; omega, by show (ks ν - ks ν0) + (ks v75.1.2 - ks ν) ≤ ks r0.1.1.2 - ks ν0; omega⟩ (fun r u hp hx => ?_)
    obtain ⟨er, A1, rfl, hkp⟩ := hp
    rw [er]
    try dsimp only [List.append_nil]
    refine g_widen (k := kc v75.1.2 - kc ν0) (n := ks v75.1.2 - ks ν0) (by omega) (by omega) ?_
    refine g_lv [0] rfl ?_
    exact lb_L_trades_353 hl C hEv hN hr hz hI0 hQ0 (mn_trans hm0 m2) (kp_trans hp0 hm0 hkp)  h
noncomputable def b_L_trades_285  (w : Nat) (μ : MP) (ν : NC) (a : AS)  (s0 : Int32) : Option (((MP × NC) × AS) × Int32) := bif ixB (18 : Int32) 22 then (if s0 = ((a 1 (18 : Int32).toNatClampNeg) - (1 : Int32)) then (some (((μ, ν), a), (1 : Int32))) else (some (((μ, ν), a), (0 : Int32)))) else none
theorem mb_L_trades_285 {w : Nat} {μ : MP} {ν : NC} {a : AS}  {s0 : Int32} {r0 : ((MP × NC) × AS) × Int32}   (h : b_L_trades_285  w μ ν a  s0 = some r0) : mn ν r0.1.1.2 := by
  unfold b_L_trades_285 at h
  replace h := (of_guard h).2
  by_cases c292 : s0 = ((a 1 (18 : Int32).toNatClampNeg) - (1 : Int32))
  · replace h := (if_pos c292).symm.trans h
    obtain rfl := Option.some.inj h
    exact mn_rfl _
  · replace h := (if_neg c292).symm.trans h
    obtain rfl := Option.some.inj h
    exact mn_rfl _
set_option maxHeartbeats 4000000 in
set_option maxRecDepth 100000 in
theorem lb_L_trades_285 {p : Program} {l : Launch} (hl : l.stackTraces = false) {e : Env} {s : State} {m : MethodId} {args : Array Value} {below : List Frame} {meth : Method} {c : Code} {D : va_G} {E : Nat → ClassId} {sz : Nat} {μ0 : MP} {ν0 : NC} {a0 : AS} {Ad0 : Nat → Nat → Nat} {Q : Nat → Nat} {B : Nat × (Nat → Nat)} {w : Nat} {r0 : ((MP × NC) × AS) × Int32} (C : cx p s m args meth c D E (Aof (zS μ0 ν0 a0 Ad0) [] s.heap.size) cL_trades 27 "TradeLineLaw") (hEv : eV (Ad0 30 0) (Ad0 31 0) B (Aof (zS μ0 ν0 a0 Ad0) [] s.heap.size) s s.heap) (hN : vN s) (hr : meth.sig.returnType = (some .boolean)) (hz : s.heap.size = sz) (hI0 : lwI ν0) (hQ0 : lwQ Ad0 Q) {μ : MP} {ν : NC} {a : AS} {Ad : Nat → Nat → Nat} (hm0 : mn ν0 ν) (hp0 : kp ν0 Ad0 Ad)  {s0 : Int32}   (h : b_L_trades_285  w μ ν a  s0 = some r0) : G p l e ({ frames := 11, cells := kc r0.1.1.2 - kc ν0, slots := ks r0.1.1.2 - ks ν0, locals := 325 } : Room) s m args below meth c D E (Aof (zS μ0 ν0 a0 Ad0) [] s.heap.size) 27 (MQ below (cQ D E sz (zS μ0 ν0 a0 Ad0) [] (pI (fun r u => r = r0.2 ∧ ∃ A1, u = (zS r0.1.1.1 r0.1.1.2 r0.1.2 A1, []) ∧ kp ν0 Ad0 A1))) args s (kc r0.1.1.2 - kc ν0) (ks r0.1.1.2 - ks ν0) (Aof (zS μ0 ν0 a0 Ad0) [] s.heap.size)) (zS μ ν a Ad) [] (kc ν - kc ν0) (ks ν - ks ν0) 285 [(4, .ref (Q 1))] [.int s0] := by
  have m0 := mb_L_trades_285  h
  have e1 := m0.2.1; have e2 := m0.2.2.1; have e3 := hm0.2.1; have e4 := hm0.2.2.1
  have hI := lwI_mn hI0 hm0; have hQ := lwQ_kp hI0 hp0 hQ0
  unfold b_L_trades_285 at h
  refine g_aload C dL_trades_285 0 rfl ?_
  refine g_bipush (v := (18 : Int32)) C dL_trades_287 (by decide) ?_
  obtain ⟨g94, h⟩ := of_guard h
  refine q_iald C (show rsh (ν.1, μ.2, ν.2, Ad) from hI.2) (j := 1) (N := 22) (by decide) (lwQ_i hQ (j := 1) (N := 22) (by decide)) g94 dL_trades_289 ?_
  refine g_iconst (v := (1 : Int32)) C dL_trades_290 (by decide) ?_
  refine g_isub C dL_trades_291 ?_
  refine g_icmp_ne (tgt := 299) C dL_trades_292 (by decide) (fun c292 => ?_) (fun c292 => ?_)
  · replace h := (if_neg c292).symm.trans h
    refine g_iconst (v := (0 : Int32)) C dL_trades_299 (by decide) ?_
    obtain rfl := Option.some.inj h
    exact g_iret C hr rfl hz ⟨(hm0.2.2.2 30 (by decide) (by decide)).1, (hm0.2.2.2 31 (by decide) (by decide)).1, hp0.2.1, hp0.2.2⟩ ⟨rfl, Ad, rfl, hp0⟩ (fun j x h => by simp at h) dL_trades_300
  · replace h := (if_pos c292).symm.trans h
    refine g_iconst (v := (1 : Int32)) C dL_trades_295 (by decide) ?_
    refine g_goto (tgt := 300) C dL_trades_296 (by decide) ?_
    obtain rfl := Option.some.inj h
    exact g_iret C hr rfl hz ⟨(hm0.2.2.2 30 (by decide) (by decide)).1, (hm0.2.2.2 31 (by decide) (by decide)).1, hp0.2.1, hp0.2.2⟩ ⟨rfl, Ad, rfl, hp0⟩ (fun j x h => by simp at h) dL_trades_300
noncomputable def b_L_trades_259  (w : Nat) (μ : MP) (ν : NC) (a : AS) (x16 : Int32) (x17 : Int32) (x18 : Int32) (s0 : Int32) (s1 : Int32) (s2 : Int32) (s3 : Int32) : Option (((MP × NC) × AS) × Int32) := (f_L_send w a s3 s2 s1 s0 x16 x17).bind (fun v90 => bif ixB (18 : Int32) 22 then yl (up2 v90.1 1 (18 : Int32).toNatClampNeg ((v90.1 1 (18 : Int32).toNatClampNeg) + (1 : Int32))) (fun a92 => (f_L_order w μ ν x18 x16 x17).bind (fun v93 => b_L_trades_285  w v93.1.1 v93.1.2 a92 v93.2)) else none)
theorem mb_L_trades_259 {w : Nat} {μ : MP} {ν : NC} {a : AS} {x16 : Int32} {x17 : Int32} {x18 : Int32} {s0 : Int32} {s1 : Int32} {s2 : Int32} {s3 : Int32} {r0 : ((MP × NC) × AS) × Int32}   (h : b_L_trades_259  w μ ν a x16 x17 x18 s0 s1 s2 s3 = some r0) : mn ν r0.1.1.2 := by
  unfold b_L_trades_259 at h
  obtain ⟨v90, hv90, h⟩ := bind_of h
  replace h := (of_guard h).2
  obtain ⟨a92, ea92⟩ : ∃ y, up2 v90.1 1 (18 : Int32).toNatClampNeg ((v90.1 1 (18 : Int32).toNatClampNeg) + (1 : Int32)) = y := ⟨_, rfl⟩
  replace h := yl_of h ea92
  obtain ⟨v93, hv93, h⟩ := bind_of h
  exact mn_trans (m_L_order hv93) (mb_L_trades_285  h)
set_option maxHeartbeats 4000000 in
set_option maxRecDepth 100000 in
theorem lb_L_trades_259 {p : Program} {l : Launch} (hl : l.stackTraces = false) {e : Env} {s : State} {m : MethodId} {args : Array Value} {below : List Frame} {meth : Method} {c : Code} {D : va_G} {E : Nat → ClassId} {sz : Nat} {μ0 : MP} {ν0 : NC} {a0 : AS} {Ad0 : Nat → Nat → Nat} {Q : Nat → Nat} {B : Nat × (Nat → Nat)} {w : Nat} {r0 : ((MP × NC) × AS) × Int32} (C : cx p s m args meth c D E (Aof (zS μ0 ν0 a0 Ad0) [] s.heap.size) cL_trades 27 "TradeLineLaw") (hEv : eV (Ad0 30 0) (Ad0 31 0) B (Aof (zS μ0 ν0 a0 Ad0) [] s.heap.size) s s.heap) (hN : vN s) (hr : meth.sig.returnType = (some .boolean)) (hz : s.heap.size = sz) (hI0 : lwI ν0) (hQ0 : lwQ Ad0 Q) {μ : MP} {ν : NC} {a : AS} {Ad : Nat → Nat → Nat} (hm0 : mn ν0 ν) (hp0 : kp ν0 Ad0 Ad) {x16 : Int32} {x17 : Int32} {x18 : Int32} {s0 : Int32} {s1 : Int32} {s2 : Int32} {s3 : Int32}   (h : b_L_trades_259  w μ ν a x16 x17 x18 s0 s1 s2 s3 = some r0) : G p l e ({ frames := 11, cells := kc r0.1.1.2 - kc ν0, slots := ks r0.1.1.2 - ks ν0, locals := 325 } : Room) s m args below meth c D E (Aof (zS μ0 ν0 a0 Ad0) [] s.heap.size) 27 (MQ below (cQ D E sz (zS μ0 ν0 a0 Ad0) [] (pI (fun r u => r = r0.2 ∧ ∃ A1, u = (zS r0.1.1.1 r0.1.1.2 r0.1.2 A1, []) ∧ kp ν0 Ad0 A1))) args s (kc r0.1.1.2 - kc ν0) (ks r0.1.1.2 - ks ν0) (Aof (zS μ0 ν0 a0 Ad0) [] s.heap.size)) (zS μ ν a Ad) [] (kc ν - kc ν0) (ks ν - ks ν0) 259 [(0, .ref (Q 0)), (4, .ref (Q 1)), (16, .int x16), (17, .int x17), (18, .int x18)] [.int s0, .int s1, .int s2, .int s3, .ref (Q 5), .ref (Q 4), .ref (Q 3), .ref (Q 2), .ref (Q 1)] := by
  have m0 := mb_L_trades_259  h
  have e1 := m0.2.1; have e2 := m0.2.2.1; have e3 := hm0.2.1; have e4 := hm0.2.2.1
  have hI := lwI_mn hI0 hm0; have hQ := lwQ_kp hI0 hp0 hQ0
  unfold b_L_trades_259 at h
  refine g_iload C dL_trades_259 2 rfl ?_
  refine g_iload C dL_trades_261 3 rfl ?_
  obtain ⟨v90, hv90, h⟩ := bind_of h
  refine g_cSv (n := 11) (exc := []) (exr := []) C [_, _, _, _, _, _, _, _, _, _, _] _ rfl rfl [] [] rfl rfl rfl rfl (fun _ h => absurd h (by simp)) (fun _ h => absurd h (by simp)) (fun _ h => absurd h (by simp)) (fun sz => wk_L_send l _ ν _ Ad Q hI hQ w _ _ _ _ _ _  _ hv90 D E sz) rfl gw_458 gw_0 gw_456 gw_457 ⟨by decide +kernel, by decide +kernel, by decide +kernel⟩ ⟨rfl, rfl⟩ ⟨Nat.le_of_ble_eq_true rfl, Nat.le_of_ble_eq_true rfl⟩ (Nat.le_of_ble_eq_true rfl) dL_trades_263 ⟨by show (kc ν - kc ν0) + 0 ≤ kc r0.1.1.2 - kc ν0; omega, by show (ks ν - ks ν0) + 0 ≤ ks r0.1.1.2 - ks ν0; omega⟩ (fun u hp hx => ?_)
  obtain rfl := hp
  try dsimp only [List.append_nil]
  refine g_aload C dL_trades_266 1 rfl ?_
  refine g_bipush (v := (18 : Int32)) C dL_trades_268 (by decide) ?_
  refine g_dup2 C dL_trades_270 rfl rfl ?_
  obtain ⟨g91, h⟩ := of_guard h
  refine q_iald C (show rsh (ν.1, μ.2, ν.2, Ad) from hI.2) (j := 1) (N := 22) (by decide) (lwQ_i hQ (j := 1) (N := 22) (by decide)) g91 dL_trades_271 ?_
  refine g_iconst (v := (1 : Int32)) C dL_trades_272 (by decide) ?_
  refine g_iadd C dL_trades_273 ?_
  refine q_iast C (show rsh (ν.1, μ.2, ν.2, Ad) from hI.2) (j := 1) (N := 22) (by decide) (lwQ_i hQ (j := 1) (N := 22) (by decide)) g91 dL_trades_274 (fun a92 ea92 => ?_)
  replace h := yl_of h ea92
  refine g_aload_n C dL_trades_275 rfl 0 rfl ?_
  refine g_iload C dL_trades_276 4 rfl ?_
  refine g_iload C dL_trades_278 2 rfl ?_
  refine g_iload C dL_trades_280 3 rfl ?_
  obtain ⟨v93, hv93, h⟩ := bind_of h
  have m2 := m_L_order hv93
  have m3 := mb_L_trades_285  h
  have a1 := hm0.2.1; have a2 := hm0.2.2.1; have b1 := m2.2.1; have b2 := m2.2.2.1; have d1 := m3.2.1; have d2 := m3.2.2.1
  refine g_cSh (n := 4) (exr := []) C hEv hN ⟨hp0.2.1 0, hp0.2.2 0⟩ [_, _, _, _] _ rfl rfl [] rfl rfl (fun sz => wc_L_order l hl B _ ν _ Ad Q hI hQ w _ _ _ _ hv93 D E sz) rfl gh_order gw_0 gw_1066 gw_1067 ⟨by decide +kernel, by decide +kernel, by decide +kernel⟩ ⟨rfl, rfl⟩ ⟨Nat.le_of_ble_eq_true rfl, Nat.le_of_ble_eq_true rfl⟩ (Nat.le_of_ble_eq_true rfl) dL_trades_282 ⟨by show (kc ν - kc ν0) + (kc v93.1.2 - kc ν) ≤ kc r0.1.1.2 - kc ν0; omega, by show (ks ν - ks ν0) + (ks v93.1.2 - ks ν) ≤ ks r0.1.1.2 - ks ν0; omega⟩ (fun r u hp hx => ?_)
  obtain ⟨er, A1, rfl, hkp⟩ := hp
  rw [er]
  try dsimp only [List.append_nil]
  refine g_widen (k := kc v93.1.2 - kc ν0) (n := ks v93.1.2 - ks ν0) (by omega) (by omega) ?_
  refine g_lv [1] rfl ?_
  exact lb_L_trades_285 hl C hEv hN hr hz hI0 hQ0 (mn_trans hm0 m2) (kp_trans hp0 hm0 hkp)  h
noncomputable def b_L_trades_211  (w : Nat) (μ : MP) (ν : NC) (a : AS) (x16 : Int32) (x17 : Int32) (x18 : Int32) (s0 : Int32) (s1 : Int32) : Option (((MP × NC) × AS) × Int32) := bif ixB s1 10 then yl (up2 a 12 s1.toNatClampNeg s0) (fun a84 => bif ixB (18 : Int32) 22 then bif ixB (a84 1 (18 : Int32).toNatClampNeg) 20 then yl (up2 a84 8 (a84 1 (18 : Int32).toNatClampNeg).toNatClampNeg x16) (fun a87 => bif ixB (a87 1 (18 : Int32).toNatClampNeg) 20 then yl (up2 a87 9 (a87 1 (18 : Int32).toNatClampNeg).toNatClampNeg x17) (fun a89 => (if x18 = (0 : Int32) then (b_L_trades_259  w μ ν a89 x16 x17 x18 (0 : Int32) (a89 1 (18 : Int32).toNatClampNeg) (5 : Int32) (0 : Int32)) else (b_L_trades_259  w μ ν a89 x16 x17 x18 (1 : Int32) (a89 1 (18 : Int32).toNatClampNeg) (5 : Int32) (0 : Int32)))) else none) else none else none) else none
theorem mb_L_trades_211 {w : Nat} {μ : MP} {ν : NC} {a : AS} {x16 : Int32} {x17 : Int32} {x18 : Int32} {s0 : Int32} {s1 : Int32} {r0 : ((MP × NC) × AS) × Int32}   (h : b_L_trades_211  w μ ν a x16 x17 x18 s0 s1 = some r0) : mn ν r0.1.1.2 := by
  unfold b_L_trades_211 at h
  replace h := (of_guard h).2
  obtain ⟨a84, ea84⟩ : ∃ y, up2 a 12 s1.toNatClampNeg s0 = y := ⟨_, rfl⟩
  replace h := yl_of h ea84
  replace h := (of_guard h).2
  replace h := (of_guard h).2
  obtain ⟨a87, ea87⟩ : ∃ y, up2 a84 8 (a84 1 (18 : Int32).toNatClampNeg).toNatClampNeg x16 = y := ⟨_, rfl⟩
  replace h := yl_of h ea87
  replace h := (of_guard h).2
  obtain ⟨a89, ea89⟩ : ∃ y, up2 a87 9 (a87 1 (18 : Int32).toNatClampNeg).toNatClampNeg x17 = y := ⟨_, rfl⟩
  replace h := yl_of h ea89
  by_cases c251 : x18 = (0 : Int32)
  · replace h := (if_pos c251).symm.trans h
    exact mb_L_trades_259  h
  · replace h := (if_neg c251).symm.trans h
    exact mb_L_trades_259  h
set_option maxHeartbeats 4000000 in
set_option maxRecDepth 100000 in
theorem lb_L_trades_211 {p : Program} {l : Launch} (hl : l.stackTraces = false) {e : Env} {s : State} {m : MethodId} {args : Array Value} {below : List Frame} {meth : Method} {c : Code} {D : va_G} {E : Nat → ClassId} {sz : Nat} {μ0 : MP} {ν0 : NC} {a0 : AS} {Ad0 : Nat → Nat → Nat} {Q : Nat → Nat} {B : Nat × (Nat → Nat)} {w : Nat} {r0 : ((MP × NC) × AS) × Int32} (C : cx p s m args meth c D E (Aof (zS μ0 ν0 a0 Ad0) [] s.heap.size) cL_trades 27 "TradeLineLaw") (hEv : eV (Ad0 30 0) (Ad0 31 0) B (Aof (zS μ0 ν0 a0 Ad0) [] s.heap.size) s s.heap) (hN : vN s) (hr : meth.sig.returnType = (some .boolean)) (hz : s.heap.size = sz) (hI0 : lwI ν0) (hQ0 : lwQ Ad0 Q) {μ : MP} {ν : NC} {a : AS} {Ad : Nat → Nat → Nat} (hm0 : mn ν0 ν) (hp0 : kp ν0 Ad0 Ad) {x16 : Int32} {x17 : Int32} {x18 : Int32} {s0 : Int32} {s1 : Int32}   (h : b_L_trades_211  w μ ν a x16 x17 x18 s0 s1 = some r0) : G p l e ({ frames := 11, cells := kc r0.1.1.2 - kc ν0, slots := ks r0.1.1.2 - ks ν0, locals := 325 } : Room) s m args below meth c D E (Aof (zS μ0 ν0 a0 Ad0) [] s.heap.size) 27 (MQ below (cQ D E sz (zS μ0 ν0 a0 Ad0) [] (pI (fun r u => r = r0.2 ∧ ∃ A1, u = (zS r0.1.1.1 r0.1.1.2 r0.1.2 A1, []) ∧ kp ν0 Ad0 A1))) args s (kc r0.1.1.2 - kc ν0) (ks r0.1.1.2 - ks ν0) (Aof (zS μ0 ν0 a0 Ad0) [] s.heap.size)) (zS μ ν a Ad) [] (kc ν - kc ν0) (ks ν - ks ν0) 211 [(0, .ref (Q 0)), (4, .ref (Q 1)), (5, .ref (Q 2)), (6, .ref (Q 3)), (7, .ref (Q 4)), (8, .ref (Q 5)), (9, .ref (Q 8)), (10, .ref (Q 9)), (16, .int x16), (17, .int x17), (18, .int x18)] [.int s0, .int s1, .ref (Q 12)] := by
  have m0 := mb_L_trades_211  h
  have e1 := m0.2.1; have e2 := m0.2.2.1; have e3 := hm0.2.1; have e4 := hm0.2.2.1
  have hI := lwI_mn hI0 hm0; have hQ := lwQ_kp hI0 hp0 hQ0
  unfold b_L_trades_211 at h
  obtain ⟨g83, h⟩ := of_guard h
  refine q_iast C (show rsh (ν.1, μ.2, ν.2, Ad) from hI.2) (j := 12) (N := 10) (by decide) (lwQ_i hQ (j := 12) (N := 10) (by decide)) g83 dL_trades_211 (fun a84 ea84 => ?_)
  replace h := yl_of h ea84
  refine g_aload C dL_trades_212 6 rfl ?_
  refine g_aload C dL_trades_214 1 rfl ?_
  refine g_bipush (v := (18 : Int32)) C dL_trades_216 (by decide) ?_
  obtain ⟨g85, h⟩ := of_guard h
  refine q_iald C (show rsh (ν.1, μ.2, ν.2, Ad) from hI.2) (j := 1) (N := 22) (by decide) (lwQ_i hQ (j := 1) (N := 22) (by decide)) g85 dL_trades_218 ?_
  refine g_iload C dL_trades_219 8 rfl ?_
  obtain ⟨g86, h⟩ := of_guard h
  refine q_iast C (show rsh (ν.1, μ.2, ν.2, Ad) from hI.2) (j := 8) (N := 20) (by decide) (lwQ_i hQ (j := 8) (N := 20) (by decide)) g86 dL_trades_221 (fun a87 ea87 => ?_)
  replace h := yl_of h ea87
  refine g_aload C dL_trades_222 7 rfl ?_
  refine g_aload C dL_trades_224 1 rfl ?_
  refine g_bipush (v := (18 : Int32)) C dL_trades_226 (by decide) ?_
  refine q_iald C (show rsh (ν.1, μ.2, ν.2, Ad) from hI.2) (j := 1) (N := 22) (by decide) (lwQ_i hQ (j := 1) (N := 22) (by decide)) g85 dL_trades_228 ?_
  refine g_iload C dL_trades_229 9 rfl ?_
  obtain ⟨g88, h⟩ := of_guard h
  refine q_iast C (show rsh (ν.1, μ.2, ν.2, Ad) from hI.2) (j := 9) (N := 20) (by decide) (lwQ_i hQ (j := 9) (N := 20) (by decide)) g88 dL_trades_231 (fun a89 ea89 => ?_)
  replace h := yl_of h ea89
  refine g_aload C dL_trades_232 1 rfl ?_
  refine g_aload C dL_trades_234 2 rfl ?_
  refine g_aload C dL_trades_236 3 rfl ?_
  refine g_aload C dL_trades_238 4 rfl ?_
  refine g_aload C dL_trades_240 5 rfl ?_
  refine g_iconst (v := (0 : Int32)) C dL_trades_242 (by decide) ?_
  refine g_iconst (v := (5 : Int32)) C dL_trades_243 (by decide) ?_
  refine g_aload C dL_trades_244 1 rfl ?_
  refine g_bipush (v := (18 : Int32)) C dL_trades_246 (by decide) ?_
  refine q_iald C (show rsh (ν.1, μ.2, ν.2, Ad) from hI.2) (j := 1) (N := 22) (by decide) (lwQ_i hQ (j := 1) (N := 22) (by decide)) g85 dL_trades_248 ?_
  refine g_iload C dL_trades_249 10 rfl ?_
  refine g_if_eq (tgt := 258) C dL_trades_251 (by decide) (fun c251 => ?_) (fun c251 => ?_)
  · replace h := (if_pos c251).symm.trans h
    refine g_iconst (v := (0 : Int32)) C dL_trades_258 (by decide) ?_
    refine g_lv [0, 1, 8, 9, 10] rfl ?_
    exact lb_L_trades_259 hl C hEv hN hr hz hI0 hQ0 hm0 hp0  h
  · replace h := (if_neg c251).symm.trans h
    refine g_iconst (v := (1 : Int32)) C dL_trades_254 (by decide) ?_
    refine g_goto (tgt := 259) C dL_trades_255 (by decide) ?_
    refine g_lv [0, 1, 8, 9, 10] rfl ?_
    exact lb_L_trades_259 hl C hEv hN hr hz hI0 hQ0 hm0 hp0  h
noncomputable def b_L_trades_157  (w : Nat) (μ : MP) (ν : NC) (a : AS)  (s0 : Int32) : Option (((MP × NC) × AS) × Int32) := (if s0 = (-7300 : Int32) then (some (((μ, ν), a), (1 : Int32))) else (some (((μ, ν), a), (0 : Int32))))
theorem mb_L_trades_157 {w : Nat} {μ : MP} {ν : NC} {a : AS}  {s0 : Int32} {r0 : ((MP × NC) × AS) × Int32}   (h : b_L_trades_157  w μ ν a  s0 = some r0) : mn ν r0.1.1.2 := by
  unfold b_L_trades_157 at h
  by_cases c160 : s0 = (-7300 : Int32)
  · replace h := (if_pos c160).symm.trans h
    obtain rfl := Option.some.inj h
    exact mn_rfl _
  · replace h := (if_neg c160).symm.trans h
    obtain rfl := Option.some.inj h
    exact mn_rfl _
set_option maxHeartbeats 4000000 in
set_option maxRecDepth 100000 in
theorem lb_L_trades_157 {p : Program} {l : Launch} (hl : l.stackTraces = false) {e : Env} {s : State} {m : MethodId} {args : Array Value} {below : List Frame} {meth : Method} {c : Code} {D : va_G} {E : Nat → ClassId} {sz : Nat} {μ0 : MP} {ν0 : NC} {a0 : AS} {Ad0 : Nat → Nat → Nat} {Q : Nat → Nat} {B : Nat × (Nat → Nat)} {w : Nat} {r0 : ((MP × NC) × AS) × Int32} (C : cx p s m args meth c D E (Aof (zS μ0 ν0 a0 Ad0) [] s.heap.size) cL_trades 27 "TradeLineLaw") (hEv : eV (Ad0 30 0) (Ad0 31 0) B (Aof (zS μ0 ν0 a0 Ad0) [] s.heap.size) s s.heap) (hN : vN s) (hr : meth.sig.returnType = (some .boolean)) (hz : s.heap.size = sz) (hI0 : lwI ν0) (hQ0 : lwQ Ad0 Q) {μ : MP} {ν : NC} {a : AS} {Ad : Nat → Nat → Nat} (hm0 : mn ν0 ν) (hp0 : kp ν0 Ad0 Ad)  {s0 : Int32}   (h : b_L_trades_157  w μ ν a  s0 = some r0) : G p l e ({ frames := 11, cells := kc r0.1.1.2 - kc ν0, slots := ks r0.1.1.2 - ks ν0, locals := 325 } : Room) s m args below meth c D E (Aof (zS μ0 ν0 a0 Ad0) [] s.heap.size) 27 (MQ below (cQ D E sz (zS μ0 ν0 a0 Ad0) [] (pI (fun r u => r = r0.2 ∧ ∃ A1, u = (zS r0.1.1.1 r0.1.1.2 r0.1.2 A1, []) ∧ kp ν0 Ad0 A1))) args s (kc r0.1.1.2 - kc ν0) (ks r0.1.1.2 - ks ν0) (Aof (zS μ0 ν0 a0 Ad0) [] s.heap.size)) (zS μ ν a Ad) [] (kc ν - kc ν0) (ks ν - ks ν0) 157 [] [.int s0] := by
  have m0 := mb_L_trades_157  h
  have e1 := m0.2.1; have e2 := m0.2.2.1; have e3 := hm0.2.1; have e4 := hm0.2.2.1
  have hI := lwI_mn hI0 hm0; have hQ := lwQ_kp hI0 hp0 hQ0
  unfold b_L_trades_157 at h
  refine g_sipush (v := (-7300 : Int32)) C dL_trades_157 (by decide) ?_
  refine g_icmp_ne (tgt := 167) C dL_trades_160 (by decide) (fun c160 => ?_) (fun c160 => ?_)
  · replace h := (if_neg c160).symm.trans h
    refine g_iconst (v := (0 : Int32)) C dL_trades_167 (by decide) ?_
    obtain rfl := Option.some.inj h
    exact g_iret C hr rfl hz ⟨(hm0.2.2.2 30 (by decide) (by decide)).1, (hm0.2.2.2 31 (by decide) (by decide)).1, hp0.2.1, hp0.2.2⟩ ⟨rfl, Ad, rfl, hp0⟩ (fun j x h => by simp at h) dL_trades_168
  · replace h := (if_pos c160).symm.trans h
    refine g_iconst (v := (1 : Int32)) C dL_trades_163 (by decide) ?_
    refine g_goto (tgt := 168) C dL_trades_164 (by decide) ?_
    obtain rfl := Option.some.inj h
    exact g_iret C hr rfl hz ⟨(hm0.2.2.2 30 (by decide) (by decide)).1, (hm0.2.2.2 31 (by decide) (by decide)).1, hp0.2.1, hp0.2.2⟩ ⟨rfl, Ad, rfl, hp0⟩ (fun j x h => by simp at h) dL_trades_168
noncomputable def b_L_trades_132  (w : Nat) (μ : MP) (ν : NC) (a : AS) (x16 : Int32) (x17 : Int32) (x18 : Int32) (s0 : Int32) : Option (((MP × NC) × AS) × Int32) := (if s0 = (-7200 : Int32) then (bif ixB (2 : Int32) 22 then (if (a 1 (2 : Int32).toNatClampNeg) = (0 : Int32) then ((f_L_order w μ ν x18 x16 x17).bind (fun v96 => b_L_trades_157  w v96.1.1 v96.1.2 a v96.2)) else (bif ixB (18 : Int32) 22 then (if (a 1 (18 : Int32).toNatClampNeg) = (10 : Int32) then ((f_X8_orders w μ ν).bind (fun v95 => (if v95 = (10 : Int32) then (some (((μ, ν), a), (1 : Int32))) else (some (((μ, ν), a), (0 : Int32)))))) else ((if x18 = (0 : Int32) then (b_L_trades_211  w μ ν a x16 x17 x18 (0 : Int32) (a 1 (18 : Int32).toNatClampNeg)) else (b_L_trades_211  w μ ν a x16 x17 x18 (1 : Int32) (a 1 (18 : Int32).toNatClampNeg))))) else none)) else none) else (some (((μ, ν), a), (0 : Int32))))
theorem mb_L_trades_132 {w : Nat} {μ : MP} {ν : NC} {a : AS} {x16 : Int32} {x17 : Int32} {x18 : Int32} {s0 : Int32} {r0 : ((MP × NC) × AS) × Int32}   (h : b_L_trades_132  w μ ν a x16 x17 x18 s0 = some r0) : mn ν r0.1.1.2 := by
  unfold b_L_trades_132 at h
  by_cases c135 : s0 = (-7200 : Int32)
  · replace h := (if_pos c135).symm.trans h
    replace h := (of_guard h).2
    by_cases c144 : (a 1 (2 : Int32).toNatClampNeg) = (0 : Int32)
    · replace h := (if_pos c144).symm.trans h
      obtain ⟨v96, hv96, h⟩ := bind_of h
      exact mn_trans (m_L_order hv96) (mb_L_trades_157  h)
    · replace h := (if_neg c144).symm.trans h
      replace h := (of_guard h).2
      by_cases c176 : (a 1 (18 : Int32).toNatClampNeg) = (10 : Int32)
      · replace h := (if_pos c176).symm.trans h
        obtain ⟨v95, hv95, h⟩ := bind_of h
        by_cases c185 : v95 = (10 : Int32)
        · replace h := (if_pos c185).symm.trans h
          obtain rfl := Option.some.inj h
          exact mn_rfl _
        · replace h := (if_neg c185).symm.trans h
          obtain rfl := Option.some.inj h
          exact mn_rfl _
      · replace h := (if_neg c176).symm.trans h
        by_cases c203 : x18 = (0 : Int32)
        · replace h := (if_pos c203).symm.trans h
          exact mb_L_trades_211  h
        · replace h := (if_neg c203).symm.trans h
          exact mb_L_trades_211  h
  · replace h := (if_neg c135).symm.trans h
    obtain rfl := Option.some.inj h
    exact mn_rfl _
set_option maxHeartbeats 4000000 in
set_option maxRecDepth 100000 in
theorem lb_L_trades_132 {p : Program} {l : Launch} (hl : l.stackTraces = false) {e : Env} {s : State} {m : MethodId} {args : Array Value} {below : List Frame} {meth : Method} {c : Code} {D : va_G} {E : Nat → ClassId} {sz : Nat} {μ0 : MP} {ν0 : NC} {a0 : AS} {Ad0 : Nat → Nat → Nat} {Q : Nat → Nat} {B : Nat × (Nat → Nat)} {w : Nat} {r0 : ((MP × NC) × AS) × Int32} (C : cx p s m args meth c D E (Aof (zS μ0 ν0 a0 Ad0) [] s.heap.size) cL_trades 27 "TradeLineLaw") (hEv : eV (Ad0 30 0) (Ad0 31 0) B (Aof (zS μ0 ν0 a0 Ad0) [] s.heap.size) s s.heap) (hN : vN s) (hr : meth.sig.returnType = (some .boolean)) (hz : s.heap.size = sz) (hI0 : lwI ν0) (hQ0 : lwQ Ad0 Q) {μ : MP} {ν : NC} {a : AS} {Ad : Nat → Nat → Nat} (hm0 : mn ν0 ν) (hp0 : kp ν0 Ad0 Ad) {x16 : Int32} {x17 : Int32} {x18 : Int32} {s0 : Int32}   (h : b_L_trades_132  w μ ν a x16 x17 x18 s0 = some r0) : G p l e ({ frames := 11, cells := kc r0.1.1.2 - kc ν0, slots := ks r0.1.1.2 - ks ν0, locals := 325 } : Room) s m args below meth c D E (Aof (zS μ0 ν0 a0 Ad0) [] s.heap.size) 27 (MQ below (cQ D E sz (zS μ0 ν0 a0 Ad0) [] (pI (fun r u => r = r0.2 ∧ ∃ A1, u = (zS r0.1.1.1 r0.1.1.2 r0.1.2 A1, []) ∧ kp ν0 Ad0 A1))) args s (kc r0.1.1.2 - kc ν0) (ks r0.1.1.2 - ks ν0) (Aof (zS μ0 ν0 a0 Ad0) [] s.heap.size)) (zS μ ν a Ad) [] (kc ν - kc ν0) (ks ν - ks ν0) 132 [(0, .ref (Q 0)), (4, .ref (Q 1)), (5, .ref (Q 2)), (6, .ref (Q 3)), (7, .ref (Q 4)), (8, .ref (Q 5)), (9, .ref (Q 8)), (10, .ref (Q 9)), (13, .ref (Q 12)), (16, .int x16), (17, .int x17), (18, .int x18)] [.int s0] := by
  have m0 := mb_L_trades_132  h
  have e1 := m0.2.1; have e2 := m0.2.2.1; have e3 := hm0.2.1; have e4 := hm0.2.2.1
  have hI := lwI_mn hI0 hm0; have hQ := lwQ_kp hI0 hp0 hQ0
  unfold b_L_trades_132 at h
  refine g_sipush (v := (-7200 : Int32)) C dL_trades_132 (by decide) ?_
  refine g_icmp_eq (tgt := 140) C dL_trades_135 (by decide) (fun c135 => ?_) (fun c135 => ?_)
  · replace h := (if_pos c135).symm.trans h
    refine g_aload C dL_trades_140 1 rfl ?_
    refine g_iconst (v := (2 : Int32)) C dL_trades_142 (by decide) ?_
    obtain ⟨g81, h⟩ := of_guard h
    refine q_iald C (show rsh (ν.1, μ.2, ν.2, Ad) from hI.2) (j := 1) (N := 22) (by decide) (lwQ_i hQ (j := 1) (N := 22) (by decide)) g81 dL_trades_143 ?_
    refine g_if_ne (tgt := 169) C dL_trades_144 (by decide) (fun c144 => ?_) (fun c144 => ?_)
    · replace h := (if_neg c144).symm.trans h
      refine g_aload C dL_trades_169 1 rfl ?_
      refine g_bipush (v := (18 : Int32)) C dL_trades_171 (by decide) ?_
      obtain ⟨g82, h⟩ := of_guard h
      refine q_iald C (show rsh (ν.1, μ.2, ν.2, Ad) from hI.2) (j := 1) (N := 22) (by decide) (lwQ_i hQ (j := 1) (N := 22) (by decide)) g82 dL_trades_173 ?_
      refine g_bipush (v := (10 : Int32)) C dL_trades_174 (by decide) ?_
      refine g_icmp_ne (tgt := 194) C dL_trades_176 (by decide) (fun c176 => ?_) (fun c176 => ?_)
      · replace h := (if_neg c176).symm.trans h
        refine g_aload C dL_trades_194 8 rfl ?_
        refine g_aload C dL_trades_196 1 rfl ?_
        refine g_bipush (v := (18 : Int32)) C dL_trades_198 (by decide) ?_
        refine q_iald C (show rsh (ν.1, μ.2, ν.2, Ad) from hI.2) (j := 1) (N := 22) (by decide) (lwQ_i hQ (j := 1) (N := 22) (by decide)) g82 dL_trades_200 ?_
        refine g_iload C dL_trades_201 11 rfl ?_
        refine g_if_eq (tgt := 210) C dL_trades_203 (by decide) (fun c203 => ?_) (fun c203 => ?_)
        · replace h := (if_pos c203).symm.trans h
          refine g_iconst (v := (0 : Int32)) C dL_trades_210 (by decide) ?_
          refine g_lv [0, 1, 2, 3, 4, 5, 6, 7, 9, 10, 11] rfl ?_
          exact lb_L_trades_211 hl C hEv hN hr hz hI0 hQ0 hm0 hp0  h
        · replace h := (if_neg c203).symm.trans h
          refine g_iconst (v := (1 : Int32)) C dL_trades_206 (by decide) ?_
          refine g_goto (tgt := 211) C dL_trades_207 (by decide) ?_
          refine g_lv [0, 1, 2, 3, 4, 5, 6, 7, 9, 10, 11] rfl ?_
          exact lb_L_trades_211 hl C hEv hN hr hz hI0 hQ0 hm0 hp0  h
      · replace h := (if_pos c176).symm.trans h
        refine g_aload_n C dL_trades_179 rfl 0 rfl ?_
        obtain ⟨v95, hv95, h⟩ := bind_of h
        refine g_cVi (n := 0) (exc := []) (exr := []) (wr := []) C [] _ rfl rfl [] [] rfl rfl rfl rfl (fun _ h => absurd h (by simp)) (fun _ h => absurd h (by simp)) (fun _ h => absurd h (by simp)) (fun sz => by rw [← hQ.1]; exact c_X8_orders l μ ν a Ad w _ hv95 D E sz) rfl gw_1144 gw_1 gw_1141 gw_1142 gw_1143 ⟨by decide +kernel, by decide +kernel, by decide +kernel⟩ ⟨rfl, rfl⟩ ⟨Nat.le_of_ble_eq_true rfl, Nat.le_of_ble_eq_true rfl⟩ (by rw [← hQ.1]; exact rcvT ⟨hI.1, fun e => absurd e (by decide)⟩ rfl rfl rfl) (Nat.le_of_ble_eq_true rfl) dL_trades_180 ⟨by show (kc ν - kc ν0) + 0 ≤ kc r0.1.1.2 - kc ν0; omega, by show (ks ν - ks ν0) + 0 ≤ ks r0.1.1.2 - ks ν0; omega⟩ (fun r u hp hx => ?_)
        obtain ⟨er, rfl⟩ := hp
        rw [er]
        try dsimp only [List.append_nil]
        refine g_bipush (v := (10 : Int32)) C dL_trades_183 (by decide) ?_
        refine g_icmp_ne (tgt := 192) C dL_trades_185 (by decide) (fun c185 => ?_) (fun c185 => ?_)
        · replace h := (if_neg c185).symm.trans h
          refine g_iconst (v := (0 : Int32)) C dL_trades_192 (by decide) ?_
          obtain rfl := Option.some.inj h
          exact g_iret C hr rfl hz ⟨(hm0.2.2.2 30 (by decide) (by decide)).1, (hm0.2.2.2 31 (by decide) (by decide)).1, hp0.2.1, hp0.2.2⟩ ⟨rfl, Ad, rfl, hp0⟩ (fun j x h => by simp at h) dL_trades_193
        · replace h := (if_pos c185).symm.trans h
          refine g_iconst (v := (1 : Int32)) C dL_trades_188 (by decide) ?_
          refine g_goto (tgt := 193) C dL_trades_189 (by decide) ?_
          obtain rfl := Option.some.inj h
          exact g_iret C hr rfl hz ⟨(hm0.2.2.2 30 (by decide) (by decide)).1, (hm0.2.2.2 31 (by decide) (by decide)).1, hp0.2.1, hp0.2.2⟩ ⟨rfl, Ad, rfl, hp0⟩ (fun j x h => by simp at h) dL_trades_193
    · replace h := (if_pos c144).symm.trans h
      refine g_aload_n C dL_trades_147 rfl 0 rfl ?_
      refine g_iload C dL_trades_148 11 rfl ?_
      refine g_iload C dL_trades_150 9 rfl ?_
      refine g_iload C dL_trades_152 10 rfl ?_
      obtain ⟨v96, hv96, h⟩ := bind_of h
      have m2 := m_L_order hv96
      have m3 := mb_L_trades_157  h
      have a1 := hm0.2.1; have a2 := hm0.2.2.1; have b1 := m2.2.1; have b2 := m2.2.2.1; have d1 := m3.2.1; have d2 := m3.2.2.1
      refine g_cSh (n := 4) (exr := []) C hEv hN ⟨hp0.2.1 0, hp0.2.2 0⟩ [_, _, _, _] _ rfl rfl [] rfl rfl (fun sz => wc_L_order l hl B _ ν _ Ad Q hI hQ w _ _ _ _ hv96 D E sz) rfl gh_order gw_0 gw_1066 gw_1067 ⟨by decide +kernel, by decide +kernel, by decide +kernel⟩ ⟨rfl, rfl⟩ ⟨Nat.le_of_ble_eq_true rfl, Nat.le_of_ble_eq_true rfl⟩ (Nat.le_of_ble_eq_true rfl) dL_trades_154 ⟨by show (kc ν - kc ν0) + (kc v96.1.2 - kc ν) ≤ kc r0.1.1.2 - kc ν0; omega, by show (ks ν - ks ν0) + (ks v96.1.2 - ks ν) ≤ ks r0.1.1.2 - ks ν0; omega⟩ (fun r u hp hx => ?_)
      obtain ⟨er, A1, rfl, hkp⟩ := hp
      rw [er]
      try dsimp only [List.append_nil]
      refine g_widen (k := kc v96.1.2 - kc ν0) (n := ks v96.1.2 - ks ν0) (by omega) (by omega) ?_
      refine g_lv [] rfl ?_
      exact lb_L_trades_157 hl C hEv hN hr hz hI0 hQ0 (mn_trans hm0 m2) (kp_trans hp0 hm0 hkp)  h
  · replace h := (if_neg c135).symm.trans h
    refine g_iconst (v := (0 : Int32)) C dL_trades_138 (by decide) ?_
    obtain rfl := Option.some.inj h
    exact g_iret C hr rfl hz ⟨(hm0.2.2.2 30 (by decide) (by decide)).1, (hm0.2.2.2 31 (by decide) (by decide)).1, hp0.2.1, hp0.2.2⟩ ⟨rfl, Ad, rfl, hp0⟩ (fun j x h => by simp at h) dL_trades_139
noncomputable def b_L_trades_116  (w : Nat) (μ : MP) (ν : NC) (a : AS) (x16 : Int32) (x17 : Int32) (x18 : Int32) (s0 : Int32) : Option (((MP × NC) × AS) × Int32) := (if s0 = (-7200 : Int32) then ((f_L_order w μ ν x18 x16 (101 : Int32)).bind (fun v80 => b_L_trades_132  w v80.1.1 v80.1.2 a x16 x17 x18 v80.2)) else (some (((μ, ν), a), (0 : Int32))))
theorem mb_L_trades_116 {w : Nat} {μ : MP} {ν : NC} {a : AS} {x16 : Int32} {x17 : Int32} {x18 : Int32} {s0 : Int32} {r0 : ((MP × NC) × AS) × Int32}   (h : b_L_trades_116  w μ ν a x16 x17 x18 s0 = some r0) : mn ν r0.1.1.2 := by
  unfold b_L_trades_116 at h
  by_cases c119 : s0 = (-7200 : Int32)
  · replace h := (if_pos c119).symm.trans h
    obtain ⟨v80, hv80, h⟩ := bind_of h
    exact mn_trans (m_L_order hv80) (mb_L_trades_132  h)
  · replace h := (if_neg c119).symm.trans h
    obtain rfl := Option.some.inj h
    exact mn_rfl _
set_option maxHeartbeats 4000000 in
set_option maxRecDepth 100000 in
theorem lb_L_trades_116 {p : Program} {l : Launch} (hl : l.stackTraces = false) {e : Env} {s : State} {m : MethodId} {args : Array Value} {below : List Frame} {meth : Method} {c : Code} {D : va_G} {E : Nat → ClassId} {sz : Nat} {μ0 : MP} {ν0 : NC} {a0 : AS} {Ad0 : Nat → Nat → Nat} {Q : Nat → Nat} {B : Nat × (Nat → Nat)} {w : Nat} {r0 : ((MP × NC) × AS) × Int32} (C : cx p s m args meth c D E (Aof (zS μ0 ν0 a0 Ad0) [] s.heap.size) cL_trades 27 "TradeLineLaw") (hEv : eV (Ad0 30 0) (Ad0 31 0) B (Aof (zS μ0 ν0 a0 Ad0) [] s.heap.size) s s.heap) (hN : vN s) (hr : meth.sig.returnType = (some .boolean)) (hz : s.heap.size = sz) (hI0 : lwI ν0) (hQ0 : lwQ Ad0 Q) {μ : MP} {ν : NC} {a : AS} {Ad : Nat → Nat → Nat} (hm0 : mn ν0 ν) (hp0 : kp ν0 Ad0 Ad) {x16 : Int32} {x17 : Int32} {x18 : Int32} {s0 : Int32}   (h : b_L_trades_116  w μ ν a x16 x17 x18 s0 = some r0) : G p l e ({ frames := 11, cells := kc r0.1.1.2 - kc ν0, slots := ks r0.1.1.2 - ks ν0, locals := 325 } : Room) s m args below meth c D E (Aof (zS μ0 ν0 a0 Ad0) [] s.heap.size) 27 (MQ below (cQ D E sz (zS μ0 ν0 a0 Ad0) [] (pI (fun r u => r = r0.2 ∧ ∃ A1, u = (zS r0.1.1.1 r0.1.1.2 r0.1.2 A1, []) ∧ kp ν0 Ad0 A1))) args s (kc r0.1.1.2 - kc ν0) (ks r0.1.1.2 - ks ν0) (Aof (zS μ0 ν0 a0 Ad0) [] s.heap.size)) (zS μ ν a Ad) [] (kc ν - kc ν0) (ks ν - ks ν0) 116 [(0, .ref (Q 0)), (4, .ref (Q 1)), (5, .ref (Q 2)), (6, .ref (Q 3)), (7, .ref (Q 4)), (8, .ref (Q 5)), (9, .ref (Q 8)), (10, .ref (Q 9)), (13, .ref (Q 12)), (16, .int x16), (17, .int x17), (18, .int x18)] [.int s0] := by
  have m0 := mb_L_trades_116  h
  have e1 := m0.2.1; have e2 := m0.2.2.1; have e3 := hm0.2.1; have e4 := hm0.2.2.1
  have hI := lwI_mn hI0 hm0; have hQ := lwQ_kp hI0 hp0 hQ0
  unfold b_L_trades_116 at h
  refine g_sipush (v := (-7200 : Int32)) C dL_trades_116 (by decide) ?_
  refine g_icmp_ne (tgt := 138) C dL_trades_119 (by decide) (fun c119 => ?_) (fun c119 => ?_)
  · replace h := (if_neg c119).symm.trans h
    refine g_iconst (v := (0 : Int32)) C dL_trades_138 (by decide) ?_
    obtain rfl := Option.some.inj h
    exact g_iret C hr rfl hz ⟨(hm0.2.2.2 30 (by decide) (by decide)).1, (hm0.2.2.2 31 (by decide) (by decide)).1, hp0.2.1, hp0.2.2⟩ ⟨rfl, Ad, rfl, hp0⟩ (fun j x h => by simp at h) dL_trades_139
  · replace h := (if_pos c119).symm.trans h
    refine g_aload_n C dL_trades_122 rfl 0 rfl ?_
    refine g_iload C dL_trades_123 11 rfl ?_
    refine g_iload C dL_trades_125 9 rfl ?_
    refine g_bipush (v := (101 : Int32)) C dL_trades_127 (by decide) ?_
    obtain ⟨v80, hv80, h⟩ := bind_of h
    have m2 := m_L_order hv80
    have m3 := mb_L_trades_132  h
    have a1 := hm0.2.1; have a2 := hm0.2.2.1; have b1 := m2.2.1; have b2 := m2.2.2.1; have d1 := m3.2.1; have d2 := m3.2.2.1
    refine g_cSh (n := 4) (exr := []) C hEv hN ⟨hp0.2.1 0, hp0.2.2 0⟩ [_, _, _, _] _ rfl rfl [] rfl rfl (fun sz => wc_L_order l hl B _ ν _ Ad Q hI hQ w _ _ _ _ hv80 D E sz) rfl gh_order gw_0 gw_1066 gw_1067 ⟨by decide +kernel, by decide +kernel, by decide +kernel⟩ ⟨rfl, rfl⟩ ⟨Nat.le_of_ble_eq_true rfl, Nat.le_of_ble_eq_true rfl⟩ (Nat.le_of_ble_eq_true rfl) dL_trades_129 ⟨by show (kc ν - kc ν0) + (kc v80.1.2 - kc ν) ≤ kc r0.1.1.2 - kc ν0; omega, by show (ks ν - ks ν0) + (ks v80.1.2 - ks ν) ≤ ks r0.1.1.2 - ks ν0; omega⟩ (fun r u hp hx => ?_)
    obtain ⟨er, A1, rfl, hkp⟩ := hp
    rw [er]
    try dsimp only [List.append_nil]
    refine g_widen (k := kc v80.1.2 - kc ν0) (n := ks v80.1.2 - ks ν0) (by omega) (by omega) ?_
    refine g_lv [0, 1, 2, 3, 4, 5, 6, 7, 8, 9, 10, 11] rfl ?_
    exact lb_L_trades_132 hl C hEv hN hr hz hI0 hQ0 (mn_trans hm0 m2) (kp_trans hp0 hm0 hkp)  h
noncomputable def b_L_trades_101  (w : Nat) (μ : MP) (ν : NC) (a : AS) (x16 : Int32) (x17 : Int32) (x18 : Int32) (s0 : Int32) : Option (((MP × NC) × AS) × Int32) := (if s0 = (-7200 : Int32) then ((f_L_order w μ ν x18 x16 (0 : Int32)).bind (fun v79 => b_L_trades_116  w v79.1.1 v79.1.2 a x16 x17 x18 v79.2)) else (some (((μ, ν), a), (0 : Int32))))
theorem mb_L_trades_101 {w : Nat} {μ : MP} {ν : NC} {a : AS} {x16 : Int32} {x17 : Int32} {x18 : Int32} {s0 : Int32} {r0 : ((MP × NC) × AS) × Int32}   (h : b_L_trades_101  w μ ν a x16 x17 x18 s0 = some r0) : mn ν r0.1.1.2 := by
  unfold b_L_trades_101 at h
  by_cases c104 : s0 = (-7200 : Int32)
  · replace h := (if_pos c104).symm.trans h
    obtain ⟨v79, hv79, h⟩ := bind_of h
    exact mn_trans (m_L_order hv79) (mb_L_trades_116  h)
  · replace h := (if_neg c104).symm.trans h
    obtain rfl := Option.some.inj h
    exact mn_rfl _
set_option maxHeartbeats 4000000 in
set_option maxRecDepth 100000 in
theorem lb_L_trades_101 {p : Program} {l : Launch} (hl : l.stackTraces = false) {e : Env} {s : State} {m : MethodId} {args : Array Value} {below : List Frame} {meth : Method} {c : Code} {D : va_G} {E : Nat → ClassId} {sz : Nat} {μ0 : MP} {ν0 : NC} {a0 : AS} {Ad0 : Nat → Nat → Nat} {Q : Nat → Nat} {B : Nat × (Nat → Nat)} {w : Nat} {r0 : ((MP × NC) × AS) × Int32} (C : cx p s m args meth c D E (Aof (zS μ0 ν0 a0 Ad0) [] s.heap.size) cL_trades 27 "TradeLineLaw") (hEv : eV (Ad0 30 0) (Ad0 31 0) B (Aof (zS μ0 ν0 a0 Ad0) [] s.heap.size) s s.heap) (hN : vN s) (hr : meth.sig.returnType = (some .boolean)) (hz : s.heap.size = sz) (hI0 : lwI ν0) (hQ0 : lwQ Ad0 Q) {μ : MP} {ν : NC} {a : AS} {Ad : Nat → Nat → Nat} (hm0 : mn ν0 ν) (hp0 : kp ν0 Ad0 Ad) {x16 : Int32} {x17 : Int32} {x18 : Int32} {s0 : Int32}   (h : b_L_trades_101  w μ ν a x16 x17 x18 s0 = some r0) : G p l e ({ frames := 11, cells := kc r0.1.1.2 - kc ν0, slots := ks r0.1.1.2 - ks ν0, locals := 325 } : Room) s m args below meth c D E (Aof (zS μ0 ν0 a0 Ad0) [] s.heap.size) 27 (MQ below (cQ D E sz (zS μ0 ν0 a0 Ad0) [] (pI (fun r u => r = r0.2 ∧ ∃ A1, u = (zS r0.1.1.1 r0.1.1.2 r0.1.2 A1, []) ∧ kp ν0 Ad0 A1))) args s (kc r0.1.1.2 - kc ν0) (ks r0.1.1.2 - ks ν0) (Aof (zS μ0 ν0 a0 Ad0) [] s.heap.size)) (zS μ ν a Ad) [] (kc ν - kc ν0) (ks ν - ks ν0) 101 [(0, .ref (Q 0)), (4, .ref (Q 1)), (5, .ref (Q 2)), (6, .ref (Q 3)), (7, .ref (Q 4)), (8, .ref (Q 5)), (9, .ref (Q 8)), (10, .ref (Q 9)), (13, .ref (Q 12)), (16, .int x16), (17, .int x17), (18, .int x18)] [.int s0] := by
  have m0 := mb_L_trades_101  h
  have e1 := m0.2.1; have e2 := m0.2.2.1; have e3 := hm0.2.1; have e4 := hm0.2.2.1
  have hI := lwI_mn hI0 hm0; have hQ := lwQ_kp hI0 hp0 hQ0
  unfold b_L_trades_101 at h
  refine g_sipush (v := (-7200 : Int32)) C dL_trades_101 (by decide) ?_
  refine g_icmp_ne (tgt := 138) C dL_trades_104 (by decide) (fun c104 => ?_) (fun c104 => ?_)
  · replace h := (if_neg c104).symm.trans h
    refine g_iconst (v := (0 : Int32)) C dL_trades_138 (by decide) ?_
    obtain rfl := Option.some.inj h
    exact g_iret C hr rfl hz ⟨(hm0.2.2.2 30 (by decide) (by decide)).1, (hm0.2.2.2 31 (by decide) (by decide)).1, hp0.2.1, hp0.2.2⟩ ⟨rfl, Ad, rfl, hp0⟩ (fun j x h => by simp at h) dL_trades_139
  · replace h := (if_pos c104).symm.trans h
    refine g_aload_n C dL_trades_107 rfl 0 rfl ?_
    refine g_iload C dL_trades_108 11 rfl ?_
    refine g_iload C dL_trades_110 9 rfl ?_
    refine g_iconst (v := (0 : Int32)) C dL_trades_112 (by decide) ?_
    obtain ⟨v79, hv79, h⟩ := bind_of h
    have m2 := m_L_order hv79
    have m3 := mb_L_trades_116  h
    have a1 := hm0.2.1; have a2 := hm0.2.2.1; have b1 := m2.2.1; have b2 := m2.2.2.1; have d1 := m3.2.1; have d2 := m3.2.2.1
    refine g_cSh (n := 4) (exr := []) C hEv hN ⟨hp0.2.1 0, hp0.2.2 0⟩ [_, _, _, _] _ rfl rfl [] rfl rfl (fun sz => wc_L_order l hl B _ ν _ Ad Q hI hQ w _ _ _ _ hv79 D E sz) rfl gh_order gw_0 gw_1066 gw_1067 ⟨by decide +kernel, by decide +kernel, by decide +kernel⟩ ⟨rfl, rfl⟩ ⟨Nat.le_of_ble_eq_true rfl, Nat.le_of_ble_eq_true rfl⟩ (Nat.le_of_ble_eq_true rfl) dL_trades_113 ⟨by show (kc ν - kc ν0) + (kc v79.1.2 - kc ν) ≤ kc r0.1.1.2 - kc ν0; omega, by show (ks ν - ks ν0) + (ks v79.1.2 - ks ν) ≤ ks r0.1.1.2 - ks ν0; omega⟩ (fun r u hp hx => ?_)
    obtain ⟨er, A1, rfl, hkp⟩ := hp
    rw [er]
    try dsimp only [List.append_nil]
    refine g_widen (k := kc v79.1.2 - kc ν0) (n := ks v79.1.2 - ks ν0) (by omega) (by omega) ?_
    refine g_lv [0, 1, 2, 3, 4, 5, 6, 7, 8, 9, 10, 11] rfl ?_
    exact lb_L_trades_116 hl C hEv hN hr hz hI0 hQ0 (mn_trans hm0 m2) (kp_trans hp0 hm0 hkp)  h
noncomputable def b_L_trades_85  (w : Nat) (μ : MP) (ν : NC) (a : AS) (x16 : Int32) (x17 : Int32) (x18 : Int32) (s0 : Int32) : Option (((MP × NC) × AS) × Int32) := (if s0 = (-7200 : Int32) then ((f_L_order w μ ν x18 (101 : Int32) x17).bind (fun v78 => b_L_trades_101  w v78.1.1 v78.1.2 a x16 x17 x18 v78.2)) else (some (((μ, ν), a), (0 : Int32))))
theorem mb_L_trades_85 {w : Nat} {μ : MP} {ν : NC} {a : AS} {x16 : Int32} {x17 : Int32} {x18 : Int32} {s0 : Int32} {r0 : ((MP × NC) × AS) × Int32}   (h : b_L_trades_85  w μ ν a x16 x17 x18 s0 = some r0) : mn ν r0.1.1.2 := by
  unfold b_L_trades_85 at h
  by_cases c88 : s0 = (-7200 : Int32)
  · replace h := (if_pos c88).symm.trans h
    obtain ⟨v78, hv78, h⟩ := bind_of h
    exact mn_trans (m_L_order hv78) (mb_L_trades_101  h)
  · replace h := (if_neg c88).symm.trans h
    obtain rfl := Option.some.inj h
    exact mn_rfl _
set_option maxHeartbeats 4000000 in
set_option maxRecDepth 100000 in
theorem lb_L_trades_85 {p : Program} {l : Launch} (hl : l.stackTraces = false) {e : Env} {s : State} {m : MethodId} {args : Array Value} {below : List Frame} {meth : Method} {c : Code} {D : va_G} {E : Nat → ClassId} {sz : Nat} {μ0 : MP} {ν0 : NC} {a0 : AS} {Ad0 : Nat → Nat → Nat} {Q : Nat → Nat} {B : Nat × (Nat → Nat)} {w : Nat} {r0 : ((MP × NC) × AS) × Int32} (C : cx p s m args meth c D E (Aof (zS μ0 ν0 a0 Ad0) [] s.heap.size) cL_trades 27 "TradeLineLaw") (hEv : eV (Ad0 30 0) (Ad0 31 0) B (Aof (zS μ0 ν0 a0 Ad0) [] s.heap.size) s s.heap) (hN : vN s) (hr : meth.sig.returnType = (some .boolean)) (hz : s.heap.size = sz) (hI0 : lwI ν0) (hQ0 : lwQ Ad0 Q) {μ : MP} {ν : NC} {a : AS} {Ad : Nat → Nat → Nat} (hm0 : mn ν0 ν) (hp0 : kp ν0 Ad0 Ad) {x16 : Int32} {x17 : Int32} {x18 : Int32} {s0 : Int32}   (h : b_L_trades_85  w μ ν a x16 x17 x18 s0 = some r0) : G p l e ({ frames := 11, cells := kc r0.1.1.2 - kc ν0, slots := ks r0.1.1.2 - ks ν0, locals := 325 } : Room) s m args below meth c D E (Aof (zS μ0 ν0 a0 Ad0) [] s.heap.size) 27 (MQ below (cQ D E sz (zS μ0 ν0 a0 Ad0) [] (pI (fun r u => r = r0.2 ∧ ∃ A1, u = (zS r0.1.1.1 r0.1.1.2 r0.1.2 A1, []) ∧ kp ν0 Ad0 A1))) args s (kc r0.1.1.2 - kc ν0) (ks r0.1.1.2 - ks ν0) (Aof (zS μ0 ν0 a0 Ad0) [] s.heap.size)) (zS μ ν a Ad) [] (kc ν - kc ν0) (ks ν - ks ν0) 85 [(0, .ref (Q 0)), (4, .ref (Q 1)), (5, .ref (Q 2)), (6, .ref (Q 3)), (7, .ref (Q 4)), (8, .ref (Q 5)), (9, .ref (Q 8)), (10, .ref (Q 9)), (13, .ref (Q 12)), (16, .int x16), (17, .int x17), (18, .int x18)] [.int s0] := by
  have m0 := mb_L_trades_85  h
  have e1 := m0.2.1; have e2 := m0.2.2.1; have e3 := hm0.2.1; have e4 := hm0.2.2.1
  have hI := lwI_mn hI0 hm0; have hQ := lwQ_kp hI0 hp0 hQ0
  unfold b_L_trades_85 at h
  refine g_sipush (v := (-7200 : Int32)) C dL_trades_85 (by decide) ?_
  refine g_icmp_ne (tgt := 138) C dL_trades_88 (by decide) (fun c88 => ?_) (fun c88 => ?_)
  · replace h := (if_neg c88).symm.trans h
    refine g_iconst (v := (0 : Int32)) C dL_trades_138 (by decide) ?_
    obtain rfl := Option.some.inj h
    exact g_iret C hr rfl hz ⟨(hm0.2.2.2 30 (by decide) (by decide)).1, (hm0.2.2.2 31 (by decide) (by decide)).1, hp0.2.1, hp0.2.2⟩ ⟨rfl, Ad, rfl, hp0⟩ (fun j x h => by simp at h) dL_trades_139
  · replace h := (if_pos c88).symm.trans h
    refine g_aload_n C dL_trades_91 rfl 0 rfl ?_
    refine g_iload C dL_trades_92 11 rfl ?_
    refine g_bipush (v := (101 : Int32)) C dL_trades_94 (by decide) ?_
    refine g_iload C dL_trades_96 10 rfl ?_
    obtain ⟨v78, hv78, h⟩ := bind_of h
    have m2 := m_L_order hv78
    have m3 := mb_L_trades_101  h
    have a1 := hm0.2.1; have a2 := hm0.2.2.1; have b1 := m2.2.1; have b2 := m2.2.2.1; have d1 := m3.2.1; have d2 := m3.2.2.1
    refine g_cSh (n := 4) (exr := []) C hEv hN ⟨hp0.2.1 0, hp0.2.2 0⟩ [_, _, _, _] _ rfl rfl [] rfl rfl (fun sz => wc_L_order l hl B _ ν _ Ad Q hI hQ w _ _ _ _ hv78 D E sz) rfl gh_order gw_0 gw_1066 gw_1067 ⟨by decide +kernel, by decide +kernel, by decide +kernel⟩ ⟨rfl, rfl⟩ ⟨Nat.le_of_ble_eq_true rfl, Nat.le_of_ble_eq_true rfl⟩ (Nat.le_of_ble_eq_true rfl) dL_trades_98 ⟨by show (kc ν - kc ν0) + (kc v78.1.2 - kc ν) ≤ kc r0.1.1.2 - kc ν0; omega, by show (ks ν - ks ν0) + (ks v78.1.2 - ks ν) ≤ ks r0.1.1.2 - ks ν0; omega⟩ (fun r u hp hx => ?_)
    obtain ⟨er, A1, rfl, hkp⟩ := hp
    rw [er]
    try dsimp only [List.append_nil]
    refine g_widen (k := kc v78.1.2 - kc ν0) (n := ks v78.1.2 - ks ν0) (by omega) (by omega) ?_
    refine g_lv [0, 1, 2, 3, 4, 5, 6, 7, 8, 9, 10, 11] rfl ?_
    exact lb_L_trades_101 hl C hEv hN hr hz hI0 hQ0 (mn_trans hm0 m2) (kp_trans hp0 hm0 hkp)  h
noncomputable def b_L_trades_69  (w : Nat) (μ : MP) (ν : NC) (a : AS) (x1 : Int32) (x2 : Int32) (x3 : Int32) (x16 : Int32) (x17 : Int32) (s0 : Int32) : Option (((MP × NC) × AS) × Int32) := (if (3 : Int32) ≤ x1 then ((if (6 : Int32) ≤ x1 then ((if (9 : Int32) ≤ x1 then ((if x1 = (11 : Int32) then (bif ixB (20 : Int32) 22 then yl (up2 a 1 (20 : Int32).toNatClampNeg ((a 1 (20 : Int32).toNatClampNeg) + (1 : Int32))) (fun a32 => (f_X8_endDay w μ ν).bind (fun v33 => (if v33.2 = (a32 1 (20 : Int32).toNatClampNeg) then (some (((v33.1, ν), a32), (1 : Int32))) else (some (((v33.1, ν), a32), (0 : Int32)))))) else none) else (bif ixB (19 : Int32) 22 then (f_L_low w a x3 ((a 1 (19 : Int32).toNatClampNeg) + (1 : Int32))).bind (fun v6 => (if v6 = (a 1 (19 : Int32).toNatClampNeg) then ((f_L_bust w μ ν v6).bind (fun v28 => b_L_trades_1080  w v28.1.1 v28.1.2 a v6 v28.2)) else (bif ixB v6 60 then (if (lcv (((lgA a 13 v6.toNatClampNeg) >>> (Int32.toInt64 (43 : Int32) &&& 63)) &&& (1 : Int64)) (1 : Int64)) = (0 : Int32) then (b_L_trades_1136  w μ ν a x1 x16 v6 (1 : Int32)) else (b_L_trades_1136  w μ ν a x1 x16 v6 (0 : Int32))) else none))) else none))) else ((f_L_low w a x2 (3 : Int32)).bind (fun v34 => (if (x3 &&& (96 : Int32)) = (0 : Int32) then (b_L_trades_647  w μ ν a x16 s0 v34 (201 : Int32) x3) else (b_L_trades_647  w μ ν a x16 s0 v34 (30 : Int32) x3)))))) else (bif ixB (18 : Int32) 22 then (f_L_low w a (x3 >>> ((7 : Int32) &&& 31)) ((a 1 (18 : Int32).toNatClampNeg) + (1 : Int32))).bind (fun v59 => (if v59 = (a 1 (18 : Int32).toNatClampNeg) then ((f_L_cancel w μ ν v59).bind (fun v74 => b_L_trades_339  w v74.1.1 v74.1.2 a v59 v74.2)) else ((f_L_replace w μ ν v59 (0 : Int32) x17).bind (fun v60 => b_L_trades_385  w v60.1.1 v60.1.2 a x1 x16 x17 v59 v60.2)))) else none))) else ((f_L_order w μ ν s0 (0 : Int32) x17).bind (fun v77 => b_L_trades_85  w v77.1.1 v77.1.2 a x16 x17 s0 v77.2)))
theorem mb_L_trades_69 {w : Nat} {μ : MP} {ν : NC} {a : AS} {x1 : Int32} {x2 : Int32} {x3 : Int32} {x16 : Int32} {x17 : Int32} {s0 : Int32} {r0 : ((MP × NC) × AS) × Int32}   (h : b_L_trades_69  w μ ν a x1 x2 x3 x16 x17 s0 = some r0) : mn ν r0.1.1.2 := by
  unfold b_L_trades_69 at h
  by_cases c73 : (3 : Int32) ≤ x1
  · replace h := (if_pos c73).symm.trans h
    by_cases c304 : (6 : Int32) ≤ x1
    · replace h := (if_pos c304).symm.trans h
      by_cases c621 : (9 : Int32) ≤ x1
      · replace h := (if_pos c621).symm.trans h
        by_cases c1021 : x1 = (11 : Int32)
        · replace h := (if_pos c1021).symm.trans h
          replace h := (of_guard h).2
          obtain ⟨a32, ea32⟩ : ∃ y, up2 a 1 (20 : Int32).toNatClampNeg ((a 1 (20 : Int32).toNatClampNeg) + (1 : Int32)) = y := ⟨_, rfl⟩
          replace h := yl_of h ea32
          obtain ⟨v33, hv33, h⟩ := bind_of h
          by_cases c1042 : v33.2 = (a32 1 (20 : Int32).toNatClampNeg)
          · replace h := (if_pos c1042).symm.trans h
            obtain rfl := Option.some.inj h
            exact mn_rfl _
          · replace h := (if_neg c1042).symm.trans h
            obtain rfl := Option.some.inj h
            exact mn_rfl _
        · replace h := (if_neg c1021).symm.trans h
          replace h := (of_guard h).2
          obtain ⟨v6, hv6, h⟩ := bind_of h
          by_cases c1071 : v6 = (a 1 (19 : Int32).toNatClampNeg)
          · replace h := (if_pos c1071).symm.trans h
            obtain ⟨v28, hv28, h⟩ := bind_of h
            exact mn_trans (m_L_bust hv28) (mb_L_trades_1080  h)
          · replace h := (if_neg c1071).symm.trans h
            replace h := (of_guard h).2
            by_cases c1128 : (lcv (((lgA a 13 v6.toNatClampNeg) >>> (Int32.toInt64 (43 : Int32) &&& 63)) &&& (1 : Int64)) (1 : Int64)) = (0 : Int32)
            · replace h := (if_pos c1128).symm.trans h
              exact mb_L_trades_1136  h
            · replace h := (if_neg c1128).symm.trans h
              exact mb_L_trades_1136  h
      · replace h := (if_neg c621).symm.trans h
        obtain ⟨v34, hv34, h⟩ := bind_of h
        by_cases c636 : (x3 &&& (96 : Int32)) = (0 : Int32)
        · replace h := (if_pos c636).symm.trans h
          exact mb_L_trades_647  h
        · replace h := (if_neg c636).symm.trans h
          exact mb_L_trades_647  h
    · replace h := (if_neg c304).symm.trans h
      replace h := (of_guard h).2
      obtain ⟨v59, hv59, h⟩ := bind_of h
      by_cases c330 : v59 = (a 1 (18 : Int32).toNatClampNeg)
      · replace h := (if_pos c330).symm.trans h
        obtain ⟨v74, hv74, h⟩ := bind_of h
        exact mn_trans (m_L_cancel hv74) (mb_L_trades_339  h)
      · replace h := (if_neg c330).symm.trans h
        obtain ⟨v60, hv60, h⟩ := bind_of h
        exact mn_trans (m_L_replace hv60) (mb_L_trades_385  h)
  · replace h := (if_neg c73).symm.trans h
    obtain ⟨v77, hv77, h⟩ := bind_of h
    exact mn_trans (m_L_order hv77) (mb_L_trades_85  h)
set_option maxHeartbeats 4000000 in
set_option maxRecDepth 100000 in
theorem lb_L_trades_69 {p : Program} {l : Launch} (hl : l.stackTraces = false) {e : Env} {s : State} {m : MethodId} {args : Array Value} {below : List Frame} {meth : Method} {c : Code} {D : va_G} {E : Nat → ClassId} {sz : Nat} {μ0 : MP} {ν0 : NC} {a0 : AS} {Ad0 : Nat → Nat → Nat} {Q : Nat → Nat} {B : Nat × (Nat → Nat)} {w : Nat} {r0 : ((MP × NC) × AS) × Int32} (C : cx p s m args meth c D E (Aof (zS μ0 ν0 a0 Ad0) [] s.heap.size) cL_trades 27 "TradeLineLaw") (hEv : eV (Ad0 30 0) (Ad0 31 0) B (Aof (zS μ0 ν0 a0 Ad0) [] s.heap.size) s s.heap) (hN : vN s) (hr : meth.sig.returnType = (some .boolean)) (hz : s.heap.size = sz) (hI0 : lwI ν0) (hQ0 : lwQ Ad0 Q) {μ : MP} {ν : NC} {a : AS} {Ad : Nat → Nat → Nat} (hm0 : mn ν0 ν) (hp0 : kp ν0 Ad0 Ad) {x1 : Int32} {x2 : Int32} {x3 : Int32} {x16 : Int32} {x17 : Int32} {s0 : Int32}   (h : b_L_trades_69  w μ ν a x1 x2 x3 x16 x17 s0 = some r0) : G p l e ({ frames := 11, cells := kc r0.1.1.2 - kc ν0, slots := ks r0.1.1.2 - ks ν0, locals := 325 } : Room) s m args below meth c D E (Aof (zS μ0 ν0 a0 Ad0) [] s.heap.size) 27 (MQ below (cQ D E sz (zS μ0 ν0 a0 Ad0) [] (pI (fun r u => r = r0.2 ∧ ∃ A1, u = (zS r0.1.1.1 r0.1.1.2 r0.1.2 A1, []) ∧ kp ν0 Ad0 A1))) args s (kc r0.1.1.2 - kc ν0) (ks r0.1.1.2 - ks ν0) (Aof (zS μ0 ν0 a0 Ad0) [] s.heap.size)) (zS μ ν a Ad) [] (kc ν - kc ν0) (ks ν - ks ν0) 69 [(0, .ref (Q 0)), (1, .int x1), (2, .int x2), (3, .int x3), (4, .ref (Q 1)), (5, .ref (Q 2)), (6, .ref (Q 3)), (7, .ref (Q 4)), (8, .ref (Q 5)), (9, .ref (Q 8)), (10, .ref (Q 9)), (11, .ref (Q 10)), (12, .ref (Q 11)), (13, .ref (Q 12)), (14, .ref (Q 13)), (15, .ref (Q 14)), (16, .int x16), (17, .int x17)] [.int s0] := by
  have m0 := mb_L_trades_69  h
  have e1 := m0.2.1; have e2 := m0.2.2.1; have e3 := hm0.2.1; have e4 := hm0.2.2.1
  have hI := lwI_mn hI0 hm0; have hQ := lwQ_kp hI0 hp0 hQ0
  unfold b_L_trades_69 at h
  refine g_istore (lv' := [(18, .int s0), (0, .ref (Q 0)), (1, .int x1), (2, .int x2), (3, .int x3), (4, .ref (Q 1)), (5, .ref (Q 2)), (6, .ref (Q 3)), (7, .ref (Q 4)), (8, .ref (Q 5)), (9, .ref (Q 8)), (10, .ref (Q 9)), (11, .ref (Q 10)), (12, .ref (Q 11)), (13, .ref (Q 12)), (14, .ref (Q 13)), (15, .ref (Q 14)), (16, .int x16), (17, .int x17)]) C dL_trades_69 (by decide) rfl ?_
  refine g_iload_n C dL_trades_71 rfl 2 rfl ?_
  refine g_iconst (v := (3 : Int32)) C dL_trades_72 (by decide) ?_
  refine g_icmp_ge (tgt := 301) C dL_trades_73 (by decide) (fun c73 => ?_) (fun c73 => ?_)
  · replace h := (if_pos c73).symm.trans h
    refine g_iload_n C dL_trades_301 rfl 2 rfl ?_
    refine g_bipush (v := (6 : Int32)) C dL_trades_302 (by decide) ?_
    refine g_icmp_ge (tgt := 618) C dL_trades_304 (by decide) (fun c304 => ?_) (fun c304 => ?_)
    · replace h := (if_pos c304).symm.trans h
      refine g_iload_n C dL_trades_618 rfl 2 rfl ?_
      refine g_bipush (v := (9 : Int32)) C dL_trades_619 (by decide) ?_
      refine g_icmp_ge (tgt := 1018) C dL_trades_621 (by decide) (fun c621 => ?_) (fun c621 => ?_)
      · replace h := (if_pos c621).symm.trans h
        refine g_iload_n C dL_trades_1018 rfl 2 rfl ?_
        refine g_bipush (v := (11 : Int32)) C dL_trades_1019 (by decide) ?_
        refine g_icmp_ne (tgt := 1051) C dL_trades_1021 (by decide) (fun c1021 => ?_) (fun c1021 => ?_)
        · replace h := (if_neg c1021).symm.trans h
          refine g_iload_n C dL_trades_1051 rfl 4 rfl ?_
          refine g_aload C dL_trades_1052 5 rfl ?_
          refine g_bipush (v := (19 : Int32)) C dL_trades_1054 (by decide) ?_
          obtain ⟨g5, h⟩ := of_guard h
          refine q_iald C (show rsh (ν.1, μ.2, ν.2, Ad) from hI.2) (j := 1) (N := 22) (by decide) (lwQ_i hQ (j := 1) (N := 22) (by decide)) g5 dL_trades_1056 ?_
          refine g_iconst (v := (1 : Int32)) C dL_trades_1057 (by decide) ?_
          refine g_iadd C dL_trades_1058 ?_
          obtain ⟨v6, hv6, h⟩ := bind_of h
          refine g_cSi (n := 2) (exc := []) (exr := []) C [_, _] _ rfl rfl [] [] rfl rfl rfl rfl (fun _ h => absurd h (by simp)) (fun _ h => absurd h (by simp)) (fun _ h => absurd h (by simp)) (fun sz => wk_L_low l _ ν _ Ad Q hI hQ w _ _  _ hv6 D E sz) rfl gw_210 gw_0 gw_208 gw_209 ⟨by decide +kernel, by decide +kernel, by decide +kernel⟩ ⟨rfl, rfl⟩ ⟨Nat.le_of_ble_eq_true rfl, Nat.le_of_ble_eq_true rfl⟩ (Nat.le_of_ble_eq_true rfl) dL_trades_1059 ⟨by show (kc ν - kc ν0) + 0 ≤ kc r0.1.1.2 - kc ν0; omega, by show (ks ν - ks ν0) + 0 ≤ ks r0.1.1.2 - ks ν0; omega⟩ (fun r u hp hx => ?_)
          obtain ⟨er, rfl⟩ := hp
          rw [er]
          try dsimp only [List.append_nil]
          refine g_istore (lv' := [(19, .int v6), (18, .int s0), (0, .ref (Q 0)), (1, .int x1), (2, .int x2), (3, .int x3), (4, .ref (Q 1)), (5, .ref (Q 2)), (6, .ref (Q 3)), (7, .ref (Q 4)), (8, .ref (Q 5)), (9, .ref (Q 8)), (10, .ref (Q 9)), (11, .ref (Q 10)), (12, .ref (Q 11)), (13, .ref (Q 12)), (14, .ref (Q 13)), (15, .ref (Q 14)), (16, .int x16), (17, .int x17)]) C dL_trades_1062 (by decide) rfl ?_
          refine g_iload C dL_trades_1064 0 rfl ?_
          refine g_aload C dL_trades_1066 6 rfl ?_
          refine g_bipush (v := (19 : Int32)) C dL_trades_1068 (by decide) ?_
          refine q_iald C (show rsh (ν.1, μ.2, ν.2, Ad) from hI.2) (j := 1) (N := 22) (by decide) (lwQ_i hQ (j := 1) (N := 22) (by decide)) g5 dL_trades_1070 ?_
          refine g_icmp_ne (tgt := 1116) C dL_trades_1071 (by decide) (fun c1071 => ?_) (fun c1071 => ?_)
          · replace h := (if_neg c1071).symm.trans h
            refine g_aload C dL_trades_1116 16 rfl ?_
            refine g_iload C dL_trades_1118 0 rfl ?_
            obtain ⟨g7, h⟩ := of_guard h
            refine q_lald C (show rsh (ν.1, μ.2, ν.2, Ad) from hI.2) (j := 13) (N := 60) (by decide) (lwQ_l hQ (j := 13) (N := 60) (by decide)) g7 dL_trades_1120 ?_
            refine g_bipush (v := (43 : Int32)) C dL_trades_1121 (by decide) ?_
            refine g_lshr C dL_trades_1123 ?_
            refine g_lconst (v := (1 : Int64)) C dL_trades_1124 (by decide) ?_
            refine g_land C dL_trades_1125 ?_
            refine g_lconst (v := (1 : Int64)) C dL_trades_1126 (by decide) ?_
            refine g_lcmp C dL_trades_1127 ?_
            refine g_if_ne (tgt := 1135) C dL_trades_1128 (by decide) (fun c1128 => ?_) (fun c1128 => ?_)
            · replace h := (if_neg c1128).symm.trans h
              refine g_iconst (v := (0 : Int32)) C dL_trades_1135 (by decide) ?_
              refine g_lv [2, 3, 6, 7, 8, 9, 10, 13, 14, 16, 18, 0] rfl ?_
              exact lb_L_trades_1136 hl C hEv hN hr hz hI0 hQ0 hm0 hp0  h
            · replace h := (if_pos c1128).symm.trans h
              refine g_iconst (v := (1 : Int32)) C dL_trades_1131 (by decide) ?_
              refine g_goto (tgt := 1136) C dL_trades_1132 (by decide) ?_
              refine g_lv [2, 3, 6, 7, 8, 9, 10, 13, 14, 16, 18, 0] rfl ?_
              exact lb_L_trades_1136 hl C hEv hN hr hz hI0 hQ0 hm0 hp0  h
          · replace h := (if_pos c1071).symm.trans h
            refine g_aload_n C dL_trades_1074 rfl 2 rfl ?_
            refine g_iload C dL_trades_1075 0 rfl ?_
            obtain ⟨v28, hv28, h⟩ := bind_of h
            have m2 := m_L_bust hv28
            have m3 := mb_L_trades_1080  h
            have a1 := hm0.2.1; have a2 := hm0.2.2.1; have b1 := m2.2.1; have b2 := m2.2.2.1; have d1 := m3.2.1; have d2 := m3.2.2.1
            refine g_cSh (n := 2) (exr := []) C hEv hN ⟨hp0.2.1 0, hp0.2.2 0⟩ [_, _] _ rfl rfl [] rfl rfl (fun sz => wc_L_bust l hl B _ ν _ Ad Q hI hQ w _ _ hv28 D E sz) rfl gh_bust gw_0 gw_1189 gw_1190 ⟨by decide +kernel, by decide +kernel, by decide +kernel⟩ ⟨rfl, rfl⟩ ⟨Nat.le_of_ble_eq_true rfl, Nat.le_of_ble_eq_true rfl⟩ (Nat.le_of_ble_eq_true rfl) dL_trades_1077 ⟨by show (kc ν - kc ν0) + (kc v28.1.2 - kc ν) ≤ kc r0.1.1.2 - kc ν0; omega, by show (ks ν - ks ν0) + (ks v28.1.2 - ks ν) ≤ ks r0.1.1.2 - ks ν0; omega⟩ (fun r u hp hx => ?_)
            obtain ⟨er, A1, rfl, hkp⟩ := hp
            rw [er]
            try dsimp only [List.append_nil]
            refine g_widen (k := kc v28.1.2 - kc ν0) (n := ks v28.1.2 - ks ν0) (by omega) (by omega) ?_
            refine g_lv [2, 0] rfl ?_
            exact lb_L_trades_1080 hl C hEv hN hr hz hI0 hQ0 (mn_trans hm0 m2) (kp_trans hp0 hm0 hkp)  h
        · replace h := (if_pos c1021).symm.trans h
          refine g_aload C dL_trades_1024 5 rfl ?_
          refine g_bipush (v := (20 : Int32)) C dL_trades_1026 (by decide) ?_
          refine g_dup2 C dL_trades_1028 rfl rfl ?_
          obtain ⟨g31, h⟩ := of_guard h
          refine q_iald C (show rsh (ν.1, μ.2, ν.2, Ad) from hI.2) (j := 1) (N := 22) (by decide) (lwQ_i hQ (j := 1) (N := 22) (by decide)) g31 dL_trades_1029 ?_
          refine g_iconst (v := (1 : Int32)) C dL_trades_1030 (by decide) ?_
          refine g_iadd C dL_trades_1031 ?_
          refine q_iast C (show rsh (ν.1, μ.2, ν.2, Ad) from hI.2) (j := 1) (N := 22) (by decide) (lwQ_i hQ (j := 1) (N := 22) (by decide)) g31 dL_trades_1032 (fun a32 ea32 => ?_)
          replace h := yl_of h ea32
          refine g_aload_n C dL_trades_1033 rfl 1 rfl ?_
          obtain ⟨v33, hv33, h⟩ := bind_of h
          refine g_cVi (n := 0) (exc := []) (exr := []) (wr := []) C [] _ rfl rfl [] [] rfl rfl rfl rfl (fun _ h => absurd h (by simp)) (fun _ h => absurd h (by simp)) (fun _ h => absurd h (by simp)) (fun sz => by rw [← hQ.1]; exact c_X8_endDay l μ ν a32 Ad w _ hv33 D E sz) rfl gw_1188 gw_1 gw_1185 gw_1186 gw_1187 ⟨by decide +kernel, by decide +kernel, by decide +kernel⟩ ⟨rfl, rfl⟩ ⟨Nat.le_of_ble_eq_true rfl, Nat.le_of_ble_eq_true rfl⟩ (by rw [← hQ.1]; exact rcvT ⟨hI.1, fun e => absurd e (by decide)⟩ rfl rfl rfl) (Nat.le_of_ble_eq_true rfl) dL_trades_1034 ⟨by show (kc ν - kc ν0) + 0 ≤ kc r0.1.1.2 - kc ν0; omega, by show (ks ν - ks ν0) + 0 ≤ ks r0.1.1.2 - ks ν0; omega⟩ (fun r u hp hx => ?_)
          obtain ⟨er, rfl⟩ := hp
          rw [er]
          try dsimp only [List.append_nil]
          refine g_aload C dL_trades_1037 5 rfl ?_
          refine g_bipush (v := (20 : Int32)) C dL_trades_1039 (by decide) ?_
          refine q_iald C (show rsh (ν.1, v33.1.2, ν.2, Ad) from hI.2) (j := 1) (N := 22) (by decide) (lwQ_i hQ (j := 1) (N := 22) (by decide)) g31 dL_trades_1041 ?_
          refine g_icmp_ne (tgt := 1049) C dL_trades_1042 (by decide) (fun c1042 => ?_) (fun c1042 => ?_)
          · replace h := (if_neg c1042).symm.trans h
            refine g_iconst (v := (0 : Int32)) C dL_trades_1049 (by decide) ?_
            obtain rfl := Option.some.inj h
            exact g_iret C hr rfl hz ⟨(hm0.2.2.2 30 (by decide) (by decide)).1, (hm0.2.2.2 31 (by decide) (by decide)).1, hp0.2.1, hp0.2.2⟩ ⟨rfl, Ad, rfl, hp0⟩ (fun j x h => by simp at h) dL_trades_1050
          · replace h := (if_pos c1042).symm.trans h
            refine g_iconst (v := (1 : Int32)) C dL_trades_1045 (by decide) ?_
            refine g_goto (tgt := 1050) C dL_trades_1046 (by decide) ?_
            obtain rfl := Option.some.inj h
            exact g_iret C hr rfl hz ⟨(hm0.2.2.2 30 (by decide) (by decide)).1, (hm0.2.2.2 31 (by decide) (by decide)).1, hp0.2.1, hp0.2.2⟩ ⟨rfl, Ad, rfl, hp0⟩ (fun j x h => by simp at h) dL_trades_1050
      · replace h := (if_neg c621).symm.trans h
        refine g_iload_n C dL_trades_624 rfl 3 rfl ?_
        refine g_iconst (v := (3 : Int32)) C dL_trades_625 (by decide) ?_
        obtain ⟨v34, hv34, h⟩ := bind_of h
        refine g_cSi (n := 2) (exc := []) (exr := []) C [_, _] _ rfl rfl [] [] rfl rfl rfl rfl (fun _ h => absurd h (by simp)) (fun _ h => absurd h (by simp)) (fun _ h => absurd h (by simp)) (fun sz => wk_L_low l _ ν _ Ad Q hI hQ w _ _  _ hv34 D E sz) rfl gw_210 gw_0 gw_208 gw_209 ⟨by decide +kernel, by decide +kernel, by decide +kernel⟩ ⟨rfl, rfl⟩ ⟨Nat.le_of_ble_eq_true rfl, Nat.le_of_ble_eq_true rfl⟩ (Nat.le_of_ble_eq_true rfl) dL_trades_626 ⟨by show (kc ν - kc ν0) + 0 ≤ kc r0.1.1.2 - kc ν0; omega, by show (ks ν - ks ν0) + 0 ≤ ks r0.1.1.2 - ks ν0; omega⟩ (fun r u hp hx => ?_)
        obtain ⟨er, rfl⟩ := hp
        rw [er]
        try dsimp only [List.append_nil]
        refine g_istore (lv' := [(19, .int v34), (18, .int s0), (0, .ref (Q 0)), (1, .int x1), (2, .int x2), (3, .int x3), (4, .ref (Q 1)), (5, .ref (Q 2)), (6, .ref (Q 3)), (7, .ref (Q 4)), (8, .ref (Q 5)), (9, .ref (Q 8)), (10, .ref (Q 9)), (11, .ref (Q 10)), (12, .ref (Q 11)), (13, .ref (Q 12)), (14, .ref (Q 13)), (15, .ref (Q 14)), (16, .int x16), (17, .int x17)]) C dL_trades_629 (by decide) rfl ?_
        refine g_iload_n C dL_trades_631 rfl 5 rfl ?_
        refine g_iload_n C dL_trades_632 rfl 5 rfl ?_
        refine g_bipush (v := (96 : Int32)) C dL_trades_633 (by decide) ?_
        refine g_iand C dL_trades_635 ?_
        refine g_if_ne (tgt := 645) C dL_trades_636 (by decide) (fun c636 => ?_) (fun c636 => ?_)
        · replace h := (if_neg c636).symm.trans h
          refine g_bipush (v := (30 : Int32)) C dL_trades_645 (by decide) ?_
          refine g_lv [2, 6, 7, 8, 9, 10, 11, 12, 13, 14, 15, 16, 17, 18, 1, 0] rfl ?_
          exact lb_L_trades_647 hl C hEv hN hr hz hI0 hQ0 hm0 hp0  h
        · replace h := (if_pos c636).symm.trans h
          refine g_sipush (v := (201 : Int32)) C dL_trades_639 (by decide) ?_
          refine g_goto (tgt := 647) C dL_trades_642 (by decide) ?_
          refine g_lv [2, 6, 7, 8, 9, 10, 11, 12, 13, 14, 15, 16, 17, 18, 1, 0] rfl ?_
          exact lb_L_trades_647 hl C hEv hN hr hz hI0 hQ0 hm0 hp0  h
    · replace h := (if_neg c304).symm.trans h
      refine g_iload_n C dL_trades_307 rfl 4 rfl ?_
      refine g_bipush (v := (7 : Int32)) C dL_trades_308 (by decide) ?_
      refine g_ishr C dL_trades_310 ?_
      refine g_aload C dL_trades_311 5 rfl ?_
      refine g_bipush (v := (18 : Int32)) C dL_trades_313 (by decide) ?_
      obtain ⟨g58, h⟩ := of_guard h
      refine q_iald C (show rsh (ν.1, μ.2, ν.2, Ad) from hI.2) (j := 1) (N := 22) (by decide) (lwQ_i hQ (j := 1) (N := 22) (by decide)) g58 dL_trades_315 ?_
      refine g_iconst (v := (1 : Int32)) C dL_trades_316 (by decide) ?_
      refine g_iadd C dL_trades_317 ?_
      obtain ⟨v59, hv59, h⟩ := bind_of h
      refine g_cSi (n := 2) (exc := []) (exr := []) C [_, _] _ rfl rfl [] [] rfl rfl rfl rfl (fun _ h => absurd h (by simp)) (fun _ h => absurd h (by simp)) (fun _ h => absurd h (by simp)) (fun sz => wk_L_low l _ ν _ Ad Q hI hQ w _ _  _ hv59 D E sz) rfl gw_210 gw_0 gw_208 gw_209 ⟨by decide +kernel, by decide +kernel, by decide +kernel⟩ ⟨rfl, rfl⟩ ⟨Nat.le_of_ble_eq_true rfl, Nat.le_of_ble_eq_true rfl⟩ (Nat.le_of_ble_eq_true rfl) dL_trades_318 ⟨by show (kc ν - kc ν0) + 0 ≤ kc r0.1.1.2 - kc ν0; omega, by show (ks ν - ks ν0) + 0 ≤ ks r0.1.1.2 - ks ν0; omega⟩ (fun r u hp hx => ?_)
      obtain ⟨er, rfl⟩ := hp
      rw [er]
      try dsimp only [List.append_nil]
      refine g_istore (lv' := [(19, .int v59), (18, .int s0), (0, .ref (Q 0)), (1, .int x1), (2, .int x2), (3, .int x3), (4, .ref (Q 1)), (5, .ref (Q 2)), (6, .ref (Q 3)), (7, .ref (Q 4)), (8, .ref (Q 5)), (9, .ref (Q 8)), (10, .ref (Q 9)), (11, .ref (Q 10)), (12, .ref (Q 11)), (13, .ref (Q 12)), (14, .ref (Q 13)), (15, .ref (Q 14)), (16, .int x16), (17, .int x17)]) C dL_trades_321 (by decide) rfl ?_
      refine g_iload C dL_trades_323 0 rfl ?_
      refine g_aload C dL_trades_325 6 rfl ?_
      refine g_bipush (v := (18 : Int32)) C dL_trades_327 (by decide) ?_
      refine q_iald C (show rsh (ν.1, μ.2, ν.2, Ad) from hI.2) (j := 1) (N := 22) (by decide) (lwQ_i hQ (j := 1) (N := 22) (by decide)) g58 dL_trades_329 ?_
      refine g_icmp_ne (tgt := 376) C dL_trades_330 (by decide) (fun c330 => ?_) (fun c330 => ?_)
      · replace h := (if_neg c330).symm.trans h
        refine g_aload_n C dL_trades_376 rfl 2 rfl ?_
        refine g_iload C dL_trades_377 0 rfl ?_
        refine g_iconst (v := (0 : Int32)) C dL_trades_379 (by decide) ?_
        refine g_iload C dL_trades_380 19 rfl ?_
        obtain ⟨v60, hv60, h⟩ := bind_of h
        have m2 := m_L_replace hv60
        have m3 := mb_L_trades_385  h
        have a1 := hm0.2.1; have a2 := hm0.2.2.1; have b1 := m2.2.1; have b2 := m2.2.2.1; have d1 := m3.2.1; have d2 := m3.2.2.1
        refine g_cSh (n := 4) (exr := []) C hEv hN ⟨hp0.2.1 0, hp0.2.2 0⟩ [_, _, _, _] _ rfl rfl [] rfl rfl (fun sz => wc_L_replace l hl B _ ν _ Ad Q hI hQ w _ _ _ _ hv60 D E sz) rfl gh_replace gw_0 gw_1166 gw_1167 ⟨by decide +kernel, by decide +kernel, by decide +kernel⟩ ⟨rfl, rfl⟩ ⟨Nat.le_of_ble_eq_true rfl, Nat.le_of_ble_eq_true rfl⟩ (Nat.le_of_ble_eq_true rfl) dL_trades_382 ⟨by show (kc ν - kc ν0) + (kc v60.1.2 - kc ν) ≤ kc r0.1.1.2 - kc ν0; omega, by show (ks ν - ks ν0) + (ks v60.1.2 - ks ν) ≤ ks r0.1.1.2 - ks ν0; omega⟩ (fun r u hp hx => ?_)
        obtain ⟨er, A1, rfl, hkp⟩ := hp
        rw [er]
        try dsimp only [List.append_nil]
        refine g_widen (k := kc v60.1.2 - kc ν0) (n := ks v60.1.2 - ks ν0) (by omega) (by omega) ?_
        refine g_lv [2, 3, 6, 7, 8, 9, 10, 12, 13, 14, 15, 18, 19, 0] rfl ?_
        exact lb_L_trades_385 hl C hEv hN hr hz hI0 hQ0 (mn_trans hm0 m2) (kp_trans hp0 hm0 hkp)  h
      · replace h := (if_pos c330).symm.trans h
        refine g_aload_n C dL_trades_333 rfl 2 rfl ?_
        refine g_iload C dL_trades_334 0 rfl ?_
        obtain ⟨v74, hv74, h⟩ := bind_of h
        have m2 := m_L_cancel hv74
        have m3 := mb_L_trades_339  h
        have a1 := hm0.2.1; have a2 := hm0.2.2.1; have b1 := m2.2.1; have b2 := m2.2.2.1; have d1 := m3.2.1; have d2 := m3.2.2.1
        refine g_cSh (n := 2) (exr := []) C hEv hN ⟨hp0.2.1 0, hp0.2.2 0⟩ [_, _] _ rfl rfl [] rfl rfl (fun sz => wc_L_cancel l hl B _ ν _ Ad Q hI hQ w _ _ hv74 D E sz) rfl gh_cancel gw_0 gw_1145 gw_1146 ⟨by decide +kernel, by decide +kernel, by decide +kernel⟩ ⟨rfl, rfl⟩ ⟨Nat.le_of_ble_eq_true rfl, Nat.le_of_ble_eq_true rfl⟩ (Nat.le_of_ble_eq_true rfl) dL_trades_336 ⟨by show (kc ν - kc ν0) + (kc v74.1.2 - kc ν) ≤ kc r0.1.1.2 - kc ν0; omega, by show (ks ν - ks ν0) + (ks v74.1.2 - ks ν) ≤ ks r0.1.1.2 - ks ν0; omega⟩ (fun r u hp hx => ?_)
        obtain ⟨er, A1, rfl, hkp⟩ := hp
        rw [er]
        try dsimp only [List.append_nil]
        refine g_widen (k := kc v74.1.2 - kc ν0) (n := ks v74.1.2 - ks ν0) (by omega) (by omega) ?_
        refine g_lv [2, 0] rfl ?_
        exact lb_L_trades_339 hl C hEv hN hr hz hI0 hQ0 (mn_trans hm0 m2) (kp_trans hp0 hm0 hkp)  h
  · replace h := (if_neg c73).symm.trans h
    refine g_aload_n C dL_trades_76 rfl 1 rfl ?_
    refine g_iload C dL_trades_77 0 rfl ?_
    refine g_iconst (v := (0 : Int32)) C dL_trades_79 (by decide) ?_
    refine g_iload C dL_trades_80 18 rfl ?_
    obtain ⟨v77, hv77, h⟩ := bind_of h
    have m2 := m_L_order hv77
    have m3 := mb_L_trades_85  h
    have a1 := hm0.2.1; have a2 := hm0.2.2.1; have b1 := m2.2.1; have b2 := m2.2.2.1; have d1 := m3.2.1; have d2 := m3.2.2.1
    refine g_cSh (n := 4) (exr := []) C hEv hN ⟨hp0.2.1 0, hp0.2.2 0⟩ [_, _, _, _] _ rfl rfl [] rfl rfl (fun sz => wc_L_order l hl B _ ν _ Ad Q hI hQ w _ _ _ _ hv77 D E sz) rfl gh_order gw_0 gw_1066 gw_1067 ⟨by decide +kernel, by decide +kernel, by decide +kernel⟩ ⟨rfl, rfl⟩ ⟨Nat.le_of_ble_eq_true rfl, Nat.le_of_ble_eq_true rfl⟩ (Nat.le_of_ble_eq_true rfl) dL_trades_82 ⟨by show (kc ν - kc ν0) + (kc v77.1.2 - kc ν) ≤ kc r0.1.1.2 - kc ν0; omega, by show (ks ν - ks ν0) + (ks v77.1.2 - ks ν) ≤ ks r0.1.1.2 - ks ν0; omega⟩ (fun r u hp hx => ?_)
    obtain ⟨er, A1, rfl, hkp⟩ := hp
    rw [er]
    try dsimp only [List.append_nil]
    refine g_widen (k := kc v77.1.2 - kc ν0) (n := ks v77.1.2 - ks ν0) (by omega) (by omega) ?_
    refine g_lv [1, 5, 6, 7, 8, 9, 10, 11, 14, 17, 18, 0] rfl ?_
    exact lb_L_trades_85 hl C hEv hN hr hz hI0 hQ0 (mn_trans hm0 m2) (kp_trans hp0 hm0 hkp)  h
noncomputable def b_L_trades_51  (w : Nat) (μ : MP) (ν : NC) (a : AS) (x1 : Int32) (x2 : Int32) (x3 : Int32) (x16 : Int32) (s0 : Int32) (s1 : Int32) (s2 : Int32) : Option (((MP × NC) × AS) × Int32) := (f_L_low w a s1 s0).bind (fun v3 => yl ((s2 + v3)) (fun t4 => (if (x3 &&& (524288 : Int32)) ≤ (0 : Int32) then (b_L_trades_69  w μ ν a x1 x2 x3 x16 t4 (0 : Int32)) else (b_L_trades_69  w μ ν a x1 x2 x3 x16 t4 (1 : Int32)))))
theorem mb_L_trades_51 {w : Nat} {μ : MP} {ν : NC} {a : AS} {x1 : Int32} {x2 : Int32} {x3 : Int32} {x16 : Int32} {s0 : Int32} {s1 : Int32} {s2 : Int32} {r0 : ((MP × NC) × AS) × Int32}   (h : b_L_trades_51  w μ ν a x1 x2 x3 x16 s0 s1 s2 = some r0) : mn ν r0.1.1.2 := by
  unfold b_L_trades_51 at h
  obtain ⟨v3, hv3, h⟩ := bind_of h
  obtain ⟨t4, et4⟩ : ∃ y, (s2 + v3) = y := ⟨_, rfl⟩
  replace h := yl_of h et4
  by_cases c61 : (x3 &&& (524288 : Int32)) ≤ (0 : Int32)
  · replace h := (if_pos c61).symm.trans h
    exact mb_L_trades_69  h
  · replace h := (if_neg c61).symm.trans h
    exact mb_L_trades_69  h
set_option maxHeartbeats 4000000 in
set_option maxRecDepth 100000 in
theorem lb_L_trades_51 {p : Program} {l : Launch} (hl : l.stackTraces = false) {e : Env} {s : State} {m : MethodId} {args : Array Value} {below : List Frame} {meth : Method} {c : Code} {D : va_G} {E : Nat → ClassId} {sz : Nat} {μ0 : MP} {ν0 : NC} {a0 : AS} {Ad0 : Nat → Nat → Nat} {Q : Nat → Nat} {B : Nat × (Nat → Nat)} {w : Nat} {r0 : ((MP × NC) × AS) × Int32} (C : cx p s m args meth c D E (Aof (zS μ0 ν0 a0 Ad0) [] s.heap.size) cL_trades 27 "TradeLineLaw") (hEv : eV (Ad0 30 0) (Ad0 31 0) B (Aof (zS μ0 ν0 a0 Ad0) [] s.heap.size) s s.heap) (hN : vN s) (hr : meth.sig.returnType = (some .boolean)) (hz : s.heap.size = sz) (hI0 : lwI ν0) (hQ0 : lwQ Ad0 Q) {μ : MP} {ν : NC} {a : AS} {Ad : Nat → Nat → Nat} (hm0 : mn ν0 ν) (hp0 : kp ν0 Ad0 Ad) {x1 : Int32} {x2 : Int32} {x3 : Int32} {x16 : Int32} {s0 : Int32} {s1 : Int32} {s2 : Int32}   (h : b_L_trades_51  w μ ν a x1 x2 x3 x16 s0 s1 s2 = some r0) : G p l e ({ frames := 11, cells := kc r0.1.1.2 - kc ν0, slots := ks r0.1.1.2 - ks ν0, locals := 325 } : Room) s m args below meth c D E (Aof (zS μ0 ν0 a0 Ad0) [] s.heap.size) 27 (MQ below (cQ D E sz (zS μ0 ν0 a0 Ad0) [] (pI (fun r u => r = r0.2 ∧ ∃ A1, u = (zS r0.1.1.1 r0.1.1.2 r0.1.2 A1, []) ∧ kp ν0 Ad0 A1))) args s (kc r0.1.1.2 - kc ν0) (ks r0.1.1.2 - ks ν0) (Aof (zS μ0 ν0 a0 Ad0) [] s.heap.size)) (zS μ ν a Ad) [] (kc ν - kc ν0) (ks ν - ks ν0) 51 [(0, .ref (Q 0)), (1, .int x1), (2, .int x2), (3, .int x3), (4, .ref (Q 1)), (5, .ref (Q 2)), (6, .ref (Q 3)), (7, .ref (Q 4)), (8, .ref (Q 5)), (9, .ref (Q 8)), (10, .ref (Q 9)), (11, .ref (Q 10)), (12, .ref (Q 11)), (13, .ref (Q 12)), (14, .ref (Q 13)), (15, .ref (Q 14)), (16, .int x16)] [.int s0, .int s1, .int s2] := by
  have m0 := mb_L_trades_51  h
  have e1 := m0.2.1; have e2 := m0.2.2.1; have e3 := hm0.2.1; have e4 := hm0.2.2.1
  have hI := lwI_mn hI0 hm0; have hQ := lwQ_kp hI0 hp0 hQ0
  unfold b_L_trades_51 at h
  obtain ⟨v3, hv3, h⟩ := bind_of h
  refine g_cSi (n := 2) (exc := []) (exr := []) C [_, _] _ rfl rfl [] [] rfl rfl rfl rfl (fun _ h => absurd h (by simp)) (fun _ h => absurd h (by simp)) (fun _ h => absurd h (by simp)) (fun sz => wk_L_low l _ ν _ Ad Q hI hQ w _ _  _ hv3 D E sz) rfl gw_210 gw_0 gw_208 gw_209 ⟨by decide +kernel, by decide +kernel, by decide +kernel⟩ ⟨rfl, rfl⟩ ⟨Nat.le_of_ble_eq_true rfl, Nat.le_of_ble_eq_true rfl⟩ (Nat.le_of_ble_eq_true rfl) dL_trades_51 ⟨by show (kc ν - kc ν0) + 0 ≤ kc r0.1.1.2 - kc ν0; omega, by show (ks ν - ks ν0) + 0 ≤ ks r0.1.1.2 - ks ν0; omega⟩ (fun r u hp hx => ?_)
  obtain ⟨er, rfl⟩ := hp
  rw [er]
  try dsimp only [List.append_nil]
  refine g_iadd C dL_trades_54 ?_
  refine q_topi (fun t4 et4 => ?_)
  replace h := yl_of h et4
  refine g_istore (lv' := [(17, .int t4), (0, .ref (Q 0)), (1, .int x1), (2, .int x2), (3, .int x3), (4, .ref (Q 1)), (5, .ref (Q 2)), (6, .ref (Q 3)), (7, .ref (Q 4)), (8, .ref (Q 5)), (9, .ref (Q 8)), (10, .ref (Q 9)), (11, .ref (Q 10)), (12, .ref (Q 11)), (13, .ref (Q 12)), (14, .ref (Q 13)), (15, .ref (Q 14)), (16, .int x16)]) C dL_trades_55 (by decide) rfl ?_
  refine g_iload_n C dL_trades_57 rfl 4 rfl ?_
  refine g_ldc (v := (524288 : Int32)) C gw_1065 dL_trades_58 ?_
  refine g_iand C dL_trades_60 ?_
  refine g_if_le (tgt := 68) C dL_trades_61 (by decide) (fun c61 => ?_) (fun c61 => ?_)
  · replace h := (if_pos c61).symm.trans h
    refine g_iconst (v := (0 : Int32)) C dL_trades_68 (by decide) ?_
    refine g_lv [1, 2, 3, 4, 5, 6, 7, 8, 9, 10, 11, 12, 13, 14, 15, 16, 17, 0] rfl ?_
    exact lb_L_trades_69 hl C hEv hN hr hz hI0 hQ0 hm0 hp0  h
  · replace h := (if_neg c61).symm.trans h
    refine g_iconst (v := (1 : Int32)) C dL_trades_64 (by decide) ?_
    refine g_goto (tgt := 69) C dL_trades_65 (by decide) ?_
    refine g_lv [1, 2, 3, 4, 5, 6, 7, 8, 9, 10, 11, 12, 13, 14, 15, 16, 17, 0] rfl ?_
    exact lb_L_trades_69 hl C hEv hN hr hz hI0 hQ0 hm0 hp0  h
noncomputable def b_L_trades_32  (w : Nat) (μ : MP) (ν : NC) (a : AS) (x1 : Int32) (x2 : Int32) (x3 : Int32) (s0 : Int32) (s1 : Int32) : Option (((MP × NC) × AS) × Int32) := yl ((s1 + s0)) (fun t2 => (if (x3 &&& (96 : Int32)) = (0 : Int32) then (b_L_trades_51  w μ ν a x1 x2 x3 t2 (100 : Int32) x3 (1 : Int32)) else (b_L_trades_51  w μ ν a x1 x2 x3 t2 (12 : Int32) x3 (1 : Int32))))
theorem mb_L_trades_32 {w : Nat} {μ : MP} {ν : NC} {a : AS} {x1 : Int32} {x2 : Int32} {x3 : Int32} {s0 : Int32} {s1 : Int32} {r0 : ((MP × NC) × AS) × Int32}   (h : b_L_trades_32  w μ ν a x1 x2 x3 s0 s1 = some r0) : mn ν r0.1.1.2 := by
  unfold b_L_trades_32 at h
  obtain ⟨t2, et2⟩ : ∃ y, (s1 + s0) = y := ⟨_, rfl⟩
  replace h := yl_of h et2
  by_cases c41 : (x3 &&& (96 : Int32)) = (0 : Int32)
  · replace h := (if_pos c41).symm.trans h
    exact mb_L_trades_51  h
  · replace h := (if_neg c41).symm.trans h
    exact mb_L_trades_51  h
set_option maxHeartbeats 4000000 in
set_option maxRecDepth 100000 in
theorem lb_L_trades_32 {p : Program} {l : Launch} (hl : l.stackTraces = false) {e : Env} {s : State} {m : MethodId} {args : Array Value} {below : List Frame} {meth : Method} {c : Code} {D : va_G} {E : Nat → ClassId} {sz : Nat} {μ0 : MP} {ν0 : NC} {a0 : AS} {Ad0 : Nat → Nat → Nat} {Q : Nat → Nat} {B : Nat × (Nat → Nat)} {w : Nat} {r0 : ((MP × NC) × AS) × Int32} (C : cx p s m args meth c D E (Aof (zS μ0 ν0 a0 Ad0) [] s.heap.size) cL_trades 27 "TradeLineLaw") (hEv : eV (Ad0 30 0) (Ad0 31 0) B (Aof (zS μ0 ν0 a0 Ad0) [] s.heap.size) s s.heap) (hN : vN s) (hr : meth.sig.returnType = (some .boolean)) (hz : s.heap.size = sz) (hI0 : lwI ν0) (hQ0 : lwQ Ad0 Q) {μ : MP} {ν : NC} {a : AS} {Ad : Nat → Nat → Nat} (hm0 : mn ν0 ν) (hp0 : kp ν0 Ad0 Ad) {x1 : Int32} {x2 : Int32} {x3 : Int32} {s0 : Int32} {s1 : Int32}   (h : b_L_trades_32  w μ ν a x1 x2 x3 s0 s1 = some r0) : G p l e ({ frames := 11, cells := kc r0.1.1.2 - kc ν0, slots := ks r0.1.1.2 - ks ν0, locals := 325 } : Room) s m args below meth c D E (Aof (zS μ0 ν0 a0 Ad0) [] s.heap.size) 27 (MQ below (cQ D E sz (zS μ0 ν0 a0 Ad0) [] (pI (fun r u => r = r0.2 ∧ ∃ A1, u = (zS r0.1.1.1 r0.1.1.2 r0.1.2 A1, []) ∧ kp ν0 Ad0 A1))) args s (kc r0.1.1.2 - kc ν0) (ks r0.1.1.2 - ks ν0) (Aof (zS μ0 ν0 a0 Ad0) [] s.heap.size)) (zS μ ν a Ad) [] (kc ν - kc ν0) (ks ν - ks ν0) 32 [(0, .ref (Q 0)), (1, .int x1), (2, .int x2), (3, .int x3), (4, .ref (Q 1)), (5, .ref (Q 2)), (6, .ref (Q 3)), (7, .ref (Q 4)), (8, .ref (Q 5)), (9, .ref (Q 8)), (10, .ref (Q 9)), (11, .ref (Q 10)), (12, .ref (Q 11)), (13, .ref (Q 12)), (14, .ref (Q 13)), (15, .ref (Q 14))] [.int s0, .int s1] := by
  have m0 := mb_L_trades_32  h
  have e1 := m0.2.1; have e2 := m0.2.2.1; have e3 := hm0.2.1; have e4 := hm0.2.2.1
  have hI := lwI_mn hI0 hm0; have hQ := lwQ_kp hI0 hp0 hQ0
  unfold b_L_trades_32 at h
  refine g_iadd C dL_trades_32 ?_
  refine q_topi (fun t2 et2 => ?_)
  replace h := yl_of h et2
  refine g_istore (lv' := [(16, .int t2), (0, .ref (Q 0)), (1, .int x1), (2, .int x2), (3, .int x3), (4, .ref (Q 1)), (5, .ref (Q 2)), (6, .ref (Q 3)), (7, .ref (Q 4)), (8, .ref (Q 5)), (9, .ref (Q 8)), (10, .ref (Q 9)), (11, .ref (Q 10)), (12, .ref (Q 11)), (13, .ref (Q 12)), (14, .ref (Q 13)), (15, .ref (Q 14))]) C dL_trades_33 (by decide) rfl ?_
  refine g_iconst (v := (1 : Int32)) C dL_trades_35 (by decide) ?_
  refine g_iload_n C dL_trades_36 rfl 4 rfl ?_
  refine g_iload_n C dL_trades_37 rfl 4 rfl ?_
  refine g_bipush (v := (96 : Int32)) C dL_trades_38 (by decide) ?_
  refine g_iand C dL_trades_40 ?_
  refine g_if_ne (tgt := 49) C dL_trades_41 (by decide) (fun c41 => ?_) (fun c41 => ?_)
  · replace h := (if_neg c41).symm.trans h
    refine g_bipush (v := (12 : Int32)) C dL_trades_49 (by decide) ?_
    refine g_lv [1, 2, 3, 4, 5, 6, 7, 8, 9, 10, 11, 12, 13, 14, 15, 16, 0] rfl ?_
    exact lb_L_trades_51 hl C hEv hN hr hz hI0 hQ0 hm0 hp0  h
  · replace h := (if_pos c41).symm.trans h
    refine g_bipush (v := (100 : Int32)) C dL_trades_44 (by decide) ?_
    refine g_goto (tgt := 51) C dL_trades_46 (by decide) ?_
    refine g_lv [1, 2, 3, 4, 5, 6, 7, 8, 9, 10, 11, 12, 13, 14, 15, 16, 0] rfl ?_
    exact lb_L_trades_51 hl C hEv hN hr hz hI0 hQ0 hm0 hp0  h
noncomputable def f_L_trades  (w : Nat) (μ : MP) (ν : NC) (a : AS) (x1 : Int32) (x2 : Int32) (x3 : Int32)  : Option (((MP × NC) × AS) × Int32) := (if (x2 &&& (96 : Int32)) = (0 : Int32) then ((f_L_low w a (x2 >>> ((7 : Int32) &&& 31)) (100 : Int32)).bind (fun v97 => b_L_trades_32  w μ ν a x1 x2 x3 v97 (1 : Int32))) else ((f_L_low w a (x2 >>> ((7 : Int32) &&& 31)) (8 : Int32)).bind (fun v1 => b_L_trades_32  w μ ν a x1 x2 x3 ((40 : Int32) + v1) (1 : Int32))))
theorem mb_L_trades_0 {w : Nat} {μ : MP} {ν : NC} {a : AS} {x1 : Int32} {x2 : Int32} {x3 : Int32}  {r0 : ((MP × NC) × AS) × Int32}   (h : f_L_trades  w μ ν a x1 x2 x3  = some r0) : mn ν r0.1.1.2 := by
  unfold f_L_trades at h
  by_cases c5 : (x2 &&& (96 : Int32)) = (0 : Int32)
  · replace h := (if_pos c5).symm.trans h
    obtain ⟨v97, hv97, h⟩ := bind_of h
    exact mb_L_trades_32  h
  · replace h := (if_neg c5).symm.trans h
    obtain ⟨v1, hv1, h⟩ := bind_of h
    exact mb_L_trades_32  h
set_option maxHeartbeats 4000000 in
set_option maxRecDepth 100000 in
theorem lb_L_trades_0 {p : Program} {l : Launch} (hl : l.stackTraces = false) {e : Env} {s : State} {m : MethodId} {args : Array Value} {below : List Frame} {meth : Method} {c : Code} {D : va_G} {E : Nat → ClassId} {sz : Nat} {μ0 : MP} {ν0 : NC} {a0 : AS} {Ad0 : Nat → Nat → Nat} {Q : Nat → Nat} {B : Nat × (Nat → Nat)} {w : Nat} {r0 : ((MP × NC) × AS) × Int32} (C : cx p s m args meth c D E (Aof (zS μ0 ν0 a0 Ad0) [] s.heap.size) cL_trades 27 "TradeLineLaw") (hEv : eV (Ad0 30 0) (Ad0 31 0) B (Aof (zS μ0 ν0 a0 Ad0) [] s.heap.size) s s.heap) (hN : vN s) (hr : meth.sig.returnType = (some .boolean)) (hz : s.heap.size = sz) (hI0 : lwI ν0) (hQ0 : lwQ Ad0 Q) {μ : MP} {ν : NC} {a : AS} {Ad : Nat → Nat → Nat} (hm0 : mn ν0 ν) (hp0 : kp ν0 Ad0 Ad) {x1 : Int32} {x2 : Int32} {x3 : Int32}    (h : f_L_trades  w μ ν a x1 x2 x3  = some r0) : G p l e ({ frames := 11, cells := kc r0.1.1.2 - kc ν0, slots := ks r0.1.1.2 - ks ν0, locals := 325 } : Room) s m args below meth c D E (Aof (zS μ0 ν0 a0 Ad0) [] s.heap.size) 27 (MQ below (cQ D E sz (zS μ0 ν0 a0 Ad0) [] (pI (fun r u => r = r0.2 ∧ ∃ A1, u = (zS r0.1.1.1 r0.1.1.2 r0.1.2 A1, []) ∧ kp ν0 Ad0 A1))) args s (kc r0.1.1.2 - kc ν0) (ks r0.1.1.2 - ks ν0) (Aof (zS μ0 ν0 a0 Ad0) [] s.heap.size)) (zS μ ν a Ad) [] (kc ν - kc ν0) (ks ν - ks ν0) 0 [(0, .ref (Q 0)), (1, .int x1), (2, .int x2), (3, .int x3), (4, .ref (Q 1)), (5, .ref (Q 2)), (6, .ref (Q 3)), (7, .ref (Q 4)), (8, .ref (Q 5)), (9, .ref (Q 8)), (10, .ref (Q 9)), (11, .ref (Q 10)), (12, .ref (Q 11)), (13, .ref (Q 12)), (14, .ref (Q 13)), (15, .ref (Q 14))] [] := by
  have m0 := mb_L_trades_0  h
  have e1 := m0.2.1; have e2 := m0.2.2.1; have e3 := hm0.2.1; have e4 := hm0.2.2.1
  have hI := lwI_mn hI0 hm0; have hQ := lwQ_kp hI0 hp0 hQ0
  unfold f_L_trades at h
  refine g_iconst (v := (1 : Int32)) C dL_trades_0 (by decide) ?_
  refine g_iload_n C dL_trades_1 rfl 2 rfl ?_
  refine g_bipush (v := (96 : Int32)) C dL_trades_2 (by decide) ?_
  refine g_iand C dL_trades_4 ?_
  refine g_if_ne (tgt := 20) C dL_trades_5 (by decide) (fun c5 => ?_) (fun c5 => ?_)
  · replace h := (if_neg c5).symm.trans h
    refine g_bipush (v := (40 : Int32)) C dL_trades_20 (by decide) ?_
    refine g_iload_n C dL_trades_22 rfl 2 rfl ?_
    refine g_bipush (v := (7 : Int32)) C dL_trades_23 (by decide) ?_
    refine g_ishr C dL_trades_25 ?_
    refine g_bipush (v := (8 : Int32)) C dL_trades_26 (by decide) ?_
    obtain ⟨v1, hv1, h⟩ := bind_of h
    refine g_cSi (n := 2) (exc := []) (exr := []) C [_, _] _ rfl rfl [] [] rfl rfl rfl rfl (fun _ h => absurd h (by simp)) (fun _ h => absurd h (by simp)) (fun _ h => absurd h (by simp)) (fun sz => wk_L_low l _ ν _ Ad Q hI hQ w _ _  _ hv1 D E sz) rfl gw_210 gw_0 gw_208 gw_209 ⟨by decide +kernel, by decide +kernel, by decide +kernel⟩ ⟨rfl, rfl⟩ ⟨Nat.le_of_ble_eq_true rfl, Nat.le_of_ble_eq_true rfl⟩ (Nat.le_of_ble_eq_true rfl) dL_trades_28 ⟨by show (kc ν - kc ν0) + 0 ≤ kc r0.1.1.2 - kc ν0; omega, by show (ks ν - ks ν0) + 0 ≤ ks r0.1.1.2 - ks ν0; omega⟩ (fun r u hp hx => ?_)
    obtain ⟨er, rfl⟩ := hp
    rw [er]
    try dsimp only [List.append_nil]
    refine g_iadd C dL_trades_31 ?_
    refine g_lv [0, 1, 2, 3, 4, 5, 6, 7, 8, 9, 10, 11, 12, 13, 14, 15] rfl ?_
    exact lb_L_trades_32 hl C hEv hN hr hz hI0 hQ0 hm0 hp0  h
  · replace h := (if_pos c5).symm.trans h
    refine g_iload_n C dL_trades_8 rfl 2 rfl ?_
    refine g_bipush (v := (7 : Int32)) C dL_trades_9 (by decide) ?_
    refine g_ishr C dL_trades_11 ?_
    refine g_bipush (v := (100 : Int32)) C dL_trades_12 (by decide) ?_
    obtain ⟨v97, hv97, h⟩ := bind_of h
    refine g_cSi (n := 2) (exc := []) (exr := []) C [_, _] _ rfl rfl [] [] rfl rfl rfl rfl (fun _ h => absurd h (by simp)) (fun _ h => absurd h (by simp)) (fun _ h => absurd h (by simp)) (fun sz => wk_L_low l _ ν _ Ad Q hI hQ w _ _  _ hv97 D E sz) rfl gw_210 gw_0 gw_208 gw_209 ⟨by decide +kernel, by decide +kernel, by decide +kernel⟩ ⟨rfl, rfl⟩ ⟨Nat.le_of_ble_eq_true rfl, Nat.le_of_ble_eq_true rfl⟩ (Nat.le_of_ble_eq_true rfl) dL_trades_14 ⟨by show (kc ν - kc ν0) + 0 ≤ kc r0.1.1.2 - kc ν0; omega, by show (ks ν - ks ν0) + 0 ≤ ks r0.1.1.2 - ks ν0; omega⟩ (fun r u hp hx => ?_)
    obtain ⟨er, rfl⟩ := hp
    rw [er]
    try dsimp only [List.append_nil]
    refine g_goto (tgt := 32) C dL_trades_17 (by decide) ?_
    refine g_lv [0, 1, 2, 3, 4, 5, 6, 7, 8, 9, 10, 11, 12, 13, 14, 15] rfl ?_
    exact lb_L_trades_32 hl C hEv hN hr hz hI0 hQ0 hm0 hp0  h
theorem m_L_trades {w : Nat} {μ : MP} {ν : NC} {a : AS} {x1 : Int32} {x2 : Int32} {x3 : Int32} {r0 : ((MP × NC) × AS) × Int32} (h : f_L_trades w μ ν a x1 x2 x3 = some r0) : mn ν r0.1.1.2 := mb_L_trades_0 h
theorem c_L_trades (l : Launch) (hl : l.stackTraces = false) (B : Nat × (Nat → Nat)) (μ : MP) (ν : NC) (a : AS) (Ad : Nat → Nat → Nat) (Q : Nat → Nat) (hI : lwI ν) (hQ : lwQ Ad Q) (w : Nat) (x1 : Int32) (x2 : Int32) (x3 : Int32) (r0 : ((MP × NC) × AS) × Int32) (h : f_L_trades w μ ν a x1 x2 x3 = some r0) : ∀ D E sz, Met l yL_trades gwL_trades ({ frames := 11, cells := kc r0.1.1.2 - kc ν, slots := ks r0.1.1.2 - ks ν, locals := 325 } : Room) (cPh D E sz B (zS μ ν a Ad) [.ref (Q 0), .int x1, .int x2, .int x3, .ref (Q 1), .ref (Q 2), .ref (Q 3), .ref (Q 4), .ref (Q 5), .ref (Q 8), .ref (Q 9), .ref (Q 10), .ref (Q 11), .ref (Q 12), .ref (Q 13), .ref (Q 14)]) (cQ D E sz (zS μ ν a Ad) [] (pI (fun r u => r = r0.2 ∧ ∃ A1, u = (zS r0.1.1.1 r0.1.1.2 r0.1.2 A1, []) ∧ kp ν Ad A1))) (kc r0.1.1.2 - kc ν) (ks r0.1.1.2 - ks ν) (Aof (zS μ ν a Ad) [] sz) := by
  intro D E sz
  refine g_ofN (cc := cL_trades) (maxL := 27) (ret := (some .boolean)) (own := "TradeLineLaw") (by decide) rfl rfl (Nat.le_of_ble_eq_true rfl) ?_
  intro p e s m args below meth c C hr hz hEv hN
  refine g_lv (lv' := [(0, .ref (Q 0)), (1, .int x1), (2, .int x2), (3, .int x3), (4, .ref (Q 1)), (5, .ref (Q 2)), (6, .ref (Q 3)), (7, .ref (Q 4)), (8, .ref (Q 5)), (9, .ref (Q 8)), (10, .ref (Q 9)), (11, .ref (Q 10)), (12, .ref (Q 11)), (13, .ref (Q 12)), (14, .ref (Q 13)), (15, .ref (Q 14))]) [0, 1, 2, 3, 4, 5, 6, 7, 8, 9, 10, 11, 12, 13, 14, 15] rfl ?_
  refine g_widen (k := kc ν - kc ν) (n := ks ν - ks ν) (Nat.zero_le _) (Nat.zero_le _) ?_
  exact lb_L_trades_0 hl C hEv hN hr hz hI hQ (mn_rfl _) (kp_rfl _ _) h
