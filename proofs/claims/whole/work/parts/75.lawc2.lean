noncomputable def s_isLeftOut (w : Nat) (μ : MP) (ν : NC) (a : AS) (x1 : Int32) : Option ((MP × NC) × AS) := (f_X8_isLeftOut w μ ν x1).bind fun r => (f_X9_isLeftOut w a x1).bind fun q => (f_X9_thrown w q.1).bind fun t => lwq true [(1, 1)] μ ν (r.1, ((μ, ν), nz r.2)) (q.1, nz q.2) t
set_option maxHeartbeats 4000000 in
set_option maxRecDepth 100000 in
theorem w_isLeftOut {p : Program} {l : Launch} {e : Env} {s : State} {m : MethodId} {args : Array Value} {below : List Frame} {meth : Method} {c : Code} {D : va_G} {E : Nat → ClassId} {A : Nat → Prop} {Q : State → Prop} {B : Nat × (Nat → Nat)} {a30 a31 : Nat} {μ : MP} {ν : NC} {a : AS} {Ad : Nat → Nat → Nat} {w : Nat} {b L : Nat} {xs : Nat → Int32} {cells slots : Nat} (C : cx p s m args meth c D E A cL_law 7 "TradeLineLaw") (hEv : eV a30 a31 B A s s.heap) (hN : vN s) (hl : l.stackTraces = false) (hI : lwI ν) (h3 : Ad 30 0 = a30 ∧ Ad 31 0 = a31) (hX : va_X b L xs s s.heap) (hbl : b < s.heap.size) (hbA : ¬ A b) {i x1 : Int32} (q1 : vp_in (i + 1) L ∧ xs (i + 1).toNatClampNeg = x1) {S : (MP × NC) × AS} (h : s_isLeftOut w μ ν a x1 = some S) (hf : cells + (kc S.1.2 - kc ν) + 1 ≤ 299000 ∧ slots + (ks S.1.2 - ks ν) + 6 ≤ 3090000) (kk : ∀ A1, mn ν S.1.2 → kp ν Ad A1 → G p l e room_1 s m args below meth c D E A 7 Q (zS S.1.1 S.1.2 S.2 A1) [] (cells + (kc S.1.2 - kc ν) + 1) (slots + (ks S.1.2 - ks ν) + 6) 2215 [(0, .ref b), (1, .ref (A1 0 0)), (2, .ref (A1 40 0)), (3, .ref (A1 90 0)), (4, .int i)] []) : G p l e room_1 s m args below meth c D E A 7 Q (zS μ ν a Ad) [] (cells) (slots) 1292 [(0, .ref b), (1, .ref (Ad 0 0)), (2, .ref (Ad 40 0)), (3, .ref (Ad 90 0)), (4, .int i)] [] := by
  unfold s_isLeftOut at h
  obtain ⟨r, hr, h⟩ := bind_of h
  obtain ⟨q, hq, h⟩ := bind_of h
  obtain ⟨t, ht, h⟩ := bind_of h
  rcases lwq_t h with ⟨e0, e1, e2, rfl⟩ | ⟨ec, rfl⟩
  · replace e0 : r.1 = 0 := e0
    have hf1 : cells + (kc ν - kc ν) + 1 ≤ 299000 := hf.1
    have hf2 : slots + (ks ν - ks ν) + 6 ≤ 3090000 := hf.2
    refine g_aload_n C dL_law_1292 rfl 1 rfl ?_
    refine g_aload_n C dL_law_1293 rfl 0 rfl ?_
    refine g_iload C dL_law_1294 4 rfl ?_
    refine g_iconst (v := 1) C dL_law_1296 (by decide) ?_
    refine g_iadd C dL_law_1297 ?_
    refine g_ialdX C hX hbl hbA q1.1 dL_law_1298 ?_
    rw [q1.2]
    refine g_aload_n C dL_law_1299 rfl 3 rfl ?_
    refine g_cSh (n := 3) (exr := []) C hEv hN h3 [_, _, _] _ rfl rfl [] rfl rfl (fun sz => r_L_isLeftOut l B μ ν a Ad w x1 r.2 (thr0 hr e0) hI.1 hI.2.1 D E sz) rfl gh_isLeftOut gw_0 gw_1205 gw_1206 ⟨by decide +kernel, by decide +kernel, by decide +kernel⟩ ⟨rfl, rfl⟩ ⟨Nat.le_of_ble_eq_true rfl, Nat.le_of_ble_eq_true rfl⟩ (Nat.le_of_ble_eq_true rfl) dL_law_1300 (rm_hf (by omega) (by omega)) (fun r8 u hp hx => ?_)
    obtain ⟨er8, rfl⟩ := hp
    rw [er8]
    try dsimp only [List.nil_append]
    refine g_istore (lv' := [(5, .int 0), (0, .ref b), (1, .ref (Ad 0 0)), (2, .ref (Ad 40 0)), (3, .ref (Ad 90 0)), (4, .int i)]) C dL_law_1303 (by decide) rfl ?_
    refine g_aload_n C dL_law_1305 rfl 3 rfl ?_
    refine g_aload_n C dL_law_1306 rfl 1 rfl ?_
    refine g_iload C dL_law_1307 5 rfl ?_
    refine g_iconst (v := 1) C dL_law_1309 (by decide) ?_
    refine g_iadd C dL_law_1310 ?_
    refine g_ialdX C hX hbl hbA q1.1 dL_law_1311 ?_
    rw [q1.2]
    refine g_cVi (n := 1) (exc := []) (exr := []) C [_] _ rfl rfl [] [] rfl rfl rfl rfl (fun _ _ h => absurd h (by simp)) (fun _ h => absurd h (by simp)) (fun _ h => absurd h (by simp)) (fun sz => zk_isLeftOut l (up3 μ.1 90 0 0 (nz r.2), μ.2) ν a Ad hI.2.2 w x1 q hq D E sz) rfl gw_1703 gw_9 gw_1700 gw_1701 gw_1702 ⟨by decide +kernel, by decide +kernel, by decide +kernel⟩ ⟨rfl, rfl⟩ ⟨Nat.le_of_ble_eq_true rfl, Nat.le_of_ble_eq_true rfl⟩ (rcvT ⟨hI.2.2.1, fun e => absurd e (by decide)⟩ rfl rfl rfl) (Nat.le_of_ble_eq_true rfl) dL_law_1312 (rm_hf (by omega) (by omega)) (fun r9 u hp hx => ?_)
    obtain ⟨er9, rfl⟩ := hp
    rw [er9]
    try dsimp only [List.nil_append]
    refine g_istore (lv' := [(6, .int q.2), (5, .int 0), (0, .ref b), (1, .ref (Ad 0 0)), (2, .ref (Ad 40 0)), (3, .ref (Ad 90 0)), (4, .int i)]) C dL_law_1315 (by decide) rfl ?_
    refine g_aload_n C dL_law_1317 rfl 4 rfl ?_
    refine g_cVi (n := 0) (exc := []) (exr := []) C [] _ rfl rfl [] [] rfl rfl rfl rfl (fun _ _ h => absurd h (by simp)) (fun _ h => absurd h (by simp)) (fun _ h => absurd h (by simp)) (fun sz => zk_thrown l (up3 μ.1 90 0 0 (nz r.2), μ.2) ν q.1 Ad hI.2.2 w  t ht D E sz) rfl gw_1468 gw_9 gw_1465 gw_1466 gw_1467 ⟨by decide +kernel, by decide +kernel, by decide +kernel⟩ ⟨rfl, rfl⟩ ⟨Nat.le_of_ble_eq_true rfl, Nat.le_of_ble_eq_true rfl⟩ (rcvT ⟨hI.2.2.1, fun e => absurd e (by decide)⟩ rfl rfl rfl) (Nat.le_of_ble_eq_true rfl) dL_law_1318 (rm_hf (by omega) (by omega)) (fun r9 u hp hx => ?_)
    obtain ⟨er9, rfl⟩ := hp
    rw [er9]
    try dsimp only [List.nil_append]
    refine g_iload C dL_law_1321 1 rfl ?_
    refine g_icmp_eq (tgt := 1328) C dL_law_1323 (by decide) (fun c1 => ?_) (fun c1 => absurd e1 c1)
    refine g_iload C dL_law_1328 1 rfl ?_
    refine g_if_ne (tgt := 1352) C dL_law_1330 (by decide) (fun c2 => absurd rfl c2) (fun c2 => ?_)
    refine g_aload_n C dL_law_1333 rfl 5 rfl ?_
    refine g_iconst (v := 0) C dL_law_1334 (by decide) ?_
    refine g_lald (μ := (up3 μ.1 90 0 0 (nz r.2), μ.2)) (ν := ν) (a := q.1) (Ad := Ad) C rfl hI.2.1 dL_law_1335 ?_
    refine g_iload C dL_law_1336 0 rfl ?_
    refine g_nzl C dL_law_1338 dL_law_1341 dL_law_1342 dL_law_1345 ?_
    refine g_lcmp C dL_law_1346 (fun r7 e7 => ?_)
    refine g_if_eq (tgt := 1352) C dL_law_1347 (by decide) (fun c3 => ?_) (fun c3 => absurd (e7.mpr (congrArg Int32.toInt64 (show up3 μ.1 90 0 0 (nz r.2) 90 0 0 = _ from (up3_90 _ _).trans e2))) c3)
    refine g_goto (tgt := 2215) C dL_law_1352 (by decide) ?_
    refine g_lv (lv' := [(0, .ref b), (1, .ref (Ad 0 0)), (2, .ref (Ad 40 0)), (3, .ref (Ad 90 0)), (4, .int i)]) [2, 3, 4, 5, 6] rfl ?_
    refine g_widen (k := cells + (kc ν - kc ν) + 1) (n := slots + (ks ν - ks ν) + 6) (by omega) (by omega) ?_
    exact kk Ad (mn_rfl _) (kp_rfl _ _)
  · rcases cd_cons ec with ⟨e0, e1⟩ | ec
    · have hf1 : cells + (kc ν - kc ν) + 1 ≤ 299000 := hf.1
      have hf2 : slots + (ks ν - ks ν) + 6 ≤ 3090000 := hf.2
      refine g_aload_n C dL_law_1292 rfl 1 rfl ?_
      refine g_aload_n C dL_law_1293 rfl 0 rfl ?_
      refine g_iload C dL_law_1294 4 rfl ?_
      refine g_iconst (v := 1) C dL_law_1296 (by decide) ?_
      refine g_iadd C dL_law_1297 ?_
      refine g_ialdX C hX hbl hbA q1.1 dL_law_1298 ?_
      rw [q1.2]
      refine g_aload_n C dL_law_1299 rfl 3 rfl ?_
      refine g_cSh (n := 3) (exr := []) C hEv hN h3 [_, _, _] _ rfl rfl [] rfl rfl (fun sz => e1_L_isLeftOut l hl B μ ν a Ad w x1 r.2 (thrS hr e0) hI.1 hI.2.1 D E sz) rfl gh_isLeftOut gw_0 gw_1205 gw_1206 ⟨by decide +kernel, by decide +kernel, by decide +kernel⟩ ⟨rfl, rfl⟩ ⟨Nat.le_of_ble_eq_true rfl, Nat.le_of_ble_eq_true rfl⟩ (Nat.le_of_ble_eq_true rfl) dL_law_1300 (rm_hf (by omega) (by omega)) (fun r8 u hp hx => ?_)
      obtain ⟨er8, rfl⟩ := hp
      rw [er8]
      try dsimp only [List.nil_append]
      refine g_istore (lv' := [(5, .int 1), (0, .ref b), (1, .ref (Ad 0 0)), (2, .ref (Ad 40 0)), (3, .ref (Ad 90 0)), (4, .int i)]) C dL_law_1303 (by decide) rfl ?_
      refine g_aload_n C dL_law_1305 rfl 3 rfl ?_
      refine g_aload_n C dL_law_1306 rfl 1 rfl ?_
      refine g_iload C dL_law_1307 5 rfl ?_
      refine g_iconst (v := 1) C dL_law_1309 (by decide) ?_
      refine g_iadd C dL_law_1310 ?_
      refine g_ialdX C hX hbl hbA q1.1 dL_law_1311 ?_
      rw [q1.2]
      refine g_cVi (n := 1) (exc := []) (exr := []) C [_] _ rfl rfl [] [] rfl rfl rfl rfl (fun _ _ h => absurd h (by simp)) (fun _ h => absurd h (by simp)) (fun _ h => absurd h (by simp)) (fun sz => zk_isLeftOut l μ ν a Ad hI.2.2 w x1 q hq D E sz) rfl gw_1703 gw_9 gw_1700 gw_1701 gw_1702 ⟨by decide +kernel, by decide +kernel, by decide +kernel⟩ ⟨rfl, rfl⟩ ⟨Nat.le_of_ble_eq_true rfl, Nat.le_of_ble_eq_true rfl⟩ (rcvT ⟨hI.2.2.1, fun e => absurd e (by decide)⟩ rfl rfl rfl) (Nat.le_of_ble_eq_true rfl) dL_law_1312 (rm_hf (by omega) (by omega)) (fun r9 u hp hx => ?_)
      obtain ⟨er9, rfl⟩ := hp
      rw [er9]
      try dsimp only [List.nil_append]
      refine g_istore (lv' := [(6, .int q.2), (5, .int 1), (0, .ref b), (1, .ref (Ad 0 0)), (2, .ref (Ad 40 0)), (3, .ref (Ad 90 0)), (4, .int i)]) C dL_law_1315 (by decide) rfl ?_
      refine g_aload_n C dL_law_1317 rfl 4 rfl ?_
      refine g_cVi (n := 0) (exc := []) (exr := []) C [] _ rfl rfl [] [] rfl rfl rfl rfl (fun _ _ h => absurd h (by simp)) (fun _ h => absurd h (by simp)) (fun _ h => absurd h (by simp)) (fun sz => zk_thrown l μ ν q.1 Ad hI.2.2 w  t ht D E sz) rfl gw_1468 gw_9 gw_1465 gw_1466 gw_1467 ⟨by decide +kernel, by decide +kernel, by decide +kernel⟩ ⟨rfl, rfl⟩ ⟨Nat.le_of_ble_eq_true rfl, Nat.le_of_ble_eq_true rfl⟩ (rcvT ⟨hI.2.2.1, fun e => absurd e (by decide)⟩ rfl rfl rfl) (Nat.le_of_ble_eq_true rfl) dL_law_1318 (rm_hf (by omega) (by omega)) (fun r9 u hp hx => ?_)
      obtain ⟨er9, rfl⟩ := hp
      rw [er9]
      try dsimp only [List.nil_append]
      refine g_iload C dL_law_1321 1 rfl ?_
      refine g_icmp_eq (tgt := 1328) C dL_law_1323 (by decide) (fun c1 => ?_) (fun c1 => absurd e1 c1)
      refine g_iload C dL_law_1328 1 rfl ?_
      refine g_if_ne (tgt := 1352) C dL_law_1330 (by decide) (fun c2 => ?_) (fun c2 => absurd c2 (by decide))
      refine g_goto (tgt := 2215) C dL_law_1352 (by decide) ?_
      refine g_lv (lv' := [(0, .ref b), (1, .ref (Ad 0 0)), (2, .ref (Ad 40 0)), (3, .ref (Ad 90 0)), (4, .int i)]) [2, 3, 4, 5, 6] rfl ?_
      refine g_widen (k := cells + (kc ν - kc ν) + 1) (n := slots + (ks ν - ks ν) + 6) (by omega) (by omega) ?_
      exact kk Ad (mn_rfl _) (kp_rfl _ _)
    · exact cd_nil ec
noncomputable def s_underWay (w : Nat) (μ : MP) (ν : NC) (a : AS) (x1 : Int32) : Option ((MP × NC) × AS) := (f_X8_underWay w μ ν x1).bind fun r => (f_X9_underWay w a x1).bind fun q => (f_X9_thrown w q.1).bind fun t => lwq true [(1, 1)] μ ν (r.1, ((μ, ν), r.2)) q t
set_option maxHeartbeats 4000000 in
set_option maxRecDepth 100000 in
theorem w_underWay {p : Program} {l : Launch} {e : Env} {s : State} {m : MethodId} {args : Array Value} {below : List Frame} {meth : Method} {c : Code} {D : va_G} {E : Nat → ClassId} {A : Nat → Prop} {Q : State → Prop} {B : Nat × (Nat → Nat)} {a30 a31 : Nat} {μ : MP} {ν : NC} {a : AS} {Ad : Nat → Nat → Nat} {w : Nat} {b L : Nat} {xs : Nat → Int32} {cells slots : Nat} (C : cx p s m args meth c D E A cL_law 7 "TradeLineLaw") (hEv : eV a30 a31 B A s s.heap) (hN : vN s) (hl : l.stackTraces = false) (hI : lwI ν) (h3 : Ad 30 0 = a30 ∧ Ad 31 0 = a31) (hX : va_X b L xs s s.heap) (hbl : b < s.heap.size) (hbA : ¬ A b) {i x1 : Int32} (q1 : vp_in (i + 1) L ∧ xs (i + 1).toNatClampNeg = x1) {S : (MP × NC) × AS} (h : s_underWay w μ ν a x1 = some S) (hf : cells + (kc S.1.2 - kc ν) + 1 ≤ 299000 ∧ slots + (ks S.1.2 - ks ν) + 6 ≤ 3090000) (kk : ∀ A1, mn ν S.1.2 → kp ν Ad A1 → G p l e room_1 s m args below meth c D E A 7 Q (zS S.1.1 S.1.2 S.2 A1) [] (cells + (kc S.1.2 - kc ν) + 1) (slots + (ks S.1.2 - ks ν) + 6) 2215 [(0, .ref b), (1, .ref (A1 0 0)), (2, .ref (A1 40 0)), (3, .ref (A1 90 0)), (4, .int i)] []) : G p l e room_1 s m args below meth c D E A 7 Q (zS μ ν a Ad) [] (cells) (slots) 1355 [(0, .ref b), (1, .ref (Ad 0 0)), (2, .ref (Ad 40 0)), (3, .ref (Ad 90 0)), (4, .int i)] [] := by
  unfold s_underWay at h
  obtain ⟨r, hr, h⟩ := bind_of h
  obtain ⟨q, hq, h⟩ := bind_of h
  obtain ⟨t, ht, h⟩ := bind_of h
  rcases lwq_t h with ⟨e0, e1, e2, rfl⟩ | ⟨ec, rfl⟩
  · replace e0 : r.1 = 0 := e0
    have hf1 : cells + (kc ν - kc ν) + 1 ≤ 299000 := hf.1
    have hf2 : slots + (ks ν - ks ν) + 6 ≤ 3090000 := hf.2
    refine g_aload_n C dL_law_1355 rfl 1 rfl ?_
    refine g_aload_n C dL_law_1356 rfl 0 rfl ?_
    refine g_iload C dL_law_1357 4 rfl ?_
    refine g_iconst (v := 1) C dL_law_1359 (by decide) ?_
    refine g_iadd C dL_law_1360 ?_
    refine g_ialdX C hX hbl hbA q1.1 dL_law_1361 ?_
    rw [q1.2]
    refine g_aload_n C dL_law_1362 rfl 3 rfl ?_
    refine g_cSh (n := 3) (exr := []) C hEv hN h3 [_, _, _] _ rfl rfl [] rfl rfl (fun sz => r_L_underWay l B μ ν a Ad w x1 r.2 (thr0 hr e0) hI.1 hI.2.1 D E sz) rfl gh_underWay gw_0 gw_1212 gw_1213 ⟨by decide +kernel, by decide +kernel, by decide +kernel⟩ ⟨rfl, rfl⟩ ⟨Nat.le_of_ble_eq_true rfl, Nat.le_of_ble_eq_true rfl⟩ (Nat.le_of_ble_eq_true rfl) dL_law_1363 (rm_hf (by omega) (by omega)) (fun r8 u hp hx => ?_)
    obtain ⟨er8, rfl⟩ := hp
    rw [er8]
    try dsimp only [List.nil_append]
    refine g_istore (lv' := [(5, .int 0), (0, .ref b), (1, .ref (Ad 0 0)), (2, .ref (Ad 40 0)), (3, .ref (Ad 90 0)), (4, .int i)]) C dL_law_1366 (by decide) rfl ?_
    refine g_aload_n C dL_law_1368 rfl 3 rfl ?_
    refine g_aload_n C dL_law_1369 rfl 1 rfl ?_
    refine g_iload C dL_law_1370 5 rfl ?_
    refine g_iconst (v := 1) C dL_law_1372 (by decide) ?_
    refine g_iadd C dL_law_1373 ?_
    refine g_ialdX C hX hbl hbA q1.1 dL_law_1374 ?_
    rw [q1.2]
    refine g_cVi (n := 1) (exc := []) (exr := []) C [_] _ rfl rfl [] [] rfl rfl rfl rfl (fun _ _ h => absurd h (by simp)) (fun _ h => absurd h (by simp)) (fun _ h => absurd h (by simp)) (fun sz => zk_underWay l (up3 μ.1 90 0 0 r.2, μ.2) ν a Ad hI.2.2 w x1 q hq D E sz) rfl gw_1707 gw_9 gw_1704 gw_1705 gw_1706 ⟨by decide +kernel, by decide +kernel, by decide +kernel⟩ ⟨rfl, rfl⟩ ⟨Nat.le_of_ble_eq_true rfl, Nat.le_of_ble_eq_true rfl⟩ (rcvT ⟨hI.2.2.1, fun e => absurd e (by decide)⟩ rfl rfl rfl) (Nat.le_of_ble_eq_true rfl) dL_law_1375 (rm_hf (by omega) (by omega)) (fun r9 u hp hx => ?_)
    obtain ⟨er9, rfl⟩ := hp
    rw [er9]
    try dsimp only [List.nil_append]
    refine g_istore (lv' := [(6, .int q.2), (5, .int 0), (0, .ref b), (1, .ref (Ad 0 0)), (2, .ref (Ad 40 0)), (3, .ref (Ad 90 0)), (4, .int i)]) C dL_law_1378 (by decide) rfl ?_
    refine g_aload_n C dL_law_1380 rfl 4 rfl ?_
    refine g_cVi (n := 0) (exc := []) (exr := []) C [] _ rfl rfl [] [] rfl rfl rfl rfl (fun _ _ h => absurd h (by simp)) (fun _ h => absurd h (by simp)) (fun _ h => absurd h (by simp)) (fun sz => zk_thrown l (up3 μ.1 90 0 0 r.2, μ.2) ν q.1 Ad hI.2.2 w  t ht D E sz) rfl gw_1468 gw_9 gw_1465 gw_1466 gw_1467 ⟨by decide +kernel, by decide +kernel, by decide +kernel⟩ ⟨rfl, rfl⟩ ⟨Nat.le_of_ble_eq_true rfl, Nat.le_of_ble_eq_true rfl⟩ (rcvT ⟨hI.2.2.1, fun e => absurd e (by decide)⟩ rfl rfl rfl) (Nat.le_of_ble_eq_true rfl) dL_law_1381 (rm_hf (by omega) (by omega)) (fun r9 u hp hx => ?_)
    obtain ⟨er9, rfl⟩ := hp
    rw [er9]
    try dsimp only [List.nil_append]
    refine g_iload C dL_law_1384 1 rfl ?_
    refine g_icmp_eq (tgt := 1391) C dL_law_1386 (by decide) (fun c1 => ?_) (fun c1 => absurd e1 c1)
    refine g_iload C dL_law_1391 1 rfl ?_
    refine g_if_ne (tgt := 1408) C dL_law_1393 (by decide) (fun c2 => absurd rfl c2) (fun c2 => ?_)
    refine g_aload_n C dL_law_1396 rfl 5 rfl ?_
    refine g_iconst (v := 0) C dL_law_1397 (by decide) ?_
    refine g_lald (μ := (up3 μ.1 90 0 0 r.2, μ.2)) (ν := ν) (a := q.1) (Ad := Ad) C rfl hI.2.1 dL_law_1398 ?_
    refine g_iload C dL_law_1399 0 rfl ?_
    refine g_i2l C dL_law_1401 rfl ?_
    refine g_lcmp C dL_law_1402 (fun r7 e7 => ?_)
    refine g_if_eq (tgt := 1408) C dL_law_1403 (by decide) (fun c3 => ?_) (fun c3 => absurd (e7.mpr (congrArg Int32.toInt64 (show up3 μ.1 90 0 0 r.2 90 0 0 = _ from (up3_90 _ _).trans e2))) c3)
    refine g_goto (tgt := 2215) C dL_law_1408 (by decide) ?_
    refine g_lv (lv' := [(0, .ref b), (1, .ref (Ad 0 0)), (2, .ref (Ad 40 0)), (3, .ref (Ad 90 0)), (4, .int i)]) [2, 3, 4, 5, 6] rfl ?_
    refine g_widen (k := cells + (kc ν - kc ν) + 1) (n := slots + (ks ν - ks ν) + 6) (by omega) (by omega) ?_
    exact kk Ad (mn_rfl _) (kp_rfl _ _)
  · rcases cd_cons ec with ⟨e0, e1⟩ | ec
    · have hf1 : cells + (kc ν - kc ν) + 1 ≤ 299000 := hf.1
      have hf2 : slots + (ks ν - ks ν) + 6 ≤ 3090000 := hf.2
      refine g_aload_n C dL_law_1355 rfl 1 rfl ?_
      refine g_aload_n C dL_law_1356 rfl 0 rfl ?_
      refine g_iload C dL_law_1357 4 rfl ?_
      refine g_iconst (v := 1) C dL_law_1359 (by decide) ?_
      refine g_iadd C dL_law_1360 ?_
      refine g_ialdX C hX hbl hbA q1.1 dL_law_1361 ?_
      rw [q1.2]
      refine g_aload_n C dL_law_1362 rfl 3 rfl ?_
      refine g_cSh (n := 3) (exr := []) C hEv hN h3 [_, _, _] _ rfl rfl [] rfl rfl (fun sz => e1_L_underWay l hl B μ ν a Ad w x1 r.2 (thrS hr e0) hI.1 hI.2.1 D E sz) rfl gh_underWay gw_0 gw_1212 gw_1213 ⟨by decide +kernel, by decide +kernel, by decide +kernel⟩ ⟨rfl, rfl⟩ ⟨Nat.le_of_ble_eq_true rfl, Nat.le_of_ble_eq_true rfl⟩ (Nat.le_of_ble_eq_true rfl) dL_law_1363 (rm_hf (by omega) (by omega)) (fun r8 u hp hx => ?_)
      obtain ⟨er8, rfl⟩ := hp
      rw [er8]
      try dsimp only [List.nil_append]
      refine g_istore (lv' := [(5, .int 1), (0, .ref b), (1, .ref (Ad 0 0)), (2, .ref (Ad 40 0)), (3, .ref (Ad 90 0)), (4, .int i)]) C dL_law_1366 (by decide) rfl ?_
      refine g_aload_n C dL_law_1368 rfl 3 rfl ?_
      refine g_aload_n C dL_law_1369 rfl 1 rfl ?_
      refine g_iload C dL_law_1370 5 rfl ?_
      refine g_iconst (v := 1) C dL_law_1372 (by decide) ?_
      refine g_iadd C dL_law_1373 ?_
      refine g_ialdX C hX hbl hbA q1.1 dL_law_1374 ?_
      rw [q1.2]
      refine g_cVi (n := 1) (exc := []) (exr := []) C [_] _ rfl rfl [] [] rfl rfl rfl rfl (fun _ _ h => absurd h (by simp)) (fun _ h => absurd h (by simp)) (fun _ h => absurd h (by simp)) (fun sz => zk_underWay l μ ν a Ad hI.2.2 w x1 q hq D E sz) rfl gw_1707 gw_9 gw_1704 gw_1705 gw_1706 ⟨by decide +kernel, by decide +kernel, by decide +kernel⟩ ⟨rfl, rfl⟩ ⟨Nat.le_of_ble_eq_true rfl, Nat.le_of_ble_eq_true rfl⟩ (rcvT ⟨hI.2.2.1, fun e => absurd e (by decide)⟩ rfl rfl rfl) (Nat.le_of_ble_eq_true rfl) dL_law_1375 (rm_hf (by omega) (by omega)) (fun r9 u hp hx => ?_)
      obtain ⟨er9, rfl⟩ := hp
      rw [er9]
      try dsimp only [List.nil_append]
      refine g_istore (lv' := [(6, .int q.2), (5, .int 1), (0, .ref b), (1, .ref (Ad 0 0)), (2, .ref (Ad 40 0)), (3, .ref (Ad 90 0)), (4, .int i)]) C dL_law_1378 (by decide) rfl ?_
      refine g_aload_n C dL_law_1380 rfl 4 rfl ?_
      refine g_cVi (n := 0) (exc := []) (exr := []) C [] _ rfl rfl [] [] rfl rfl rfl rfl (fun _ _ h => absurd h (by simp)) (fun _ h => absurd h (by simp)) (fun _ h => absurd h (by simp)) (fun sz => zk_thrown l μ ν q.1 Ad hI.2.2 w  t ht D E sz) rfl gw_1468 gw_9 gw_1465 gw_1466 gw_1467 ⟨by decide +kernel, by decide +kernel, by decide +kernel⟩ ⟨rfl, rfl⟩ ⟨Nat.le_of_ble_eq_true rfl, Nat.le_of_ble_eq_true rfl⟩ (rcvT ⟨hI.2.2.1, fun e => absurd e (by decide)⟩ rfl rfl rfl) (Nat.le_of_ble_eq_true rfl) dL_law_1381 (rm_hf (by omega) (by omega)) (fun r9 u hp hx => ?_)
      obtain ⟨er9, rfl⟩ := hp
      rw [er9]
      try dsimp only [List.nil_append]
      refine g_iload C dL_law_1384 1 rfl ?_
      refine g_icmp_eq (tgt := 1391) C dL_law_1386 (by decide) (fun c1 => ?_) (fun c1 => absurd e1 c1)
      refine g_iload C dL_law_1391 1 rfl ?_
      refine g_if_ne (tgt := 1408) C dL_law_1393 (by decide) (fun c2 => ?_) (fun c2 => absurd c2 (by decide))
      refine g_goto (tgt := 2215) C dL_law_1408 (by decide) ?_
      refine g_lv (lv' := [(0, .ref b), (1, .ref (Ad 0 0)), (2, .ref (Ad 40 0)), (3, .ref (Ad 90 0)), (4, .int i)]) [2, 3, 4, 5, 6] rfl ?_
      refine g_widen (k := cells + (kc ν - kc ν) + 1) (n := slots + (ks ν - ks ν) + 6) (by omega) (by omega) ?_
      exact kk Ad (mn_rfl _) (kp_rfl _ _)
    · exact cd_nil ec
noncomputable def s_quote (w : Nat) (μ : MP) (ν : NC) (a : AS) (x1 : Int32) (x2 : Int32) (x3 : Int32) (x4 : Int32) : Option ((MP × NC) × AS) := (f_X8_quote w μ ν x1 (nz x2) x3 x4).bind fun r => (f_X9_quote w a x1 (nz x2) x3 x4).bind fun q => (f_X9_thrown w q.1).bind fun t => lwq true [(1, 1), (2, 2)] μ ν (r.1, r.2) q t
set_option maxHeartbeats 4000000 in
set_option maxRecDepth 100000 in
theorem w_quote {p : Program} {l : Launch} {e : Env} {s : State} {m : MethodId} {args : Array Value} {below : List Frame} {meth : Method} {c : Code} {D : va_G} {E : Nat → ClassId} {A : Nat → Prop} {Q : State → Prop} {B : Nat × (Nat → Nat)} {a30 a31 : Nat} {μ : MP} {ν : NC} {a : AS} {Ad : Nat → Nat → Nat} {w : Nat} {b L : Nat} {xs : Nat → Int32} {cells slots : Nat} (C : cx p s m args meth c D E A cL_law 7 "TradeLineLaw") (hEv : eV a30 a31 B A s s.heap) (hN : vN s) (hl : l.stackTraces = false) (hI : lwI ν) (h3 : Ad 30 0 = a30 ∧ Ad 31 0 = a31) (hX : va_X b L xs s s.heap) (hbl : b < s.heap.size) (hbA : ¬ A b) {i x1 x2 x3 x4 : Int32} (q1 : vp_in (i + 1) L ∧ xs (i + 1).toNatClampNeg = x1) (q2 : vp_in (i + 2) L ∧ xs (i + 2).toNatClampNeg = x2) (q3 : vp_in (i + 3) L ∧ xs (i + 3).toNatClampNeg = x3) (q4 : vp_in (i + 4) L ∧ xs (i + 4).toNatClampNeg = x4) {S : (MP × NC) × AS} (h : s_quote w μ ν a x1 x2 x3 x4 = some S) (hf : cells + (kc S.1.2 - kc ν) + 1 ≤ 299000 ∧ slots + (ks S.1.2 - ks ν) + 6 ≤ 3090000) (kk : ∀ A1, mn ν S.1.2 → kp ν Ad A1 → G p l e room_1 s m args below meth c D E A 7 Q (zS S.1.1 S.1.2 S.2 A1) [] (cells + (kc S.1.2 - kc ν) + 1) (slots + (ks S.1.2 - ks ν) + 6) 2215 [(0, .ref b), (1, .ref (A1 0 0)), (2, .ref (A1 40 0)), (3, .ref (A1 90 0)), (4, .int i)] []) : G p l e room_1 s m args below meth c D E A 7 Q (zS μ ν a Ad) [] (cells) (slots) 1411 [(0, .ref b), (1, .ref (Ad 0 0)), (2, .ref (Ad 40 0)), (3, .ref (Ad 90 0)), (4, .int i)] [] := by
  unfold s_quote at h
  obtain ⟨r, hr, h⟩ := bind_of h
  obtain ⟨q, hq, h⟩ := bind_of h
  obtain ⟨t, ht, h⟩ := bind_of h
  rcases lwq_t h with ⟨e0, e1, e2, rfl⟩ | ⟨ec, rfl⟩
  · replace e0 : r.1 = 0 := e0
    have hf1 : cells + (kc r.2.1.2 - kc ν) + 1 ≤ 299000 := hf.1
    have hf2 : slots + (ks r.2.1.2 - ks ν) + 6 ≤ 3090000 := hf.2
    refine g_aload_n C dL_law_1411 rfl 1 rfl ?_
    refine g_aload_n C dL_law_1412 rfl 0 rfl ?_
    refine g_iload C dL_law_1413 4 rfl ?_
    refine g_iconst (v := 1) C dL_law_1415 (by decide) ?_
    refine g_iadd C dL_law_1416 ?_
    refine g_ialdX C hX hbl hbA q1.1 dL_law_1417 ?_
    rw [q1.2]
    refine g_aload_n C dL_law_1418 rfl 0 rfl ?_
    refine g_iload C dL_law_1419 4 rfl ?_
    refine g_iconst (v := 2) C dL_law_1421 (by decide) ?_
    refine g_iadd C dL_law_1422 ?_
    refine g_ialdX C hX hbl hbA q2.1 dL_law_1423 ?_
    rw [q2.2]
    refine g_nz C dL_law_1424 dL_law_1427 dL_law_1428 dL_law_1431 ?_
    refine g_aload_n C dL_law_1432 rfl 0 rfl ?_
    refine g_iload C dL_law_1433 4 rfl ?_
    refine g_iconst (v := 3) C dL_law_1435 (by decide) ?_
    refine g_iadd C dL_law_1436 ?_
    refine g_ialdX C hX hbl hbA q3.1 dL_law_1437 ?_
    rw [q3.2]
    refine g_aload_n C dL_law_1438 rfl 0 rfl ?_
    refine g_iload C dL_law_1439 4 rfl ?_
    refine g_iconst (v := 4) C dL_law_1441 (by decide) ?_
    refine g_iadd C dL_law_1442 ?_
    refine g_ialdX C hX hbl hbA q4.1 dL_law_1443 ?_
    rw [q4.2]
    refine g_aload_n C dL_law_1444 rfl 3 rfl ?_
    refine g_cSh (n := 6) (exr := []) C hEv hN h3 [_, _, _, _, _, _] _ rfl rfl [] rfl rfl (fun sz => r_L_quote l B μ ν a Ad w x1 (nz x2) x3 x4 r.2 (thr0 hr e0) hI.1 hI.2.1 D E sz) rfl gh_quote gw_0 gw_1219 gw_1220 ⟨by decide +kernel, by decide +kernel, by decide +kernel⟩ ⟨rfl, rfl⟩ ⟨Nat.le_of_ble_eq_true rfl, Nat.le_of_ble_eq_true rfl⟩ (Nat.le_of_ble_eq_true rfl) dL_law_1445 (rm_hf (by omega) (by omega)) (fun r8 u hp hx => ?_)
    obtain ⟨er8, A1, rfl, hkp⟩ := hp
    rw [er8]
    try dsimp only [List.nil_append]
    have hm : mn ν r.2.1.2 := m_X8_quote (thr0 hr e0)
    have hI1 := lwI_mn hI hm
    rw [show Ad 0 0 = A1 0 0 from (hkp.1 0 0 rfl hI.1).symm, show Ad 40 0 = A1 40 0 from (hkp.1 40 0 rfl hI.2.2.1).symm, show Ad 90 0 = A1 90 0 from (hkp.1 90 0 rfl hI.2.1.1).symm]
    refine g_istore (lv' := [(5, .int 0), (0, .ref b), (1, .ref (A1 0 0)), (2, .ref (A1 40 0)), (3, .ref (A1 90 0)), (4, .int i)]) C dL_law_1448 (by decide) rfl ?_
    refine g_aload_n C dL_law_1450 rfl 3 rfl ?_
    refine g_aload_n C dL_law_1451 rfl 1 rfl ?_
    refine g_iload C dL_law_1452 5 rfl ?_
    refine g_iconst (v := 1) C dL_law_1454 (by decide) ?_
    refine g_iadd C dL_law_1455 ?_
    refine g_ialdX C hX hbl hbA q1.1 dL_law_1456 ?_
    rw [q1.2]
    refine g_aload_n C dL_law_1457 rfl 1 rfl ?_
    refine g_iload C dL_law_1458 5 rfl ?_
    refine g_iconst (v := 2) C dL_law_1460 (by decide) ?_
    refine g_iadd C dL_law_1461 ?_
    refine g_ialdX C hX hbl hbA q2.1 dL_law_1462 ?_
    rw [q2.2]
    refine g_nz C dL_law_1463 dL_law_1466 dL_law_1467 dL_law_1470 ?_
    refine g_aload_n C dL_law_1471 rfl 1 rfl ?_
    refine g_iload C dL_law_1472 5 rfl ?_
    refine g_iconst (v := 3) C dL_law_1474 (by decide) ?_
    refine g_iadd C dL_law_1475 ?_
    refine g_ialdX C hX hbl hbA q3.1 dL_law_1476 ?_
    rw [q3.2]
    refine g_aload_n C dL_law_1477 rfl 1 rfl ?_
    refine g_iload C dL_law_1478 5 rfl ?_
    refine g_iconst (v := 4) C dL_law_1480 (by decide) ?_
    refine g_iadd C dL_law_1481 ?_
    refine g_ialdX C hX hbl hbA q4.1 dL_law_1482 ?_
    rw [q4.2]
    refine g_cVi (n := 4) (exc := []) (exr := []) C [_, _, _, _] _ rfl rfl [] [] rfl rfl rfl rfl (fun _ _ h => absurd h (by simp)) (fun _ h => absurd h (by simp)) (fun _ h => absurd h (by simp)) (fun sz => zk_quote l (up3 r.2.1.1.1 90 0 0 r.2.2, r.2.1.1.2) r.2.1.2 a A1 hI1.2.2 w x1 (nz x2) x3 x4 q hq D E sz) rfl gw_1711 gw_9 gw_1708 gw_1709 gw_1710 ⟨by decide +kernel, by decide +kernel, by decide +kernel⟩ ⟨rfl, rfl⟩ ⟨Nat.le_of_ble_eq_true rfl, Nat.le_of_ble_eq_true rfl⟩ (rcvT ⟨hI1.2.2.1, fun e => absurd e (by decide)⟩ rfl rfl rfl) (Nat.le_of_ble_eq_true rfl) dL_law_1483 (rm_hf (by omega) (by omega)) (fun r9 u hp hx => ?_)
    obtain ⟨er9, rfl⟩ := hp
    rw [er9]
    try dsimp only [List.nil_append]
    refine g_istore (lv' := [(6, .int q.2), (5, .int 0), (0, .ref b), (1, .ref (A1 0 0)), (2, .ref (A1 40 0)), (3, .ref (A1 90 0)), (4, .int i)]) C dL_law_1486 (by decide) rfl ?_
    refine g_aload_n C dL_law_1488 rfl 4 rfl ?_
    refine g_cVi (n := 0) (exc := []) (exr := []) C [] _ rfl rfl [] [] rfl rfl rfl rfl (fun _ _ h => absurd h (by simp)) (fun _ h => absurd h (by simp)) (fun _ h => absurd h (by simp)) (fun sz => zk_thrown l (up3 r.2.1.1.1 90 0 0 r.2.2, r.2.1.1.2) r.2.1.2 q.1 A1 hI1.2.2 w  t ht D E sz) rfl gw_1468 gw_9 gw_1465 gw_1466 gw_1467 ⟨by decide +kernel, by decide +kernel, by decide +kernel⟩ ⟨rfl, rfl⟩ ⟨Nat.le_of_ble_eq_true rfl, Nat.le_of_ble_eq_true rfl⟩ (rcvT ⟨hI1.2.2.1, fun e => absurd e (by decide)⟩ rfl rfl rfl) (Nat.le_of_ble_eq_true rfl) dL_law_1489 (rm_hf (by omega) (by omega)) (fun r9 u hp hx => ?_)
    obtain ⟨er9, rfl⟩ := hp
    rw [er9]
    try dsimp only [List.nil_append]
    refine g_iload C dL_law_1492 1 rfl ?_
    refine g_icmp_eq (tgt := 1499) C dL_law_1494 (by decide) (fun c1 => ?_) (fun c1 => absurd e1 c1)
    refine g_iload C dL_law_1499 1 rfl ?_
    refine g_if_ne (tgt := 1516) C dL_law_1501 (by decide) (fun c2 => absurd rfl c2) (fun c2 => ?_)
    refine g_aload_n C dL_law_1504 rfl 5 rfl ?_
    refine g_iconst (v := 0) C dL_law_1505 (by decide) ?_
    refine g_lald (μ := (up3 r.2.1.1.1 90 0 0 r.2.2, r.2.1.1.2)) (ν := r.2.1.2) (a := q.1) (Ad := A1) C rfl hI1.2.1 dL_law_1506 ?_
    refine g_iload C dL_law_1507 0 rfl ?_
    refine g_i2l C dL_law_1509 rfl ?_
    refine g_lcmp C dL_law_1510 (fun r7 e7 => ?_)
    refine g_if_eq (tgt := 1516) C dL_law_1511 (by decide) (fun c3 => ?_) (fun c3 => absurd (e7.mpr (congrArg Int32.toInt64 (show up3 r.2.1.1.1 90 0 0 r.2.2 90 0 0 = _ from (up3_90 _ _).trans e2))) c3)
    refine g_goto (tgt := 2215) C dL_law_1516 (by decide) ?_
    refine g_lv (lv' := [(0, .ref b), (1, .ref (A1 0 0)), (2, .ref (A1 40 0)), (3, .ref (A1 90 0)), (4, .int i)]) [2, 3, 4, 5, 6] rfl ?_
    refine g_widen (k := cells + (kc r.2.1.2 - kc ν) + 1) (n := slots + (ks r.2.1.2 - ks ν) + 6) (by omega) (by omega) ?_
    exact kk A1 hm hkp
  · rcases cd_cons ec with ⟨e0, e1⟩ | ec
    · have hf1 : cells + (kc ν - kc ν) + 1 ≤ 299000 := hf.1
      have hf2 : slots + (ks ν - ks ν) + 6 ≤ 3090000 := hf.2
      refine g_aload_n C dL_law_1411 rfl 1 rfl ?_
      refine g_aload_n C dL_law_1412 rfl 0 rfl ?_
      refine g_iload C dL_law_1413 4 rfl ?_
      refine g_iconst (v := 1) C dL_law_1415 (by decide) ?_
      refine g_iadd C dL_law_1416 ?_
      refine g_ialdX C hX hbl hbA q1.1 dL_law_1417 ?_
      rw [q1.2]
      refine g_aload_n C dL_law_1418 rfl 0 rfl ?_
      refine g_iload C dL_law_1419 4 rfl ?_
      refine g_iconst (v := 2) C dL_law_1421 (by decide) ?_
      refine g_iadd C dL_law_1422 ?_
      refine g_ialdX C hX hbl hbA q2.1 dL_law_1423 ?_
      rw [q2.2]
      refine g_nz C dL_law_1424 dL_law_1427 dL_law_1428 dL_law_1431 ?_
      refine g_aload_n C dL_law_1432 rfl 0 rfl ?_
      refine g_iload C dL_law_1433 4 rfl ?_
      refine g_iconst (v := 3) C dL_law_1435 (by decide) ?_
      refine g_iadd C dL_law_1436 ?_
      refine g_ialdX C hX hbl hbA q3.1 dL_law_1437 ?_
      rw [q3.2]
      refine g_aload_n C dL_law_1438 rfl 0 rfl ?_
      refine g_iload C dL_law_1439 4 rfl ?_
      refine g_iconst (v := 4) C dL_law_1441 (by decide) ?_
      refine g_iadd C dL_law_1442 ?_
      refine g_ialdX C hX hbl hbA q4.1 dL_law_1443 ?_
      rw [q4.2]
      refine g_aload_n C dL_law_1444 rfl 3 rfl ?_
      refine g_cSh (n := 6) (exr := []) C hEv hN h3 [_, _, _, _, _, _] _ rfl rfl [] rfl rfl (fun sz => e1_L_quote l hl B μ ν a Ad w x1 (nz x2) x3 x4 r.2 (thrS hr e0) hI.1 hI.2.1 D E sz) rfl gh_quote gw_0 gw_1219 gw_1220 ⟨by decide +kernel, by decide +kernel, by decide +kernel⟩ ⟨rfl, rfl⟩ ⟨Nat.le_of_ble_eq_true rfl, Nat.le_of_ble_eq_true rfl⟩ (Nat.le_of_ble_eq_true rfl) dL_law_1445 (rm_hf (by omega) (by omega)) (fun r8 u hp hx => ?_)
      obtain ⟨er8, rfl⟩ := hp
      rw [er8]
      try dsimp only [List.nil_append]
      refine g_istore (lv' := [(5, .int 1), (0, .ref b), (1, .ref (Ad 0 0)), (2, .ref (Ad 40 0)), (3, .ref (Ad 90 0)), (4, .int i)]) C dL_law_1448 (by decide) rfl ?_
      refine g_aload_n C dL_law_1450 rfl 3 rfl ?_
      refine g_aload_n C dL_law_1451 rfl 1 rfl ?_
      refine g_iload C dL_law_1452 5 rfl ?_
      refine g_iconst (v := 1) C dL_law_1454 (by decide) ?_
      refine g_iadd C dL_law_1455 ?_
      refine g_ialdX C hX hbl hbA q1.1 dL_law_1456 ?_
      rw [q1.2]
      refine g_aload_n C dL_law_1457 rfl 1 rfl ?_
      refine g_iload C dL_law_1458 5 rfl ?_
      refine g_iconst (v := 2) C dL_law_1460 (by decide) ?_
      refine g_iadd C dL_law_1461 ?_
      refine g_ialdX C hX hbl hbA q2.1 dL_law_1462 ?_
      rw [q2.2]
      refine g_nz C dL_law_1463 dL_law_1466 dL_law_1467 dL_law_1470 ?_
      refine g_aload_n C dL_law_1471 rfl 1 rfl ?_
      refine g_iload C dL_law_1472 5 rfl ?_
      refine g_iconst (v := 3) C dL_law_1474 (by decide) ?_
      refine g_iadd C dL_law_1475 ?_
      refine g_ialdX C hX hbl hbA q3.1 dL_law_1476 ?_
      rw [q3.2]
      refine g_aload_n C dL_law_1477 rfl 1 rfl ?_
      refine g_iload C dL_law_1478 5 rfl ?_
      refine g_iconst (v := 4) C dL_law_1480 (by decide) ?_
      refine g_iadd C dL_law_1481 ?_
      refine g_ialdX C hX hbl hbA q4.1 dL_law_1482 ?_
      rw [q4.2]
      refine g_cVi (n := 4) (exc := []) (exr := []) C [_, _, _, _] _ rfl rfl [] [] rfl rfl rfl rfl (fun _ _ h => absurd h (by simp)) (fun _ h => absurd h (by simp)) (fun _ h => absurd h (by simp)) (fun sz => zk_quote l μ ν a Ad hI.2.2 w x1 (nz x2) x3 x4 q hq D E sz) rfl gw_1711 gw_9 gw_1708 gw_1709 gw_1710 ⟨by decide +kernel, by decide +kernel, by decide +kernel⟩ ⟨rfl, rfl⟩ ⟨Nat.le_of_ble_eq_true rfl, Nat.le_of_ble_eq_true rfl⟩ (rcvT ⟨hI.2.2.1, fun e => absurd e (by decide)⟩ rfl rfl rfl) (Nat.le_of_ble_eq_true rfl) dL_law_1483 (rm_hf (by omega) (by omega)) (fun r9 u hp hx => ?_)
      obtain ⟨er9, rfl⟩ := hp
      rw [er9]
      try dsimp only [List.nil_append]
      refine g_istore (lv' := [(6, .int q.2), (5, .int 1), (0, .ref b), (1, .ref (Ad 0 0)), (2, .ref (Ad 40 0)), (3, .ref (Ad 90 0)), (4, .int i)]) C dL_law_1486 (by decide) rfl ?_
      refine g_aload_n C dL_law_1488 rfl 4 rfl ?_
      refine g_cVi (n := 0) (exc := []) (exr := []) C [] _ rfl rfl [] [] rfl rfl rfl rfl (fun _ _ h => absurd h (by simp)) (fun _ h => absurd h (by simp)) (fun _ h => absurd h (by simp)) (fun sz => zk_thrown l μ ν q.1 Ad hI.2.2 w  t ht D E sz) rfl gw_1468 gw_9 gw_1465 gw_1466 gw_1467 ⟨by decide +kernel, by decide +kernel, by decide +kernel⟩ ⟨rfl, rfl⟩ ⟨Nat.le_of_ble_eq_true rfl, Nat.le_of_ble_eq_true rfl⟩ (rcvT ⟨hI.2.2.1, fun e => absurd e (by decide)⟩ rfl rfl rfl) (Nat.le_of_ble_eq_true rfl) dL_law_1489 (rm_hf (by omega) (by omega)) (fun r9 u hp hx => ?_)
      obtain ⟨er9, rfl⟩ := hp
      rw [er9]
      try dsimp only [List.nil_append]
      refine g_iload C dL_law_1492 1 rfl ?_
      refine g_icmp_eq (tgt := 1499) C dL_law_1494 (by decide) (fun c1 => ?_) (fun c1 => absurd e1 c1)
      refine g_iload C dL_law_1499 1 rfl ?_
      refine g_if_ne (tgt := 1516) C dL_law_1501 (by decide) (fun c2 => ?_) (fun c2 => absurd c2 (by decide))
      refine g_goto (tgt := 2215) C dL_law_1516 (by decide) ?_
      refine g_lv (lv' := [(0, .ref b), (1, .ref (Ad 0 0)), (2, .ref (Ad 40 0)), (3, .ref (Ad 90 0)), (4, .int i)]) [2, 3, 4, 5, 6] rfl ?_
      refine g_widen (k := cells + (kc ν - kc ν) + 1) (n := slots + (ks ν - ks ν) + 6) (by omega) (by omega) ?_
      exact kk Ad (mn_rfl _) (kp_rfl _ _)
    · skip
      rcases cd_cons ec with ⟨e0, e1⟩ | ec
      · have hf1 : cells + (kc ν - kc ν) + 1 ≤ 299000 := hf.1
        have hf2 : slots + (ks ν - ks ν) + 6 ≤ 3090000 := hf.2
        refine g_aload_n C dL_law_1411 rfl 1 rfl ?_
        refine g_aload_n C dL_law_1412 rfl 0 rfl ?_
        refine g_iload C dL_law_1413 4 rfl ?_
        refine g_iconst (v := 1) C dL_law_1415 (by decide) ?_
        refine g_iadd C dL_law_1416 ?_
        refine g_ialdX C hX hbl hbA q1.1 dL_law_1417 ?_
        rw [q1.2]
        refine g_aload_n C dL_law_1418 rfl 0 rfl ?_
        refine g_iload C dL_law_1419 4 rfl ?_
        refine g_iconst (v := 2) C dL_law_1421 (by decide) ?_
        refine g_iadd C dL_law_1422 ?_
        refine g_ialdX C hX hbl hbA q2.1 dL_law_1423 ?_
        rw [q2.2]
        refine g_nz C dL_law_1424 dL_law_1427 dL_law_1428 dL_law_1431 ?_
        refine g_aload_n C dL_law_1432 rfl 0 rfl ?_
        refine g_iload C dL_law_1433 4 rfl ?_
        refine g_iconst (v := 3) C dL_law_1435 (by decide) ?_
        refine g_iadd C dL_law_1436 ?_
        refine g_ialdX C hX hbl hbA q3.1 dL_law_1437 ?_
        rw [q3.2]
        refine g_aload_n C dL_law_1438 rfl 0 rfl ?_
        refine g_iload C dL_law_1439 4 rfl ?_
        refine g_iconst (v := 4) C dL_law_1441 (by decide) ?_
        refine g_iadd C dL_law_1442 ?_
        refine g_ialdX C hX hbl hbA q4.1 dL_law_1443 ?_
        rw [q4.2]
        refine g_aload_n C dL_law_1444 rfl 3 rfl ?_
        refine g_cSh (n := 6) (exr := []) C hEv hN h3 [_, _, _, _, _, _] _ rfl rfl [] rfl rfl (fun sz => e2_L_quote l hl B μ ν a Ad w x1 (nz x2) x3 x4 r.2 (thrS hr e0) hI.1 hI.2.1 D E sz) rfl gh_quote gw_0 gw_1219 gw_1220 ⟨by decide +kernel, by decide +kernel, by decide +kernel⟩ ⟨rfl, rfl⟩ ⟨Nat.le_of_ble_eq_true rfl, Nat.le_of_ble_eq_true rfl⟩ (Nat.le_of_ble_eq_true rfl) dL_law_1445 (rm_hf (by omega) (by omega)) (fun r8 u hp hx => ?_)
        obtain ⟨er8, rfl⟩ := hp
        rw [er8]
        try dsimp only [List.nil_append]
        refine g_istore (lv' := [(5, .int 2), (0, .ref b), (1, .ref (Ad 0 0)), (2, .ref (Ad 40 0)), (3, .ref (Ad 90 0)), (4, .int i)]) C dL_law_1448 (by decide) rfl ?_
        refine g_aload_n C dL_law_1450 rfl 3 rfl ?_
        refine g_aload_n C dL_law_1451 rfl 1 rfl ?_
        refine g_iload C dL_law_1452 5 rfl ?_
        refine g_iconst (v := 1) C dL_law_1454 (by decide) ?_
        refine g_iadd C dL_law_1455 ?_
        refine g_ialdX C hX hbl hbA q1.1 dL_law_1456 ?_
        rw [q1.2]
        refine g_aload_n C dL_law_1457 rfl 1 rfl ?_
        refine g_iload C dL_law_1458 5 rfl ?_
        refine g_iconst (v := 2) C dL_law_1460 (by decide) ?_
        refine g_iadd C dL_law_1461 ?_
        refine g_ialdX C hX hbl hbA q2.1 dL_law_1462 ?_
        rw [q2.2]
        refine g_nz C dL_law_1463 dL_law_1466 dL_law_1467 dL_law_1470 ?_
        refine g_aload_n C dL_law_1471 rfl 1 rfl ?_
        refine g_iload C dL_law_1472 5 rfl ?_
        refine g_iconst (v := 3) C dL_law_1474 (by decide) ?_
        refine g_iadd C dL_law_1475 ?_
        refine g_ialdX C hX hbl hbA q3.1 dL_law_1476 ?_
        rw [q3.2]
        refine g_aload_n C dL_law_1477 rfl 1 rfl ?_
        refine g_iload C dL_law_1478 5 rfl ?_
        refine g_iconst (v := 4) C dL_law_1480 (by decide) ?_
        refine g_iadd C dL_law_1481 ?_
        refine g_ialdX C hX hbl hbA q4.1 dL_law_1482 ?_
        rw [q4.2]
        refine g_cVi (n := 4) (exc := []) (exr := []) C [_, _, _, _] _ rfl rfl [] [] rfl rfl rfl rfl (fun _ _ h => absurd h (by simp)) (fun _ h => absurd h (by simp)) (fun _ h => absurd h (by simp)) (fun sz => zk_quote l μ ν a Ad hI.2.2 w x1 (nz x2) x3 x4 q hq D E sz) rfl gw_1711 gw_9 gw_1708 gw_1709 gw_1710 ⟨by decide +kernel, by decide +kernel, by decide +kernel⟩ ⟨rfl, rfl⟩ ⟨Nat.le_of_ble_eq_true rfl, Nat.le_of_ble_eq_true rfl⟩ (rcvT ⟨hI.2.2.1, fun e => absurd e (by decide)⟩ rfl rfl rfl) (Nat.le_of_ble_eq_true rfl) dL_law_1483 (rm_hf (by omega) (by omega)) (fun r9 u hp hx => ?_)
        obtain ⟨er9, rfl⟩ := hp
        rw [er9]
        try dsimp only [List.nil_append]
        refine g_istore (lv' := [(6, .int q.2), (5, .int 2), (0, .ref b), (1, .ref (Ad 0 0)), (2, .ref (Ad 40 0)), (3, .ref (Ad 90 0)), (4, .int i)]) C dL_law_1486 (by decide) rfl ?_
        refine g_aload_n C dL_law_1488 rfl 4 rfl ?_
        refine g_cVi (n := 0) (exc := []) (exr := []) C [] _ rfl rfl [] [] rfl rfl rfl rfl (fun _ _ h => absurd h (by simp)) (fun _ h => absurd h (by simp)) (fun _ h => absurd h (by simp)) (fun sz => zk_thrown l μ ν q.1 Ad hI.2.2 w  t ht D E sz) rfl gw_1468 gw_9 gw_1465 gw_1466 gw_1467 ⟨by decide +kernel, by decide +kernel, by decide +kernel⟩ ⟨rfl, rfl⟩ ⟨Nat.le_of_ble_eq_true rfl, Nat.le_of_ble_eq_true rfl⟩ (rcvT ⟨hI.2.2.1, fun e => absurd e (by decide)⟩ rfl rfl rfl) (Nat.le_of_ble_eq_true rfl) dL_law_1489 (rm_hf (by omega) (by omega)) (fun r9 u hp hx => ?_)
        obtain ⟨er9, rfl⟩ := hp
        rw [er9]
        try dsimp only [List.nil_append]
        refine g_iload C dL_law_1492 1 rfl ?_
        refine g_icmp_eq (tgt := 1499) C dL_law_1494 (by decide) (fun c1 => ?_) (fun c1 => absurd e1 c1)
        refine g_iload C dL_law_1499 1 rfl ?_
        refine g_if_ne (tgt := 1516) C dL_law_1501 (by decide) (fun c2 => ?_) (fun c2 => absurd c2 (by decide))
        refine g_goto (tgt := 2215) C dL_law_1516 (by decide) ?_
        refine g_lv (lv' := [(0, .ref b), (1, .ref (Ad 0 0)), (2, .ref (Ad 40 0)), (3, .ref (Ad 90 0)), (4, .int i)]) [2, 3, 4, 5, 6] rfl ?_
        refine g_widen (k := cells + (kc ν - kc ν) + 1) (n := slots + (ks ν - ks ν) + 6) (by omega) (by omega) ?_
        exact kk Ad (mn_rfl _) (kp_rfl _ _)
      · exact cd_nil ec
noncomputable def s_quoted (w : Nat) (μ : MP) (ν : NC) (a : AS) (x1 : Int32) (x2 : Int32) : Option ((MP × NC) × AS) := (f_X8_quoted w μ ν x1 (nz x2)).bind fun r => (f_X9_quoted w a x1 (nz x2)).bind fun q => (f_X9_thrown w q.1).bind fun t => lwq true [(1, 1)] μ ν (r.1, ((μ, ν), r.2)) q t
set_option maxHeartbeats 4000000 in
set_option maxRecDepth 100000 in
theorem w_quoted {p : Program} {l : Launch} {e : Env} {s : State} {m : MethodId} {args : Array Value} {below : List Frame} {meth : Method} {c : Code} {D : va_G} {E : Nat → ClassId} {A : Nat → Prop} {Q : State → Prop} {B : Nat × (Nat → Nat)} {a30 a31 : Nat} {μ : MP} {ν : NC} {a : AS} {Ad : Nat → Nat → Nat} {w : Nat} {b L : Nat} {xs : Nat → Int32} {cells slots : Nat} (C : cx p s m args meth c D E A cL_law 7 "TradeLineLaw") (hEv : eV a30 a31 B A s s.heap) (hN : vN s) (hl : l.stackTraces = false) (hI : lwI ν) (h3 : Ad 30 0 = a30 ∧ Ad 31 0 = a31) (hX : va_X b L xs s s.heap) (hbl : b < s.heap.size) (hbA : ¬ A b) {i x1 x2 : Int32} (q1 : vp_in (i + 1) L ∧ xs (i + 1).toNatClampNeg = x1) (q2 : vp_in (i + 2) L ∧ xs (i + 2).toNatClampNeg = x2) {S : (MP × NC) × AS} (h : s_quoted w μ ν a x1 x2 = some S) (hf : cells + (kc S.1.2 - kc ν) + 1 ≤ 299000 ∧ slots + (ks S.1.2 - ks ν) + 6 ≤ 3090000) (kk : ∀ A1, mn ν S.1.2 → kp ν Ad A1 → G p l e room_1 s m args below meth c D E A 7 Q (zS S.1.1 S.1.2 S.2 A1) [] (cells + (kc S.1.2 - kc ν) + 1) (slots + (ks S.1.2 - ks ν) + 6) 2215 [(0, .ref b), (1, .ref (A1 0 0)), (2, .ref (A1 40 0)), (3, .ref (A1 90 0)), (4, .int i)] []) : G p l e room_1 s m args below meth c D E A 7 Q (zS μ ν a Ad) [] (cells) (slots) 1519 [(0, .ref b), (1, .ref (Ad 0 0)), (2, .ref (Ad 40 0)), (3, .ref (Ad 90 0)), (4, .int i)] [] := by
  unfold s_quoted at h
  obtain ⟨r, hr, h⟩ := bind_of h
  obtain ⟨q, hq, h⟩ := bind_of h
  obtain ⟨t, ht, h⟩ := bind_of h
  rcases lwq_t h with ⟨e0, e1, e2, rfl⟩ | ⟨ec, rfl⟩
  · replace e0 : r.1 = 0 := e0
    have hf1 : cells + (kc ν - kc ν) + 1 ≤ 299000 := hf.1
    have hf2 : slots + (ks ν - ks ν) + 6 ≤ 3090000 := hf.2
    refine g_aload_n C dL_law_1519 rfl 1 rfl ?_
    refine g_aload_n C dL_law_1520 rfl 0 rfl ?_
    refine g_iload C dL_law_1521 4 rfl ?_
    refine g_iconst (v := 1) C dL_law_1523 (by decide) ?_
    refine g_iadd C dL_law_1524 ?_
    refine g_ialdX C hX hbl hbA q1.1 dL_law_1525 ?_
    rw [q1.2]
    refine g_aload_n C dL_law_1526 rfl 0 rfl ?_
    refine g_iload C dL_law_1527 4 rfl ?_
    refine g_iconst (v := 2) C dL_law_1529 (by decide) ?_
    refine g_iadd C dL_law_1530 ?_
    refine g_ialdX C hX hbl hbA q2.1 dL_law_1531 ?_
    rw [q2.2]
    refine g_nz C dL_law_1532 dL_law_1535 dL_law_1536 dL_law_1539 ?_
    refine g_aload_n C dL_law_1540 rfl 3 rfl ?_
    refine g_cSh (n := 4) (exr := []) C hEv hN h3 [_, _, _, _] _ rfl rfl [] rfl rfl (fun sz => r_L_quoted l B μ ν a Ad w x1 (nz x2) r.2 (thr0 hr e0) hI.1 hI.2.1 D E sz) rfl gh_quoted gw_0 gw_1231 gw_1232 ⟨by decide +kernel, by decide +kernel, by decide +kernel⟩ ⟨rfl, rfl⟩ ⟨Nat.le_of_ble_eq_true rfl, Nat.le_of_ble_eq_true rfl⟩ (Nat.le_of_ble_eq_true rfl) dL_law_1541 (rm_hf (by omega) (by omega)) (fun r8 u hp hx => ?_)
    obtain ⟨er8, rfl⟩ := hp
    rw [er8]
    try dsimp only [List.nil_append]
    refine g_istore (lv' := [(5, .int 0), (0, .ref b), (1, .ref (Ad 0 0)), (2, .ref (Ad 40 0)), (3, .ref (Ad 90 0)), (4, .int i)]) C dL_law_1544 (by decide) rfl ?_
    refine g_aload_n C dL_law_1546 rfl 3 rfl ?_
    refine g_aload_n C dL_law_1547 rfl 1 rfl ?_
    refine g_iload C dL_law_1548 5 rfl ?_
    refine g_iconst (v := 1) C dL_law_1550 (by decide) ?_
    refine g_iadd C dL_law_1551 ?_
    refine g_ialdX C hX hbl hbA q1.1 dL_law_1552 ?_
    rw [q1.2]
    refine g_aload_n C dL_law_1553 rfl 1 rfl ?_
    refine g_iload C dL_law_1554 5 rfl ?_
    refine g_iconst (v := 2) C dL_law_1556 (by decide) ?_
    refine g_iadd C dL_law_1557 ?_
    refine g_ialdX C hX hbl hbA q2.1 dL_law_1558 ?_
    rw [q2.2]
    refine g_nz C dL_law_1559 dL_law_1562 dL_law_1563 dL_law_1566 ?_
    refine g_cVi (n := 2) (exc := []) (exr := []) C [_, _] _ rfl rfl [] [] rfl rfl rfl rfl (fun _ _ h => absurd h (by simp)) (fun _ h => absurd h (by simp)) (fun _ h => absurd h (by simp)) (fun sz => zk_quoted l (up3 μ.1 90 0 0 r.2, μ.2) ν a Ad hI.2.2 w x1 (nz x2) q hq D E sz) rfl gw_1730 gw_9 gw_1727 gw_1728 gw_1729 ⟨by decide +kernel, by decide +kernel, by decide +kernel⟩ ⟨rfl, rfl⟩ ⟨Nat.le_of_ble_eq_true rfl, Nat.le_of_ble_eq_true rfl⟩ (rcvT ⟨hI.2.2.1, fun e => absurd e (by decide)⟩ rfl rfl rfl) (Nat.le_of_ble_eq_true rfl) dL_law_1567 (rm_hf (by omega) (by omega)) (fun r9 u hp hx => ?_)
    obtain ⟨er9, rfl⟩ := hp
    rw [er9]
    try dsimp only [List.nil_append]
    refine g_istore (lv' := [(6, .int q.2), (5, .int 0), (0, .ref b), (1, .ref (Ad 0 0)), (2, .ref (Ad 40 0)), (3, .ref (Ad 90 0)), (4, .int i)]) C dL_law_1570 (by decide) rfl ?_
    refine g_aload_n C dL_law_1572 rfl 4 rfl ?_
    refine g_cVi (n := 0) (exc := []) (exr := []) C [] _ rfl rfl [] [] rfl rfl rfl rfl (fun _ _ h => absurd h (by simp)) (fun _ h => absurd h (by simp)) (fun _ h => absurd h (by simp)) (fun sz => zk_thrown l (up3 μ.1 90 0 0 r.2, μ.2) ν q.1 Ad hI.2.2 w  t ht D E sz) rfl gw_1468 gw_9 gw_1465 gw_1466 gw_1467 ⟨by decide +kernel, by decide +kernel, by decide +kernel⟩ ⟨rfl, rfl⟩ ⟨Nat.le_of_ble_eq_true rfl, Nat.le_of_ble_eq_true rfl⟩ (rcvT ⟨hI.2.2.1, fun e => absurd e (by decide)⟩ rfl rfl rfl) (Nat.le_of_ble_eq_true rfl) dL_law_1573 (rm_hf (by omega) (by omega)) (fun r9 u hp hx => ?_)
    obtain ⟨er9, rfl⟩ := hp
    rw [er9]
    try dsimp only [List.nil_append]
    refine g_iload C dL_law_1576 1 rfl ?_
    refine g_icmp_eq (tgt := 1583) C dL_law_1578 (by decide) (fun c1 => ?_) (fun c1 => absurd e1 c1)
    refine g_iload C dL_law_1583 1 rfl ?_
    refine g_if_ne (tgt := 1600) C dL_law_1585 (by decide) (fun c2 => absurd rfl c2) (fun c2 => ?_)
    refine g_aload_n C dL_law_1588 rfl 5 rfl ?_
    refine g_iconst (v := 0) C dL_law_1589 (by decide) ?_
    refine g_lald (μ := (up3 μ.1 90 0 0 r.2, μ.2)) (ν := ν) (a := q.1) (Ad := Ad) C rfl hI.2.1 dL_law_1590 ?_
    refine g_iload C dL_law_1591 0 rfl ?_
    refine g_i2l C dL_law_1593 rfl ?_
    refine g_lcmp C dL_law_1594 (fun r7 e7 => ?_)
    refine g_if_eq (tgt := 1600) C dL_law_1595 (by decide) (fun c3 => ?_) (fun c3 => absurd (e7.mpr (congrArg Int32.toInt64 (show up3 μ.1 90 0 0 r.2 90 0 0 = _ from (up3_90 _ _).trans e2))) c3)
    refine g_goto (tgt := 2215) C dL_law_1600 (by decide) ?_
    refine g_lv (lv' := [(0, .ref b), (1, .ref (Ad 0 0)), (2, .ref (Ad 40 0)), (3, .ref (Ad 90 0)), (4, .int i)]) [2, 3, 4, 5, 6] rfl ?_
    refine g_widen (k := cells + (kc ν - kc ν) + 1) (n := slots + (ks ν - ks ν) + 6) (by omega) (by omega) ?_
    exact kk Ad (mn_rfl _) (kp_rfl _ _)
  · rcases cd_cons ec with ⟨e0, e1⟩ | ec
    · have hf1 : cells + (kc ν - kc ν) + 1 ≤ 299000 := hf.1
      have hf2 : slots + (ks ν - ks ν) + 6 ≤ 3090000 := hf.2
      refine g_aload_n C dL_law_1519 rfl 1 rfl ?_
      refine g_aload_n C dL_law_1520 rfl 0 rfl ?_
      refine g_iload C dL_law_1521 4 rfl ?_
      refine g_iconst (v := 1) C dL_law_1523 (by decide) ?_
      refine g_iadd C dL_law_1524 ?_
      refine g_ialdX C hX hbl hbA q1.1 dL_law_1525 ?_
      rw [q1.2]
      refine g_aload_n C dL_law_1526 rfl 0 rfl ?_
      refine g_iload C dL_law_1527 4 rfl ?_
      refine g_iconst (v := 2) C dL_law_1529 (by decide) ?_
      refine g_iadd C dL_law_1530 ?_
      refine g_ialdX C hX hbl hbA q2.1 dL_law_1531 ?_
      rw [q2.2]
      refine g_nz C dL_law_1532 dL_law_1535 dL_law_1536 dL_law_1539 ?_
      refine g_aload_n C dL_law_1540 rfl 3 rfl ?_
      refine g_cSh (n := 4) (exr := []) C hEv hN h3 [_, _, _, _] _ rfl rfl [] rfl rfl (fun sz => e1_L_quoted l hl B μ ν a Ad w x1 (nz x2) r.2 (thrS hr e0) hI.1 hI.2.1 D E sz) rfl gh_quoted gw_0 gw_1231 gw_1232 ⟨by decide +kernel, by decide +kernel, by decide +kernel⟩ ⟨rfl, rfl⟩ ⟨Nat.le_of_ble_eq_true rfl, Nat.le_of_ble_eq_true rfl⟩ (Nat.le_of_ble_eq_true rfl) dL_law_1541 (rm_hf (by omega) (by omega)) (fun r8 u hp hx => ?_)
      obtain ⟨er8, rfl⟩ := hp
      rw [er8]
      try dsimp only [List.nil_append]
      refine g_istore (lv' := [(5, .int 1), (0, .ref b), (1, .ref (Ad 0 0)), (2, .ref (Ad 40 0)), (3, .ref (Ad 90 0)), (4, .int i)]) C dL_law_1544 (by decide) rfl ?_
      refine g_aload_n C dL_law_1546 rfl 3 rfl ?_
      refine g_aload_n C dL_law_1547 rfl 1 rfl ?_
      refine g_iload C dL_law_1548 5 rfl ?_
      refine g_iconst (v := 1) C dL_law_1550 (by decide) ?_
      refine g_iadd C dL_law_1551 ?_
      refine g_ialdX C hX hbl hbA q1.1 dL_law_1552 ?_
      rw [q1.2]
      refine g_aload_n C dL_law_1553 rfl 1 rfl ?_
      refine g_iload C dL_law_1554 5 rfl ?_
      refine g_iconst (v := 2) C dL_law_1556 (by decide) ?_
      refine g_iadd C dL_law_1557 ?_
      refine g_ialdX C hX hbl hbA q2.1 dL_law_1558 ?_
      rw [q2.2]
      refine g_nz C dL_law_1559 dL_law_1562 dL_law_1563 dL_law_1566 ?_
      refine g_cVi (n := 2) (exc := []) (exr := []) C [_, _] _ rfl rfl [] [] rfl rfl rfl rfl (fun _ _ h => absurd h (by simp)) (fun _ h => absurd h (by simp)) (fun _ h => absurd h (by simp)) (fun sz => zk_quoted l μ ν a Ad hI.2.2 w x1 (nz x2) q hq D E sz) rfl gw_1730 gw_9 gw_1727 gw_1728 gw_1729 ⟨by decide +kernel, by decide +kernel, by decide +kernel⟩ ⟨rfl, rfl⟩ ⟨Nat.le_of_ble_eq_true rfl, Nat.le_of_ble_eq_true rfl⟩ (rcvT ⟨hI.2.2.1, fun e => absurd e (by decide)⟩ rfl rfl rfl) (Nat.le_of_ble_eq_true rfl) dL_law_1567 (rm_hf (by omega) (by omega)) (fun r9 u hp hx => ?_)
      obtain ⟨er9, rfl⟩ := hp
      rw [er9]
      try dsimp only [List.nil_append]
      refine g_istore (lv' := [(6, .int q.2), (5, .int 1), (0, .ref b), (1, .ref (Ad 0 0)), (2, .ref (Ad 40 0)), (3, .ref (Ad 90 0)), (4, .int i)]) C dL_law_1570 (by decide) rfl ?_
      refine g_aload_n C dL_law_1572 rfl 4 rfl ?_
      refine g_cVi (n := 0) (exc := []) (exr := []) C [] _ rfl rfl [] [] rfl rfl rfl rfl (fun _ _ h => absurd h (by simp)) (fun _ h => absurd h (by simp)) (fun _ h => absurd h (by simp)) (fun sz => zk_thrown l μ ν q.1 Ad hI.2.2 w  t ht D E sz) rfl gw_1468 gw_9 gw_1465 gw_1466 gw_1467 ⟨by decide +kernel, by decide +kernel, by decide +kernel⟩ ⟨rfl, rfl⟩ ⟨Nat.le_of_ble_eq_true rfl, Nat.le_of_ble_eq_true rfl⟩ (rcvT ⟨hI.2.2.1, fun e => absurd e (by decide)⟩ rfl rfl rfl) (Nat.le_of_ble_eq_true rfl) dL_law_1573 (rm_hf (by omega) (by omega)) (fun r9 u hp hx => ?_)
      obtain ⟨er9, rfl⟩ := hp
      rw [er9]
      try dsimp only [List.nil_append]
      refine g_iload C dL_law_1576 1 rfl ?_
      refine g_icmp_eq (tgt := 1583) C dL_law_1578 (by decide) (fun c1 => ?_) (fun c1 => absurd e1 c1)
      refine g_iload C dL_law_1583 1 rfl ?_
      refine g_if_ne (tgt := 1600) C dL_law_1585 (by decide) (fun c2 => ?_) (fun c2 => absurd c2 (by decide))
      refine g_goto (tgt := 2215) C dL_law_1600 (by decide) ?_
      refine g_lv (lv' := [(0, .ref b), (1, .ref (Ad 0 0)), (2, .ref (Ad 40 0)), (3, .ref (Ad 90 0)), (4, .int i)]) [2, 3, 4, 5, 6] rfl ?_
      refine g_widen (k := cells + (kc ν - kc ν) + 1) (n := slots + (ks ν - ks ν) + 6) (by omega) (by omega) ?_
      exact kk Ad (mn_rfl _) (kp_rfl _ _)
    · exact cd_nil ec
noncomputable def s_bust (w : Nat) (μ : MP) (ν : NC) (a : AS) (x1 : Int32) : Option ((MP × NC) × AS) := (f_X8_bust w μ ν x1).bind fun r => (f_X9_bust w a x1).bind fun q => (f_X9_thrown w q.1).bind fun t => lwq true [(1, 1), (3, 2)] μ ν (r.1, r.2) q t
set_option maxHeartbeats 4000000 in
set_option maxRecDepth 100000 in
theorem w_bust {p : Program} {l : Launch} {e : Env} {s : State} {m : MethodId} {args : Array Value} {below : List Frame} {meth : Method} {c : Code} {D : va_G} {E : Nat → ClassId} {A : Nat → Prop} {Q : State → Prop} {B : Nat × (Nat → Nat)} {a30 a31 : Nat} {μ : MP} {ν : NC} {a : AS} {Ad : Nat → Nat → Nat} {w : Nat} {b L : Nat} {xs : Nat → Int32} {cells slots : Nat} (C : cx p s m args meth c D E A cL_law 7 "TradeLineLaw") (hEv : eV a30 a31 B A s s.heap) (hN : vN s) (hl : l.stackTraces = false) (hI : lwI ν) (h3 : Ad 30 0 = a30 ∧ Ad 31 0 = a31) (hX : va_X b L xs s s.heap) (hbl : b < s.heap.size) (hbA : ¬ A b) {i x1 : Int32} (q1 : vp_in (i + 1) L ∧ xs (i + 1).toNatClampNeg = x1) {S : (MP × NC) × AS} (h : s_bust w μ ν a x1 = some S) (hf : cells + (kc S.1.2 - kc ν) + 1 ≤ 299000 ∧ slots + (ks S.1.2 - ks ν) + 6 ≤ 3090000) (kk : ∀ A1, mn ν S.1.2 → kp ν Ad A1 → G p l e room_1 s m args below meth c D E A 7 Q (zS S.1.1 S.1.2 S.2 A1) [] (cells + (kc S.1.2 - kc ν) + 1) (slots + (ks S.1.2 - ks ν) + 6) 2215 [(0, .ref b), (1, .ref (A1 0 0)), (2, .ref (A1 40 0)), (3, .ref (A1 90 0)), (4, .int i)] []) : G p l e room_1 s m args below meth c D E A 7 Q (zS μ ν a Ad) [] (cells) (slots) 1603 [(0, .ref b), (1, .ref (Ad 0 0)), (2, .ref (Ad 40 0)), (3, .ref (Ad 90 0)), (4, .int i)] [] := by
  unfold s_bust at h
  obtain ⟨r, hr, h⟩ := bind_of h
  obtain ⟨q, hq, h⟩ := bind_of h
  obtain ⟨t, ht, h⟩ := bind_of h
  rcases lwq_t h with ⟨e0, e1, e2, rfl⟩ | ⟨ec, rfl⟩
  · replace e0 : r.1 = 0 := e0
    have hf1 : cells + (kc r.2.1.2 - kc ν) + 1 ≤ 299000 := hf.1
    have hf2 : slots + (ks r.2.1.2 - ks ν) + 6 ≤ 3090000 := hf.2
    refine g_aload_n C dL_law_1603 rfl 1 rfl ?_
    refine g_aload_n C dL_law_1604 rfl 0 rfl ?_
    refine g_iload C dL_law_1605 4 rfl ?_
    refine g_iconst (v := 1) C dL_law_1607 (by decide) ?_
    refine g_iadd C dL_law_1608 ?_
    refine g_ialdX C hX hbl hbA q1.1 dL_law_1609 ?_
    rw [q1.2]
    refine g_aload_n C dL_law_1610 rfl 3 rfl ?_
    refine g_cSh (n := 3) (exr := []) C hEv hN h3 [_, _, _] _ rfl rfl [] rfl rfl (fun sz => r_L_bust l B μ ν a Ad w x1 r.2 (thr0 hr e0) hI.1 hI.2.1 D E sz) rfl gh_bust gw_0 gw_1238 gw_1239 ⟨by decide +kernel, by decide +kernel, by decide +kernel⟩ ⟨rfl, rfl⟩ ⟨Nat.le_of_ble_eq_true rfl, Nat.le_of_ble_eq_true rfl⟩ (Nat.le_of_ble_eq_true rfl) dL_law_1611 (rm_hf (by omega) (by omega)) (fun r8 u hp hx => ?_)
    obtain ⟨er8, A1, rfl, hkp⟩ := hp
    rw [er8]
    try dsimp only [List.nil_append]
    have hm : mn ν r.2.1.2 := m_X8_bust (thr0 hr e0)
    have hI1 := lwI_mn hI hm
    rw [show Ad 0 0 = A1 0 0 from (hkp.1 0 0 rfl hI.1).symm, show Ad 40 0 = A1 40 0 from (hkp.1 40 0 rfl hI.2.2.1).symm, show Ad 90 0 = A1 90 0 from (hkp.1 90 0 rfl hI.2.1.1).symm]
    refine g_istore (lv' := [(5, .int 0), (0, .ref b), (1, .ref (A1 0 0)), (2, .ref (A1 40 0)), (3, .ref (A1 90 0)), (4, .int i)]) C dL_law_1614 (by decide) rfl ?_
    refine g_aload_n C dL_law_1616 rfl 3 rfl ?_
    refine g_aload_n C dL_law_1617 rfl 1 rfl ?_
    refine g_iload C dL_law_1618 5 rfl ?_
    refine g_iconst (v := 1) C dL_law_1620 (by decide) ?_
    refine g_iadd C dL_law_1621 ?_
    refine g_ialdX C hX hbl hbA q1.1 dL_law_1622 ?_
    rw [q1.2]
    refine g_cVi (n := 1) (exc := []) (exr := []) C [_] _ rfl rfl [] [] rfl rfl rfl rfl (fun _ _ h => absurd h (by simp)) (fun _ h => absurd h (by simp)) (fun _ h => absurd h (by simp)) (fun sz => zk_bust l (up3 r.2.1.1.1 90 0 0 r.2.2, r.2.1.1.2) r.2.1.2 a A1 hI1.2.2 w x1 q hq D E sz) rfl gw_1734 gw_9 gw_1731 gw_1732 gw_1733 ⟨by decide +kernel, by decide +kernel, by decide +kernel⟩ ⟨rfl, rfl⟩ ⟨Nat.le_of_ble_eq_true rfl, Nat.le_of_ble_eq_true rfl⟩ (rcvT ⟨hI1.2.2.1, fun e => absurd e (by decide)⟩ rfl rfl rfl) (Nat.le_of_ble_eq_true rfl) dL_law_1623 (rm_hf (by omega) (by omega)) (fun r9 u hp hx => ?_)
    obtain ⟨er9, rfl⟩ := hp
    rw [er9]
    try dsimp only [List.nil_append]
    refine g_istore (lv' := [(6, .int q.2), (5, .int 0), (0, .ref b), (1, .ref (A1 0 0)), (2, .ref (A1 40 0)), (3, .ref (A1 90 0)), (4, .int i)]) C dL_law_1626 (by decide) rfl ?_
    refine g_aload_n C dL_law_1628 rfl 4 rfl ?_
    refine g_cVi (n := 0) (exc := []) (exr := []) C [] _ rfl rfl [] [] rfl rfl rfl rfl (fun _ _ h => absurd h (by simp)) (fun _ h => absurd h (by simp)) (fun _ h => absurd h (by simp)) (fun sz => zk_thrown l (up3 r.2.1.1.1 90 0 0 r.2.2, r.2.1.1.2) r.2.1.2 q.1 A1 hI1.2.2 w  t ht D E sz) rfl gw_1468 gw_9 gw_1465 gw_1466 gw_1467 ⟨by decide +kernel, by decide +kernel, by decide +kernel⟩ ⟨rfl, rfl⟩ ⟨Nat.le_of_ble_eq_true rfl, Nat.le_of_ble_eq_true rfl⟩ (rcvT ⟨hI1.2.2.1, fun e => absurd e (by decide)⟩ rfl rfl rfl) (Nat.le_of_ble_eq_true rfl) dL_law_1629 (rm_hf (by omega) (by omega)) (fun r9 u hp hx => ?_)
    obtain ⟨er9, rfl⟩ := hp
    rw [er9]
    try dsimp only [List.nil_append]
    refine g_iload C dL_law_1632 1 rfl ?_
    refine g_icmp_eq (tgt := 1639) C dL_law_1634 (by decide) (fun c1 => ?_) (fun c1 => absurd e1 c1)
    refine g_iload C dL_law_1639 1 rfl ?_
    refine g_if_ne (tgt := 1656) C dL_law_1641 (by decide) (fun c2 => absurd rfl c2) (fun c2 => ?_)
    refine g_aload_n C dL_law_1644 rfl 5 rfl ?_
    refine g_iconst (v := 0) C dL_law_1645 (by decide) ?_
    refine g_lald (μ := (up3 r.2.1.1.1 90 0 0 r.2.2, r.2.1.1.2)) (ν := r.2.1.2) (a := q.1) (Ad := A1) C rfl hI1.2.1 dL_law_1646 ?_
    refine g_iload C dL_law_1647 0 rfl ?_
    refine g_i2l C dL_law_1649 rfl ?_
    refine g_lcmp C dL_law_1650 (fun r7 e7 => ?_)
    refine g_if_eq (tgt := 1656) C dL_law_1651 (by decide) (fun c3 => ?_) (fun c3 => absurd (e7.mpr (congrArg Int32.toInt64 (show up3 r.2.1.1.1 90 0 0 r.2.2 90 0 0 = _ from (up3_90 _ _).trans e2))) c3)
    refine g_goto (tgt := 2215) C dL_law_1656 (by decide) ?_
    refine g_lv (lv' := [(0, .ref b), (1, .ref (A1 0 0)), (2, .ref (A1 40 0)), (3, .ref (A1 90 0)), (4, .int i)]) [2, 3, 4, 5, 6] rfl ?_
    refine g_widen (k := cells + (kc r.2.1.2 - kc ν) + 1) (n := slots + (ks r.2.1.2 - ks ν) + 6) (by omega) (by omega) ?_
    exact kk A1 hm hkp
  · rcases cd_cons ec with ⟨e0, e1⟩ | ec
    · have hf1 : cells + (kc ν - kc ν) + 1 ≤ 299000 := hf.1
      have hf2 : slots + (ks ν - ks ν) + 6 ≤ 3090000 := hf.2
      refine g_aload_n C dL_law_1603 rfl 1 rfl ?_
      refine g_aload_n C dL_law_1604 rfl 0 rfl ?_
      refine g_iload C dL_law_1605 4 rfl ?_
      refine g_iconst (v := 1) C dL_law_1607 (by decide) ?_
      refine g_iadd C dL_law_1608 ?_
      refine g_ialdX C hX hbl hbA q1.1 dL_law_1609 ?_
      rw [q1.2]
      refine g_aload_n C dL_law_1610 rfl 3 rfl ?_
      refine g_cSh (n := 3) (exr := []) C hEv hN h3 [_, _, _] _ rfl rfl [] rfl rfl (fun sz => e1_L_bust l hl B μ ν a Ad w x1 r.2 (thrS hr e0) hI.1 hI.2.1 D E sz) rfl gh_bust gw_0 gw_1238 gw_1239 ⟨by decide +kernel, by decide +kernel, by decide +kernel⟩ ⟨rfl, rfl⟩ ⟨Nat.le_of_ble_eq_true rfl, Nat.le_of_ble_eq_true rfl⟩ (Nat.le_of_ble_eq_true rfl) dL_law_1611 (rm_hf (by omega) (by omega)) (fun r8 u hp hx => ?_)
      obtain ⟨er8, rfl⟩ := hp
      rw [er8]
      try dsimp only [List.nil_append]
      refine g_istore (lv' := [(5, .int 1), (0, .ref b), (1, .ref (Ad 0 0)), (2, .ref (Ad 40 0)), (3, .ref (Ad 90 0)), (4, .int i)]) C dL_law_1614 (by decide) rfl ?_
      refine g_aload_n C dL_law_1616 rfl 3 rfl ?_
      refine g_aload_n C dL_law_1617 rfl 1 rfl ?_
      refine g_iload C dL_law_1618 5 rfl ?_
      refine g_iconst (v := 1) C dL_law_1620 (by decide) ?_
      refine g_iadd C dL_law_1621 ?_
      refine g_ialdX C hX hbl hbA q1.1 dL_law_1622 ?_
      rw [q1.2]
      refine g_cVi (n := 1) (exc := []) (exr := []) C [_] _ rfl rfl [] [] rfl rfl rfl rfl (fun _ _ h => absurd h (by simp)) (fun _ h => absurd h (by simp)) (fun _ h => absurd h (by simp)) (fun sz => zk_bust l μ ν a Ad hI.2.2 w x1 q hq D E sz) rfl gw_1734 gw_9 gw_1731 gw_1732 gw_1733 ⟨by decide +kernel, by decide +kernel, by decide +kernel⟩ ⟨rfl, rfl⟩ ⟨Nat.le_of_ble_eq_true rfl, Nat.le_of_ble_eq_true rfl⟩ (rcvT ⟨hI.2.2.1, fun e => absurd e (by decide)⟩ rfl rfl rfl) (Nat.le_of_ble_eq_true rfl) dL_law_1623 (rm_hf (by omega) (by omega)) (fun r9 u hp hx => ?_)
      obtain ⟨er9, rfl⟩ := hp
      rw [er9]
      try dsimp only [List.nil_append]
      refine g_istore (lv' := [(6, .int q.2), (5, .int 1), (0, .ref b), (1, .ref (Ad 0 0)), (2, .ref (Ad 40 0)), (3, .ref (Ad 90 0)), (4, .int i)]) C dL_law_1626 (by decide) rfl ?_
      refine g_aload_n C dL_law_1628 rfl 4 rfl ?_
      refine g_cVi (n := 0) (exc := []) (exr := []) C [] _ rfl rfl [] [] rfl rfl rfl rfl (fun _ _ h => absurd h (by simp)) (fun _ h => absurd h (by simp)) (fun _ h => absurd h (by simp)) (fun sz => zk_thrown l μ ν q.1 Ad hI.2.2 w  t ht D E sz) rfl gw_1468 gw_9 gw_1465 gw_1466 gw_1467 ⟨by decide +kernel, by decide +kernel, by decide +kernel⟩ ⟨rfl, rfl⟩ ⟨Nat.le_of_ble_eq_true rfl, Nat.le_of_ble_eq_true rfl⟩ (rcvT ⟨hI.2.2.1, fun e => absurd e (by decide)⟩ rfl rfl rfl) (Nat.le_of_ble_eq_true rfl) dL_law_1629 (rm_hf (by omega) (by omega)) (fun r9 u hp hx => ?_)
      obtain ⟨er9, rfl⟩ := hp
      rw [er9]
      try dsimp only [List.nil_append]
      refine g_iload C dL_law_1632 1 rfl ?_
      refine g_icmp_eq (tgt := 1639) C dL_law_1634 (by decide) (fun c1 => ?_) (fun c1 => absurd e1 c1)
      refine g_iload C dL_law_1639 1 rfl ?_
      refine g_if_ne (tgt := 1656) C dL_law_1641 (by decide) (fun c2 => ?_) (fun c2 => absurd c2 (by decide))
      refine g_goto (tgt := 2215) C dL_law_1656 (by decide) ?_
      refine g_lv (lv' := [(0, .ref b), (1, .ref (Ad 0 0)), (2, .ref (Ad 40 0)), (3, .ref (Ad 90 0)), (4, .int i)]) [2, 3, 4, 5, 6] rfl ?_
      refine g_widen (k := cells + (kc ν - kc ν) + 1) (n := slots + (ks ν - ks ν) + 6) (by omega) (by omega) ?_
      exact kk Ad (mn_rfl _) (kp_rfl _ _)
    · skip
      rcases cd_cons ec with ⟨e0, e1⟩ | ec
      · have hf1 : cells + (kc ν - kc ν) + 1 ≤ 299000 := hf.1
        have hf2 : slots + (ks ν - ks ν) + 6 ≤ 3090000 := hf.2
        refine g_aload_n C dL_law_1603 rfl 1 rfl ?_
        refine g_aload_n C dL_law_1604 rfl 0 rfl ?_
        refine g_iload C dL_law_1605 4 rfl ?_
        refine g_iconst (v := 1) C dL_law_1607 (by decide) ?_
        refine g_iadd C dL_law_1608 ?_
        refine g_ialdX C hX hbl hbA q1.1 dL_law_1609 ?_
        rw [q1.2]
        refine g_aload_n C dL_law_1610 rfl 3 rfl ?_
        refine g_cSh (n := 3) (exr := []) C hEv hN h3 [_, _, _] _ rfl rfl [] rfl rfl (fun sz => e3_L_bust l hl B μ ν a Ad w x1 r.2 (thrS hr e0) hI.1 hI.2.1 D E sz) rfl gh_bust gw_0 gw_1238 gw_1239 ⟨by decide +kernel, by decide +kernel, by decide +kernel⟩ ⟨rfl, rfl⟩ ⟨Nat.le_of_ble_eq_true rfl, Nat.le_of_ble_eq_true rfl⟩ (Nat.le_of_ble_eq_true rfl) dL_law_1611 (rm_hf (by omega) (by omega)) (fun r8 u hp hx => ?_)
        obtain ⟨er8, rfl⟩ := hp
        rw [er8]
        try dsimp only [List.nil_append]
        refine g_istore (lv' := [(5, .int 2), (0, .ref b), (1, .ref (Ad 0 0)), (2, .ref (Ad 40 0)), (3, .ref (Ad 90 0)), (4, .int i)]) C dL_law_1614 (by decide) rfl ?_
        refine g_aload_n C dL_law_1616 rfl 3 rfl ?_
        refine g_aload_n C dL_law_1617 rfl 1 rfl ?_
        refine g_iload C dL_law_1618 5 rfl ?_
        refine g_iconst (v := 1) C dL_law_1620 (by decide) ?_
        refine g_iadd C dL_law_1621 ?_
        refine g_ialdX C hX hbl hbA q1.1 dL_law_1622 ?_
        rw [q1.2]
        refine g_cVi (n := 1) (exc := []) (exr := []) C [_] _ rfl rfl [] [] rfl rfl rfl rfl (fun _ _ h => absurd h (by simp)) (fun _ h => absurd h (by simp)) (fun _ h => absurd h (by simp)) (fun sz => zk_bust l μ ν a Ad hI.2.2 w x1 q hq D E sz) rfl gw_1734 gw_9 gw_1731 gw_1732 gw_1733 ⟨by decide +kernel, by decide +kernel, by decide +kernel⟩ ⟨rfl, rfl⟩ ⟨Nat.le_of_ble_eq_true rfl, Nat.le_of_ble_eq_true rfl⟩ (rcvT ⟨hI.2.2.1, fun e => absurd e (by decide)⟩ rfl rfl rfl) (Nat.le_of_ble_eq_true rfl) dL_law_1623 (rm_hf (by omega) (by omega)) (fun r9 u hp hx => ?_)
        obtain ⟨er9, rfl⟩ := hp
        rw [er9]
        try dsimp only [List.nil_append]
        refine g_istore (lv' := [(6, .int q.2), (5, .int 2), (0, .ref b), (1, .ref (Ad 0 0)), (2, .ref (Ad 40 0)), (3, .ref (Ad 90 0)), (4, .int i)]) C dL_law_1626 (by decide) rfl ?_
        refine g_aload_n C dL_law_1628 rfl 4 rfl ?_
        refine g_cVi (n := 0) (exc := []) (exr := []) C [] _ rfl rfl [] [] rfl rfl rfl rfl (fun _ _ h => absurd h (by simp)) (fun _ h => absurd h (by simp)) (fun _ h => absurd h (by simp)) (fun sz => zk_thrown l μ ν q.1 Ad hI.2.2 w  t ht D E sz) rfl gw_1468 gw_9 gw_1465 gw_1466 gw_1467 ⟨by decide +kernel, by decide +kernel, by decide +kernel⟩ ⟨rfl, rfl⟩ ⟨Nat.le_of_ble_eq_true rfl, Nat.le_of_ble_eq_true rfl⟩ (rcvT ⟨hI.2.2.1, fun e => absurd e (by decide)⟩ rfl rfl rfl) (Nat.le_of_ble_eq_true rfl) dL_law_1629 (rm_hf (by omega) (by omega)) (fun r9 u hp hx => ?_)
        obtain ⟨er9, rfl⟩ := hp
        rw [er9]
        try dsimp only [List.nil_append]
        refine g_iload C dL_law_1632 1 rfl ?_
        refine g_icmp_eq (tgt := 1639) C dL_law_1634 (by decide) (fun c1 => ?_) (fun c1 => absurd e1 c1)
        refine g_iload C dL_law_1639 1 rfl ?_
        refine g_if_ne (tgt := 1656) C dL_law_1641 (by decide) (fun c2 => ?_) (fun c2 => absurd c2 (by decide))
        refine g_goto (tgt := 2215) C dL_law_1656 (by decide) ?_
        refine g_lv (lv' := [(0, .ref b), (1, .ref (Ad 0 0)), (2, .ref (Ad 40 0)), (3, .ref (Ad 90 0)), (4, .int i)]) [2, 3, 4, 5, 6] rfl ?_
        refine g_widen (k := cells + (kc ν - kc ν) + 1) (n := slots + (ks ν - ks ν) + 6) (by omega) (by omega) ?_
        exact kk Ad (mn_rfl _) (kp_rfl _ _)
      · exact cd_nil ec
noncomputable def s_correct (w : Nat) (μ : MP) (ν : NC) (a : AS) (x1 : Int32) (x2 : Int32) : Option ((MP × NC) × AS) := (f_X8_correct w μ ν x1 x2).bind fun r => (f_X9_correct w a x1 x2).bind fun q => (f_X9_thrown w q.1).bind fun t => lwq true [(1, 1), (2, 2), (3, 3)] μ ν (r.1, r.2) q t
set_option maxHeartbeats 4000000 in
set_option maxRecDepth 100000 in
theorem w_correct {p : Program} {l : Launch} {e : Env} {s : State} {m : MethodId} {args : Array Value} {below : List Frame} {meth : Method} {c : Code} {D : va_G} {E : Nat → ClassId} {A : Nat → Prop} {Q : State → Prop} {B : Nat × (Nat → Nat)} {a30 a31 : Nat} {μ : MP} {ν : NC} {a : AS} {Ad : Nat → Nat → Nat} {w : Nat} {b L : Nat} {xs : Nat → Int32} {cells slots : Nat} (C : cx p s m args meth c D E A cL_law 7 "TradeLineLaw") (hEv : eV a30 a31 B A s s.heap) (hN : vN s) (hl : l.stackTraces = false) (hI : lwI ν) (h3 : Ad 30 0 = a30 ∧ Ad 31 0 = a31) (hX : va_X b L xs s s.heap) (hbl : b < s.heap.size) (hbA : ¬ A b) {i x1 x2 : Int32} (q1 : vp_in (i + 1) L ∧ xs (i + 1).toNatClampNeg = x1) (q2 : vp_in (i + 2) L ∧ xs (i + 2).toNatClampNeg = x2) {S : (MP × NC) × AS} (h : s_correct w μ ν a x1 x2 = some S) (hf : cells + (kc S.1.2 - kc ν) + 1 ≤ 299000 ∧ slots + (ks S.1.2 - ks ν) + 6 ≤ 3090000) (kk : ∀ A1, mn ν S.1.2 → kp ν Ad A1 → G p l e room_1 s m args below meth c D E A 7 Q (zS S.1.1 S.1.2 S.2 A1) [] (cells + (kc S.1.2 - kc ν) + 1) (slots + (ks S.1.2 - ks ν) + 6) 2215 [(0, .ref b), (1, .ref (A1 0 0)), (2, .ref (A1 40 0)), (3, .ref (A1 90 0)), (4, .int i)] []) : G p l e room_1 s m args below meth c D E A 7 Q (zS μ ν a Ad) [] (cells) (slots) 1659 [(0, .ref b), (1, .ref (Ad 0 0)), (2, .ref (Ad 40 0)), (3, .ref (Ad 90 0)), (4, .int i)] [] := by
  unfold s_correct at h
  obtain ⟨r, hr, h⟩ := bind_of h
  obtain ⟨q, hq, h⟩ := bind_of h
  obtain ⟨t, ht, h⟩ := bind_of h
  rcases lwq_t h with ⟨e0, e1, e2, rfl⟩ | ⟨ec, rfl⟩
  · replace e0 : r.1 = 0 := e0
    have hf1 : cells + (kc r.2.1.2 - kc ν) + 1 ≤ 299000 := hf.1
    have hf2 : slots + (ks r.2.1.2 - ks ν) + 6 ≤ 3090000 := hf.2
    refine g_aload_n C dL_law_1659 rfl 1 rfl ?_
    refine g_aload_n C dL_law_1660 rfl 0 rfl ?_
    refine g_iload C dL_law_1661 4 rfl ?_
    refine g_iconst (v := 1) C dL_law_1663 (by decide) ?_
    refine g_iadd C dL_law_1664 ?_
    refine g_ialdX C hX hbl hbA q1.1 dL_law_1665 ?_
    rw [q1.2]
    refine g_aload_n C dL_law_1666 rfl 0 rfl ?_
    refine g_iload C dL_law_1667 4 rfl ?_
    refine g_iconst (v := 2) C dL_law_1669 (by decide) ?_
    refine g_iadd C dL_law_1670 ?_
    refine g_ialdX C hX hbl hbA q2.1 dL_law_1671 ?_
    rw [q2.2]
    refine g_aload_n C dL_law_1672 rfl 3 rfl ?_
    refine g_cSh (n := 4) (exr := []) C hEv hN h3 [_, _, _, _] _ rfl rfl [] rfl rfl (fun sz => r_L_correct l B μ ν a Ad w x1 x2 r.2 (thr0 hr e0) hI.1 hI.2.1 D E sz) rfl gh_correct gw_0 gw_1254 gw_1255 ⟨by decide +kernel, by decide +kernel, by decide +kernel⟩ ⟨rfl, rfl⟩ ⟨Nat.le_of_ble_eq_true rfl, Nat.le_of_ble_eq_true rfl⟩ (Nat.le_of_ble_eq_true rfl) dL_law_1673 (rm_hf (by omega) (by omega)) (fun r8 u hp hx => ?_)
    obtain ⟨er8, A1, rfl, hkp⟩ := hp
    rw [er8]
    try dsimp only [List.nil_append]
    have hm : mn ν r.2.1.2 := m_X8_correct (thr0 hr e0)
    have hI1 := lwI_mn hI hm
    rw [show Ad 0 0 = A1 0 0 from (hkp.1 0 0 rfl hI.1).symm, show Ad 40 0 = A1 40 0 from (hkp.1 40 0 rfl hI.2.2.1).symm, show Ad 90 0 = A1 90 0 from (hkp.1 90 0 rfl hI.2.1.1).symm]
    refine g_istore (lv' := [(5, .int 0), (0, .ref b), (1, .ref (A1 0 0)), (2, .ref (A1 40 0)), (3, .ref (A1 90 0)), (4, .int i)]) C dL_law_1676 (by decide) rfl ?_
    refine g_aload_n C dL_law_1678 rfl 3 rfl ?_
    refine g_aload_n C dL_law_1679 rfl 1 rfl ?_
    refine g_iload C dL_law_1680 5 rfl ?_
    refine g_iconst (v := 1) C dL_law_1682 (by decide) ?_
    refine g_iadd C dL_law_1683 ?_
    refine g_ialdX C hX hbl hbA q1.1 dL_law_1684 ?_
    rw [q1.2]
    refine g_aload_n C dL_law_1685 rfl 1 rfl ?_
    refine g_iload C dL_law_1686 5 rfl ?_
    refine g_iconst (v := 2) C dL_law_1688 (by decide) ?_
    refine g_iadd C dL_law_1689 ?_
    refine g_ialdX C hX hbl hbA q2.1 dL_law_1690 ?_
    rw [q2.2]
    refine g_cVi (n := 2) (exc := []) (exr := []) C [_, _] _ rfl rfl [] [] rfl rfl rfl rfl (fun _ _ h => absurd h (by simp)) (fun _ h => absurd h (by simp)) (fun _ h => absurd h (by simp)) (fun sz => zk_correct l (up3 r.2.1.1.1 90 0 0 r.2.2, r.2.1.1.2) r.2.1.2 a A1 hI1.2.2 w x1 x2 q hq D E sz) rfl gw_1738 gw_9 gw_1735 gw_1736 gw_1737 ⟨by decide +kernel, by decide +kernel, by decide +kernel⟩ ⟨rfl, rfl⟩ ⟨Nat.le_of_ble_eq_true rfl, Nat.le_of_ble_eq_true rfl⟩ (rcvT ⟨hI1.2.2.1, fun e => absurd e (by decide)⟩ rfl rfl rfl) (Nat.le_of_ble_eq_true rfl) dL_law_1691 (rm_hf (by omega) (by omega)) (fun r9 u hp hx => ?_)
    obtain ⟨er9, rfl⟩ := hp
    rw [er9]
    try dsimp only [List.nil_append]
    refine g_istore (lv' := [(6, .int q.2), (5, .int 0), (0, .ref b), (1, .ref (A1 0 0)), (2, .ref (A1 40 0)), (3, .ref (A1 90 0)), (4, .int i)]) C dL_law_1694 (by decide) rfl ?_
    refine g_aload_n C dL_law_1696 rfl 4 rfl ?_
    refine g_cVi (n := 0) (exc := []) (exr := []) C [] _ rfl rfl [] [] rfl rfl rfl rfl (fun _ _ h => absurd h (by simp)) (fun _ h => absurd h (by simp)) (fun _ h => absurd h (by simp)) (fun sz => zk_thrown l (up3 r.2.1.1.1 90 0 0 r.2.2, r.2.1.1.2) r.2.1.2 q.1 A1 hI1.2.2 w  t ht D E sz) rfl gw_1468 gw_9 gw_1465 gw_1466 gw_1467 ⟨by decide +kernel, by decide +kernel, by decide +kernel⟩ ⟨rfl, rfl⟩ ⟨Nat.le_of_ble_eq_true rfl, Nat.le_of_ble_eq_true rfl⟩ (rcvT ⟨hI1.2.2.1, fun e => absurd e (by decide)⟩ rfl rfl rfl) (Nat.le_of_ble_eq_true rfl) dL_law_1697 (rm_hf (by omega) (by omega)) (fun r9 u hp hx => ?_)
    obtain ⟨er9, rfl⟩ := hp
    rw [er9]
    try dsimp only [List.nil_append]
    refine g_iload C dL_law_1700 1 rfl ?_
    refine g_icmp_eq (tgt := 1707) C dL_law_1702 (by decide) (fun c1 => ?_) (fun c1 => absurd e1 c1)
    refine g_iload C dL_law_1707 1 rfl ?_
    refine g_if_ne (tgt := 1724) C dL_law_1709 (by decide) (fun c2 => absurd rfl c2) (fun c2 => ?_)
    refine g_aload_n C dL_law_1712 rfl 5 rfl ?_
    refine g_iconst (v := 0) C dL_law_1713 (by decide) ?_
    refine g_lald (μ := (up3 r.2.1.1.1 90 0 0 r.2.2, r.2.1.1.2)) (ν := r.2.1.2) (a := q.1) (Ad := A1) C rfl hI1.2.1 dL_law_1714 ?_
    refine g_iload C dL_law_1715 0 rfl ?_
    refine g_i2l C dL_law_1717 rfl ?_
    refine g_lcmp C dL_law_1718 (fun r7 e7 => ?_)
    refine g_if_eq (tgt := 1724) C dL_law_1719 (by decide) (fun c3 => ?_) (fun c3 => absurd (e7.mpr (congrArg Int32.toInt64 (show up3 r.2.1.1.1 90 0 0 r.2.2 90 0 0 = _ from (up3_90 _ _).trans e2))) c3)
    refine g_goto (tgt := 2215) C dL_law_1724 (by decide) ?_
    refine g_lv (lv' := [(0, .ref b), (1, .ref (A1 0 0)), (2, .ref (A1 40 0)), (3, .ref (A1 90 0)), (4, .int i)]) [2, 3, 4, 5, 6] rfl ?_
    refine g_widen (k := cells + (kc r.2.1.2 - kc ν) + 1) (n := slots + (ks r.2.1.2 - ks ν) + 6) (by omega) (by omega) ?_
    exact kk A1 hm hkp
  · rcases cd_cons ec with ⟨e0, e1⟩ | ec
    · have hf1 : cells + (kc ν - kc ν) + 1 ≤ 299000 := hf.1
      have hf2 : slots + (ks ν - ks ν) + 6 ≤ 3090000 := hf.2
      refine g_aload_n C dL_law_1659 rfl 1 rfl ?_
      refine g_aload_n C dL_law_1660 rfl 0 rfl ?_
      refine g_iload C dL_law_1661 4 rfl ?_
      refine g_iconst (v := 1) C dL_law_1663 (by decide) ?_
      refine g_iadd C dL_law_1664 ?_
      refine g_ialdX C hX hbl hbA q1.1 dL_law_1665 ?_
      rw [q1.2]
      refine g_aload_n C dL_law_1666 rfl 0 rfl ?_
      refine g_iload C dL_law_1667 4 rfl ?_
      refine g_iconst (v := 2) C dL_law_1669 (by decide) ?_
      refine g_iadd C dL_law_1670 ?_
      refine g_ialdX C hX hbl hbA q2.1 dL_law_1671 ?_
      rw [q2.2]
      refine g_aload_n C dL_law_1672 rfl 3 rfl ?_
      refine g_cSh (n := 4) (exr := []) C hEv hN h3 [_, _, _, _] _ rfl rfl [] rfl rfl (fun sz => e1_L_correct l hl B μ ν a Ad w x1 x2 r.2 (thrS hr e0) hI.1 hI.2.1 D E sz) rfl gh_correct gw_0 gw_1254 gw_1255 ⟨by decide +kernel, by decide +kernel, by decide +kernel⟩ ⟨rfl, rfl⟩ ⟨Nat.le_of_ble_eq_true rfl, Nat.le_of_ble_eq_true rfl⟩ (Nat.le_of_ble_eq_true rfl) dL_law_1673 (rm_hf (by omega) (by omega)) (fun r8 u hp hx => ?_)
      obtain ⟨er8, rfl⟩ := hp
      rw [er8]
      try dsimp only [List.nil_append]
      refine g_istore (lv' := [(5, .int 1), (0, .ref b), (1, .ref (Ad 0 0)), (2, .ref (Ad 40 0)), (3, .ref (Ad 90 0)), (4, .int i)]) C dL_law_1676 (by decide) rfl ?_
      refine g_aload_n C dL_law_1678 rfl 3 rfl ?_
      refine g_aload_n C dL_law_1679 rfl 1 rfl ?_
      refine g_iload C dL_law_1680 5 rfl ?_
      refine g_iconst (v := 1) C dL_law_1682 (by decide) ?_
      refine g_iadd C dL_law_1683 ?_
      refine g_ialdX C hX hbl hbA q1.1 dL_law_1684 ?_
      rw [q1.2]
      refine g_aload_n C dL_law_1685 rfl 1 rfl ?_
      refine g_iload C dL_law_1686 5 rfl ?_
      refine g_iconst (v := 2) C dL_law_1688 (by decide) ?_
      refine g_iadd C dL_law_1689 ?_
      refine g_ialdX C hX hbl hbA q2.1 dL_law_1690 ?_
      rw [q2.2]
      refine g_cVi (n := 2) (exc := []) (exr := []) C [_, _] _ rfl rfl [] [] rfl rfl rfl rfl (fun _ _ h => absurd h (by simp)) (fun _ h => absurd h (by simp)) (fun _ h => absurd h (by simp)) (fun sz => zk_correct l μ ν a Ad hI.2.2 w x1 x2 q hq D E sz) rfl gw_1738 gw_9 gw_1735 gw_1736 gw_1737 ⟨by decide +kernel, by decide +kernel, by decide +kernel⟩ ⟨rfl, rfl⟩ ⟨Nat.le_of_ble_eq_true rfl, Nat.le_of_ble_eq_true rfl⟩ (rcvT ⟨hI.2.2.1, fun e => absurd e (by decide)⟩ rfl rfl rfl) (Nat.le_of_ble_eq_true rfl) dL_law_1691 (rm_hf (by omega) (by omega)) (fun r9 u hp hx => ?_)
      obtain ⟨er9, rfl⟩ := hp
      rw [er9]
      try dsimp only [List.nil_append]
      refine g_istore (lv' := [(6, .int q.2), (5, .int 1), (0, .ref b), (1, .ref (Ad 0 0)), (2, .ref (Ad 40 0)), (3, .ref (Ad 90 0)), (4, .int i)]) C dL_law_1694 (by decide) rfl ?_
      refine g_aload_n C dL_law_1696 rfl 4 rfl ?_
      refine g_cVi (n := 0) (exc := []) (exr := []) C [] _ rfl rfl [] [] rfl rfl rfl rfl (fun _ _ h => absurd h (by simp)) (fun _ h => absurd h (by simp)) (fun _ h => absurd h (by simp)) (fun sz => zk_thrown l μ ν q.1 Ad hI.2.2 w  t ht D E sz) rfl gw_1468 gw_9 gw_1465 gw_1466 gw_1467 ⟨by decide +kernel, by decide +kernel, by decide +kernel⟩ ⟨rfl, rfl⟩ ⟨Nat.le_of_ble_eq_true rfl, Nat.le_of_ble_eq_true rfl⟩ (rcvT ⟨hI.2.2.1, fun e => absurd e (by decide)⟩ rfl rfl rfl) (Nat.le_of_ble_eq_true rfl) dL_law_1697 (rm_hf (by omega) (by omega)) (fun r9 u hp hx => ?_)
      obtain ⟨er9, rfl⟩ := hp
      rw [er9]
      try dsimp only [List.nil_append]
      refine g_iload C dL_law_1700 1 rfl ?_
      refine g_icmp_eq (tgt := 1707) C dL_law_1702 (by decide) (fun c1 => ?_) (fun c1 => absurd e1 c1)
      refine g_iload C dL_law_1707 1 rfl ?_
      refine g_if_ne (tgt := 1724) C dL_law_1709 (by decide) (fun c2 => ?_) (fun c2 => absurd c2 (by decide))
      refine g_goto (tgt := 2215) C dL_law_1724 (by decide) ?_
      refine g_lv (lv' := [(0, .ref b), (1, .ref (Ad 0 0)), (2, .ref (Ad 40 0)), (3, .ref (Ad 90 0)), (4, .int i)]) [2, 3, 4, 5, 6] rfl ?_
      refine g_widen (k := cells + (kc ν - kc ν) + 1) (n := slots + (ks ν - ks ν) + 6) (by omega) (by omega) ?_
      exact kk Ad (mn_rfl _) (kp_rfl _ _)
    · skip
      rcases cd_cons ec with ⟨e0, e1⟩ | ec
      · have hf1 : cells + (kc ν - kc ν) + 1 ≤ 299000 := hf.1
        have hf2 : slots + (ks ν - ks ν) + 6 ≤ 3090000 := hf.2
        refine g_aload_n C dL_law_1659 rfl 1 rfl ?_
        refine g_aload_n C dL_law_1660 rfl 0 rfl ?_
        refine g_iload C dL_law_1661 4 rfl ?_
        refine g_iconst (v := 1) C dL_law_1663 (by decide) ?_
        refine g_iadd C dL_law_1664 ?_
        refine g_ialdX C hX hbl hbA q1.1 dL_law_1665 ?_
        rw [q1.2]
        refine g_aload_n C dL_law_1666 rfl 0 rfl ?_
        refine g_iload C dL_law_1667 4 rfl ?_
        refine g_iconst (v := 2) C dL_law_1669 (by decide) ?_
        refine g_iadd C dL_law_1670 ?_
        refine g_ialdX C hX hbl hbA q2.1 dL_law_1671 ?_
        rw [q2.2]
        refine g_aload_n C dL_law_1672 rfl 3 rfl ?_
        refine g_cSh (n := 4) (exr := []) C hEv hN h3 [_, _, _, _] _ rfl rfl [] rfl rfl (fun sz => e2_L_correct l hl B μ ν a Ad w x1 x2 r.2 (thrS hr e0) hI.1 hI.2.1 D E sz) rfl gh_correct gw_0 gw_1254 gw_1255 ⟨by decide +kernel, by decide +kernel, by decide +kernel⟩ ⟨rfl, rfl⟩ ⟨Nat.le_of_ble_eq_true rfl, Nat.le_of_ble_eq_true rfl⟩ (Nat.le_of_ble_eq_true rfl) dL_law_1673 (rm_hf (by omega) (by omega)) (fun r8 u hp hx => ?_)
        obtain ⟨er8, rfl⟩ := hp
        rw [er8]
        try dsimp only [List.nil_append]
        refine g_istore (lv' := [(5, .int 2), (0, .ref b), (1, .ref (Ad 0 0)), (2, .ref (Ad 40 0)), (3, .ref (Ad 90 0)), (4, .int i)]) C dL_law_1676 (by decide) rfl ?_
        refine g_aload_n C dL_law_1678 rfl 3 rfl ?_
        refine g_aload_n C dL_law_1679 rfl 1 rfl ?_
        refine g_iload C dL_law_1680 5 rfl ?_
        refine g_iconst (v := 1) C dL_law_1682 (by decide) ?_
        refine g_iadd C dL_law_1683 ?_
        refine g_ialdX C hX hbl hbA q1.1 dL_law_1684 ?_
        rw [q1.2]
        refine g_aload_n C dL_law_1685 rfl 1 rfl ?_
        refine g_iload C dL_law_1686 5 rfl ?_
        refine g_iconst (v := 2) C dL_law_1688 (by decide) ?_
        refine g_iadd C dL_law_1689 ?_
        refine g_ialdX C hX hbl hbA q2.1 dL_law_1690 ?_
        rw [q2.2]
        refine g_cVi (n := 2) (exc := []) (exr := []) C [_, _] _ rfl rfl [] [] rfl rfl rfl rfl (fun _ _ h => absurd h (by simp)) (fun _ h => absurd h (by simp)) (fun _ h => absurd h (by simp)) (fun sz => zk_correct l μ ν a Ad hI.2.2 w x1 x2 q hq D E sz) rfl gw_1738 gw_9 gw_1735 gw_1736 gw_1737 ⟨by decide +kernel, by decide +kernel, by decide +kernel⟩ ⟨rfl, rfl⟩ ⟨Nat.le_of_ble_eq_true rfl, Nat.le_of_ble_eq_true rfl⟩ (rcvT ⟨hI.2.2.1, fun e => absurd e (by decide)⟩ rfl rfl rfl) (Nat.le_of_ble_eq_true rfl) dL_law_1691 (rm_hf (by omega) (by omega)) (fun r9 u hp hx => ?_)
        obtain ⟨er9, rfl⟩ := hp
        rw [er9]
        try dsimp only [List.nil_append]
        refine g_istore (lv' := [(6, .int q.2), (5, .int 2), (0, .ref b), (1, .ref (Ad 0 0)), (2, .ref (Ad 40 0)), (3, .ref (Ad 90 0)), (4, .int i)]) C dL_law_1694 (by decide) rfl ?_
        refine g_aload_n C dL_law_1696 rfl 4 rfl ?_
        refine g_cVi (n := 0) (exc := []) (exr := []) C [] _ rfl rfl [] [] rfl rfl rfl rfl (fun _ _ h => absurd h (by simp)) (fun _ h => absurd h (by simp)) (fun _ h => absurd h (by simp)) (fun sz => zk_thrown l μ ν q.1 Ad hI.2.2 w  t ht D E sz) rfl gw_1468 gw_9 gw_1465 gw_1466 gw_1467 ⟨by decide +kernel, by decide +kernel, by decide +kernel⟩ ⟨rfl, rfl⟩ ⟨Nat.le_of_ble_eq_true rfl, Nat.le_of_ble_eq_true rfl⟩ (rcvT ⟨hI.2.2.1, fun e => absurd e (by decide)⟩ rfl rfl rfl) (Nat.le_of_ble_eq_true rfl) dL_law_1697 (rm_hf (by omega) (by omega)) (fun r9 u hp hx => ?_)
        obtain ⟨er9, rfl⟩ := hp
        rw [er9]
        try dsimp only [List.nil_append]
        refine g_iload C dL_law_1700 1 rfl ?_
        refine g_icmp_eq (tgt := 1707) C dL_law_1702 (by decide) (fun c1 => ?_) (fun c1 => absurd e1 c1)
        refine g_iload C dL_law_1707 1 rfl ?_
        refine g_if_ne (tgt := 1724) C dL_law_1709 (by decide) (fun c2 => ?_) (fun c2 => absurd c2 (by decide))
        refine g_goto (tgt := 2215) C dL_law_1724 (by decide) ?_
        refine g_lv (lv' := [(0, .ref b), (1, .ref (Ad 0 0)), (2, .ref (Ad 40 0)), (3, .ref (Ad 90 0)), (4, .int i)]) [2, 3, 4, 5, 6] rfl ?_
        refine g_widen (k := cells + (kc ν - kc ν) + 1) (n := slots + (ks ν - ks ν) + 6) (by omega) (by omega) ?_
        exact kk Ad (mn_rfl _) (kp_rfl _ _)
      · skip
        rcases cd_cons ec with ⟨e0, e1⟩ | ec
        · have hf1 : cells + (kc ν - kc ν) + 1 ≤ 299000 := hf.1
          have hf2 : slots + (ks ν - ks ν) + 6 ≤ 3090000 := hf.2
          refine g_aload_n C dL_law_1659 rfl 1 rfl ?_
          refine g_aload_n C dL_law_1660 rfl 0 rfl ?_
          refine g_iload C dL_law_1661 4 rfl ?_
          refine g_iconst (v := 1) C dL_law_1663 (by decide) ?_
          refine g_iadd C dL_law_1664 ?_
          refine g_ialdX C hX hbl hbA q1.1 dL_law_1665 ?_
          rw [q1.2]
          refine g_aload_n C dL_law_1666 rfl 0 rfl ?_
          refine g_iload C dL_law_1667 4 rfl ?_
          refine g_iconst (v := 2) C dL_law_1669 (by decide) ?_
          refine g_iadd C dL_law_1670 ?_
          refine g_ialdX C hX hbl hbA q2.1 dL_law_1671 ?_
          rw [q2.2]
          refine g_aload_n C dL_law_1672 rfl 3 rfl ?_
          refine g_cSh (n := 4) (exr := []) C hEv hN h3 [_, _, _, _] _ rfl rfl [] rfl rfl (fun sz => e3_L_correct l hl B μ ν a Ad w x1 x2 r.2 (thrS hr e0) hI.1 hI.2.1 D E sz) rfl gh_correct gw_0 gw_1254 gw_1255 ⟨by decide +kernel, by decide +kernel, by decide +kernel⟩ ⟨rfl, rfl⟩ ⟨Nat.le_of_ble_eq_true rfl, Nat.le_of_ble_eq_true rfl⟩ (Nat.le_of_ble_eq_true rfl) dL_law_1673 (rm_hf (by omega) (by omega)) (fun r8 u hp hx => ?_)
          obtain ⟨er8, rfl⟩ := hp
          rw [er8]
          try dsimp only [List.nil_append]
          refine g_istore (lv' := [(5, .int 3), (0, .ref b), (1, .ref (Ad 0 0)), (2, .ref (Ad 40 0)), (3, .ref (Ad 90 0)), (4, .int i)]) C dL_law_1676 (by decide) rfl ?_
          refine g_aload_n C dL_law_1678 rfl 3 rfl ?_
          refine g_aload_n C dL_law_1679 rfl 1 rfl ?_
          refine g_iload C dL_law_1680 5 rfl ?_
          refine g_iconst (v := 1) C dL_law_1682 (by decide) ?_
          refine g_iadd C dL_law_1683 ?_
          refine g_ialdX C hX hbl hbA q1.1 dL_law_1684 ?_
          rw [q1.2]
          refine g_aload_n C dL_law_1685 rfl 1 rfl ?_
          refine g_iload C dL_law_1686 5 rfl ?_
          refine g_iconst (v := 2) C dL_law_1688 (by decide) ?_
          refine g_iadd C dL_law_1689 ?_
          refine g_ialdX C hX hbl hbA q2.1 dL_law_1690 ?_
          rw [q2.2]
          refine g_cVi (n := 2) (exc := []) (exr := []) C [_, _] _ rfl rfl [] [] rfl rfl rfl rfl (fun _ _ h => absurd h (by simp)) (fun _ h => absurd h (by simp)) (fun _ h => absurd h (by simp)) (fun sz => zk_correct l μ ν a Ad hI.2.2 w x1 x2 q hq D E sz) rfl gw_1738 gw_9 gw_1735 gw_1736 gw_1737 ⟨by decide +kernel, by decide +kernel, by decide +kernel⟩ ⟨rfl, rfl⟩ ⟨Nat.le_of_ble_eq_true rfl, Nat.le_of_ble_eq_true rfl⟩ (rcvT ⟨hI.2.2.1, fun e => absurd e (by decide)⟩ rfl rfl rfl) (Nat.le_of_ble_eq_true rfl) dL_law_1691 (rm_hf (by omega) (by omega)) (fun r9 u hp hx => ?_)
          obtain ⟨er9, rfl⟩ := hp
          rw [er9]
          try dsimp only [List.nil_append]
          refine g_istore (lv' := [(6, .int q.2), (5, .int 3), (0, .ref b), (1, .ref (Ad 0 0)), (2, .ref (Ad 40 0)), (3, .ref (Ad 90 0)), (4, .int i)]) C dL_law_1694 (by decide) rfl ?_
          refine g_aload_n C dL_law_1696 rfl 4 rfl ?_
          refine g_cVi (n := 0) (exc := []) (exr := []) C [] _ rfl rfl [] [] rfl rfl rfl rfl (fun _ _ h => absurd h (by simp)) (fun _ h => absurd h (by simp)) (fun _ h => absurd h (by simp)) (fun sz => zk_thrown l μ ν q.1 Ad hI.2.2 w  t ht D E sz) rfl gw_1468 gw_9 gw_1465 gw_1466 gw_1467 ⟨by decide +kernel, by decide +kernel, by decide +kernel⟩ ⟨rfl, rfl⟩ ⟨Nat.le_of_ble_eq_true rfl, Nat.le_of_ble_eq_true rfl⟩ (rcvT ⟨hI.2.2.1, fun e => absurd e (by decide)⟩ rfl rfl rfl) (Nat.le_of_ble_eq_true rfl) dL_law_1697 (rm_hf (by omega) (by omega)) (fun r9 u hp hx => ?_)
          obtain ⟨er9, rfl⟩ := hp
          rw [er9]
          try dsimp only [List.nil_append]
          refine g_iload C dL_law_1700 1 rfl ?_
          refine g_icmp_eq (tgt := 1707) C dL_law_1702 (by decide) (fun c1 => ?_) (fun c1 => absurd e1 c1)
          refine g_iload C dL_law_1707 1 rfl ?_
          refine g_if_ne (tgt := 1724) C dL_law_1709 (by decide) (fun c2 => ?_) (fun c2 => absurd c2 (by decide))
          refine g_goto (tgt := 2215) C dL_law_1724 (by decide) ?_
          refine g_lv (lv' := [(0, .ref b), (1, .ref (Ad 0 0)), (2, .ref (Ad 40 0)), (3, .ref (Ad 90 0)), (4, .int i)]) [2, 3, 4, 5, 6] rfl ?_
          refine g_widen (k := cells + (kc ν - kc ν) + 1) (n := slots + (ks ν - ks ν) + 6) (by omega) (by omega) ?_
          exact kk Ad (mn_rfl _) (kp_rfl _ _)
        · exact cd_nil ec
noncomputable def s_executions (w : Nat) (μ : MP) (ν : NC) (a : AS) : Option ((MP × NC) × AS) := (f_X8_executions w μ ν).bind fun r => (f_X9_executions w a).bind fun q => if r = q.2 then some ((μ, ν), q.1) else none
set_option maxHeartbeats 4000000 in
set_option maxRecDepth 100000 in
theorem w_executions {p : Program} {l : Launch} {e : Env} {s : State} {m : MethodId} {args : Array Value} {below : List Frame} {meth : Method} {c : Code} {D : va_G} {E : Nat → ClassId} {A : Nat → Prop} {Q : State → Prop} {B : Nat × (Nat → Nat)} {a30 a31 : Nat} {μ : MP} {ν : NC} {a : AS} {Ad : Nat → Nat → Nat} {w : Nat} {b L : Nat} {xs : Nat → Int32} {cells slots : Nat} (C : cx p s m args meth c D E A cL_law 7 "TradeLineLaw") (hEv : eV a30 a31 B A s s.heap) (hN : vN s) (hl : l.stackTraces = false) (hI : lwI ν) (h3 : Ad 30 0 = a30 ∧ Ad 31 0 = a31) (hX : va_X b L xs s s.heap) (hbl : b < s.heap.size) (hbA : ¬ A b) {i : Int32} {S : (MP × NC) × AS} (h : s_executions w μ ν a = some S) (hf : cells + (kc S.1.2 - kc ν) + 1 ≤ 299000 ∧ slots + (ks S.1.2 - ks ν) + 6 ≤ 3090000) (kk : ∀ A1, mn ν S.1.2 → kp ν Ad A1 → G p l e room_1 s m args below meth c D E A 7 Q (zS S.1.1 S.1.2 S.2 A1) [] (cells + (kc S.1.2 - kc ν) + 1) (slots + (ks S.1.2 - ks ν) + 6) 2215 [(0, .ref b), (1, .ref (A1 0 0)), (2, .ref (A1 40 0)), (3, .ref (A1 90 0)), (4, .int i)] []) : G p l e room_1 s m args below meth c D E A 7 Q (zS μ ν a Ad) [] (cells) (slots) 1727 [(0, .ref b), (1, .ref (Ad 0 0)), (2, .ref (Ad 40 0)), (3, .ref (Ad 90 0)), (4, .int i)] [] := by
  unfold s_executions at h
  obtain ⟨r, hr, h⟩ := bind_of h
  obtain ⟨q, hq, h⟩ := bind_of h
  by_cases he : r = q.2
  · rw [if_pos he] at h
    obtain rfl := Option.some.inj h
    have hf1 : cells + (kc ν - kc ν) + 1 ≤ 299000 := hf.1
    have hf2 : slots + (ks ν - ks ν) + 6 ≤ 3090000 := hf.2
    refine g_aload_n C dL_law_1727 rfl 1 rfl ?_
    refine g_cVi (n := 0) (exc := []) (exr := []) C [] _ rfl rfl [] [] rfl rfl rfl rfl (fun _ _ h => absurd h (by simp)) (fun _ h => absurd h (by simp)) (fun _ h => absurd h (by simp)) (fun sz => c_X8_executions l μ ν a Ad w r hr D E sz) rfl gw_212 gw_1 gw_209 gw_210 gw_211 ⟨by decide +kernel, by decide +kernel, by decide +kernel⟩ ⟨rfl, rfl⟩ ⟨Nat.le_of_ble_eq_true rfl, Nat.le_of_ble_eq_true rfl⟩ (rcvT ⟨hI.1, fun e => absurd e (by decide)⟩ rfl rfl rfl) (Nat.le_of_ble_eq_true rfl) dL_law_1728 (rm_hf (by omega) (by omega)) (fun r9 u hp hx => ?_)
    obtain ⟨er9, rfl⟩ := hp
    rw [er9]
    try dsimp only [List.nil_append]
    refine g_aload_n C dL_law_1731 rfl 2 rfl ?_
    refine g_cVi (n := 0) (exc := []) (exr := []) C [] _ rfl rfl [] [] rfl rfl rfl rfl (fun _ _ h => absurd h (by simp)) (fun _ h => absurd h (by simp)) (fun _ h => absurd h (by simp)) (fun sz => zk_executions l μ ν a Ad hI.2.2 w  q hq D E sz) rfl gw_1742 gw_9 gw_1739 gw_1740 gw_1741 ⟨by decide +kernel, by decide +kernel, by decide +kernel⟩ ⟨rfl, rfl⟩ ⟨Nat.le_of_ble_eq_true rfl, Nat.le_of_ble_eq_true rfl⟩ (rcvT ⟨hI.2.2.1, fun e => absurd e (by decide)⟩ rfl rfl rfl) (Nat.le_of_ble_eq_true rfl) dL_law_1732 (rm_hf (by omega) (by omega)) (fun r9 u hp hx => ?_)
    obtain ⟨er9, rfl⟩ := hp
    rw [er9]
    try dsimp only [List.nil_append]
    refine g_icmp_eq (tgt := 2215) C dL_law_1735 (by decide) (fun c1 => ?_) (fun c1 => absurd he c1)
    refine g_widen (k := cells + (kc ν - kc ν) + 1) (n := slots + (ks ν - ks ν) + 6) (by omega) (by omega) ?_
    exact kk Ad (mn_rfl _) (kp_rfl _ _)
  · rw [if_neg he] at h; exact absurd h (by simp)
noncomputable def s_endDay (w : Nat) (μ : MP) (ν : NC) (a : AS) : Option ((MP × NC) × AS) := (f_X8_endDay w μ ν).bind fun r => (f_X9_endDay w a).bind fun q => if r.2 = q.2 then some ((r.1, ν), q.1) else none
set_option maxHeartbeats 4000000 in
set_option maxRecDepth 100000 in
theorem w_endDay {p : Program} {l : Launch} {e : Env} {s : State} {m : MethodId} {args : Array Value} {below : List Frame} {meth : Method} {c : Code} {D : va_G} {E : Nat → ClassId} {A : Nat → Prop} {Q : State → Prop} {B : Nat × (Nat → Nat)} {a30 a31 : Nat} {μ : MP} {ν : NC} {a : AS} {Ad : Nat → Nat → Nat} {w : Nat} {b L : Nat} {xs : Nat → Int32} {cells slots : Nat} (C : cx p s m args meth c D E A cL_law 7 "TradeLineLaw") (hEv : eV a30 a31 B A s s.heap) (hN : vN s) (hl : l.stackTraces = false) (hI : lwI ν) (h3 : Ad 30 0 = a30 ∧ Ad 31 0 = a31) (hX : va_X b L xs s s.heap) (hbl : b < s.heap.size) (hbA : ¬ A b) {i : Int32} {S : (MP × NC) × AS} (h : s_endDay w μ ν a = some S) (hf : cells + (kc S.1.2 - kc ν) + 1 ≤ 299000 ∧ slots + (ks S.1.2 - ks ν) + 6 ≤ 3090000) (kk : ∀ A1, mn ν S.1.2 → kp ν Ad A1 → G p l e room_1 s m args below meth c D E A 7 Q (zS S.1.1 S.1.2 S.2 A1) [] (cells + (kc S.1.2 - kc ν) + 1) (slots + (ks S.1.2 - ks ν) + 6) 2215 [(0, .ref b), (1, .ref (A1 0 0)), (2, .ref (A1 40 0)), (3, .ref (A1 90 0)), (4, .int i)] []) : G p l e room_1 s m args below meth c D E A 7 Q (zS μ ν a Ad) [] (cells) (slots) 1740 [(0, .ref b), (1, .ref (Ad 0 0)), (2, .ref (Ad 40 0)), (3, .ref (Ad 90 0)), (4, .int i)] [] := by
  unfold s_endDay at h
  obtain ⟨r, hr, h⟩ := bind_of h
  obtain ⟨q, hq, h⟩ := bind_of h
  by_cases he : r.2 = q.2
  · rw [if_pos he] at h
    obtain rfl := Option.some.inj h
    have hf1 : cells + (kc ν - kc ν) + 1 ≤ 299000 := hf.1
    have hf2 : slots + (ks ν - ks ν) + 6 ≤ 3090000 := hf.2
    refine g_aload_n C dL_law_1740 rfl 1 rfl ?_
    refine g_cVi (n := 0) (exc := []) (exr := []) C [] _ rfl rfl [] [] rfl rfl rfl rfl (fun _ _ h => absurd h (by simp)) (fun _ h => absurd h (by simp)) (fun _ h => absurd h (by simp)) (fun sz => c_X8_endDay l μ ν a Ad w r hr D E sz) rfl gw_220 gw_1 gw_217 gw_218 gw_219 ⟨by decide +kernel, by decide +kernel, by decide +kernel⟩ ⟨rfl, rfl⟩ ⟨Nat.le_of_ble_eq_true rfl, Nat.le_of_ble_eq_true rfl⟩ (rcvT ⟨hI.1, fun e => absurd e (by decide)⟩ rfl rfl rfl) (Nat.le_of_ble_eq_true rfl) dL_law_1741 (rm_hf (by omega) (by omega)) (fun r9 u hp hx => ?_)
    obtain ⟨er9, rfl⟩ := hp
    rw [er9]
    try dsimp only [List.nil_append]
    refine g_aload_n C dL_law_1744 rfl 2 rfl ?_
    refine g_cVi (n := 0) (exc := []) (exr := []) C [] _ rfl rfl [] [] rfl rfl rfl rfl (fun _ _ h => absurd h (by simp)) (fun _ h => absurd h (by simp)) (fun _ h => absurd h (by simp)) (fun sz => zk_endDay l r.1 ν a Ad hI.2.2 w  q hq D E sz) rfl gw_1746 gw_9 gw_1743 gw_1744 gw_1745 ⟨by decide +kernel, by decide +kernel, by decide +kernel⟩ ⟨rfl, rfl⟩ ⟨Nat.le_of_ble_eq_true rfl, Nat.le_of_ble_eq_true rfl⟩ (rcvT ⟨hI.2.2.1, fun e => absurd e (by decide)⟩ rfl rfl rfl) (Nat.le_of_ble_eq_true rfl) dL_law_1745 (rm_hf (by omega) (by omega)) (fun r9 u hp hx => ?_)
    obtain ⟨er9, rfl⟩ := hp
    rw [er9]
    try dsimp only [List.nil_append]
    refine g_icmp_eq (tgt := 2215) C dL_law_1748 (by decide) (fun c1 => ?_) (fun c1 => absurd he c1)
    refine g_widen (k := cells + (kc ν - kc ν) + 1) (n := slots + (ks ν - ks ν) + 6) (by omega) (by omega) ?_
    exact kk Ad (mn_rfl _) (kp_rfl _ _)
  · rw [if_neg he] at h; exact absurd h (by simp)
noncomputable def s_orders (w : Nat) (μ : MP) (ν : NC) (a : AS) : Option ((MP × NC) × AS) := (f_X8_orders w μ ν).bind fun r => (f_X9_orders w a).bind fun q => if r = q.2 then some ((μ, ν), q.1) else none
set_option maxHeartbeats 4000000 in
set_option maxRecDepth 100000 in
theorem w_orders {p : Program} {l : Launch} {e : Env} {s : State} {m : MethodId} {args : Array Value} {below : List Frame} {meth : Method} {c : Code} {D : va_G} {E : Nat → ClassId} {A : Nat → Prop} {Q : State → Prop} {B : Nat × (Nat → Nat)} {a30 a31 : Nat} {μ : MP} {ν : NC} {a : AS} {Ad : Nat → Nat → Nat} {w : Nat} {b L : Nat} {xs : Nat → Int32} {cells slots : Nat} (C : cx p s m args meth c D E A cL_law 7 "TradeLineLaw") (hEv : eV a30 a31 B A s s.heap) (hN : vN s) (hl : l.stackTraces = false) (hI : lwI ν) (h3 : Ad 30 0 = a30 ∧ Ad 31 0 = a31) (hX : va_X b L xs s s.heap) (hbl : b < s.heap.size) (hbA : ¬ A b) {i : Int32} {S : (MP × NC) × AS} (h : s_orders w μ ν a = some S) (hf : cells + (kc S.1.2 - kc ν) + 1 ≤ 299000 ∧ slots + (ks S.1.2 - ks ν) + 6 ≤ 3090000) (kk : ∀ A1, mn ν S.1.2 → kp ν Ad A1 → G p l e room_1 s m args below meth c D E A 7 Q (zS S.1.1 S.1.2 S.2 A1) [] (cells + (kc S.1.2 - kc ν) + 1) (slots + (ks S.1.2 - ks ν) + 6) 2215 [(0, .ref b), (1, .ref (A1 0 0)), (2, .ref (A1 40 0)), (3, .ref (A1 90 0)), (4, .int i)] []) : G p l e room_1 s m args below meth c D E A 7 Q (zS μ ν a Ad) [] (cells) (slots) 1753 [(0, .ref b), (1, .ref (Ad 0 0)), (2, .ref (Ad 40 0)), (3, .ref (Ad 90 0)), (4, .int i)] [] := by
  unfold s_orders at h
  obtain ⟨r, hr, h⟩ := bind_of h
  obtain ⟨q, hq, h⟩ := bind_of h
  by_cases he : r = q.2
  · rw [if_pos he] at h
    obtain rfl := Option.some.inj h
    have hf1 : cells + (kc ν - kc ν) + 1 ≤ 299000 := hf.1
    have hf2 : slots + (ks ν - ks ν) + 6 ≤ 3090000 := hf.2
    refine g_aload_n C dL_law_1753 rfl 1 rfl ?_
    refine g_cVi (n := 0) (exc := []) (exr := []) C [] _ rfl rfl [] [] rfl rfl rfl rfl (fun _ _ h => absurd h (by simp)) (fun _ h => absurd h (by simp)) (fun _ h => absurd h (by simp)) (fun sz => c_X8_orders l μ ν a Ad w r hr D E sz) rfl gw_224 gw_1 gw_221 gw_222 gw_223 ⟨by decide +kernel, by decide +kernel, by decide +kernel⟩ ⟨rfl, rfl⟩ ⟨Nat.le_of_ble_eq_true rfl, Nat.le_of_ble_eq_true rfl⟩ (rcvT ⟨hI.1, fun e => absurd e (by decide)⟩ rfl rfl rfl) (Nat.le_of_ble_eq_true rfl) dL_law_1754 (rm_hf (by omega) (by omega)) (fun r9 u hp hx => ?_)
    obtain ⟨er9, rfl⟩ := hp
    rw [er9]
    try dsimp only [List.nil_append]
    refine g_aload_n C dL_law_1757 rfl 2 rfl ?_
    refine g_cVi (n := 0) (exc := []) (exr := []) C [] _ rfl rfl [] [] rfl rfl rfl rfl (fun _ _ h => absurd h (by simp)) (fun _ h => absurd h (by simp)) (fun _ h => absurd h (by simp)) (fun sz => zk_orders l μ ν a Ad hI.2.2 w  q hq D E sz) rfl gw_1750 gw_9 gw_1747 gw_1748 gw_1749 ⟨by decide +kernel, by decide +kernel, by decide +kernel⟩ ⟨rfl, rfl⟩ ⟨Nat.le_of_ble_eq_true rfl, Nat.le_of_ble_eq_true rfl⟩ (rcvT ⟨hI.2.2.1, fun e => absurd e (by decide)⟩ rfl rfl rfl) (Nat.le_of_ble_eq_true rfl) dL_law_1758 (rm_hf (by omega) (by omega)) (fun r9 u hp hx => ?_)
    obtain ⟨er9, rfl⟩ := hp
    rw [er9]
    try dsimp only [List.nil_append]
    refine g_icmp_eq (tgt := 2215) C dL_law_1761 (by decide) (fun c1 => ?_) (fun c1 => absurd he c1)
    refine g_widen (k := cells + (kc ν - kc ν) + 1) (n := slots + (ks ν - ks ν) + 6) (by omega) (by omega) ?_
    exact kk Ad (mn_rfl _) (kp_rfl _ _)
  · rw [if_neg he] at h; exact absurd h (by simp)
