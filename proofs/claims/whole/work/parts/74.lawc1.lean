noncomputable def s_expected (w : Nat) (μ : MP) (ν : NC) (a : AS) (x1 : Int32) : Option ((MP × NC) × AS) := (f_X8_expected w μ ν x1).bind fun r => (f_X9_expected w a x1).bind fun q => (f_X9_thrown w q.1).bind fun t => lwq true [(1, 1)] μ ν (r.1, ((μ, ν), r.2)) q t
set_option maxHeartbeats 4000000 in
set_option maxRecDepth 100000 in
theorem w_expected {p : Program} {l : Launch} {e : Env} {s : State} {m : MethodId} {args : Array Value} {below : List Frame} {meth : Method} {c : Code} {D : va_G} {E : Nat → ClassId} {A : Nat → Prop} {Q : State → Prop} {B : Nat × (Nat → Nat)} {a30 a31 : Nat} {μ : MP} {ν : NC} {a : AS} {Ad : Nat → Nat → Nat} {w : Nat} {b L : Nat} {xs : Nat → Int32} {cells slots : Nat} (C : cx p s m args meth c D E A cL_law 7 "TradeLineLaw") (hEv : eV a30 a31 B A s s.heap) (hN : vN s) (hl : l.stackTraces = false) (hI : lwI ν) (h3 : Ad 30 0 = a30 ∧ Ad 31 0 = a31) (hX : va_X b L xs s s.heap) (hbl : b < s.heap.size) (hbA : ¬ A b) {i x1 : Int32} (q1 : vp_in (i + 1) L ∧ xs (i + 1).toNatClampNeg = x1) {S : (MP × NC) × AS} (h : s_expected w μ ν a x1 = some S) (hf : cells + (kc S.1.2 - kc ν) + 1 ≤ 299000 ∧ slots + (ks S.1.2 - ks ν) + 6 ≤ 3090000) (kk : ∀ A1, mn ν S.1.2 → kp ν Ad A1 → G p l e room_1 s m args below meth c D E A 7 Q (zS S.1.1 S.1.2 S.2 A1) [] (cells + (kc S.1.2 - kc ν) + 1) (slots + (ks S.1.2 - ks ν) + 6) 2215 [(0, .ref b), (1, .ref (A1 0 0)), (2, .ref (A1 40 0)), (3, .ref (A1 90 0)), (4, .int i)] []) : G p l e room_1 s m args below meth c D E A 7 Q (zS μ ν a Ad) [] (cells) (slots) 664 [(0, .ref b), (1, .ref (Ad 0 0)), (2, .ref (Ad 40 0)), (3, .ref (Ad 90 0)), (4, .int i)] [] := by
  unfold s_expected at h
  obtain ⟨r, hr, h⟩ := bind_of h
  obtain ⟨q, hq, h⟩ := bind_of h
  obtain ⟨t, ht, h⟩ := bind_of h
  rcases lwq_t h with ⟨e0, e1, e2, rfl⟩ | ⟨ec, rfl⟩
  · replace e0 : r.1 = 0 := e0
    have hf1 : cells + (kc ν - kc ν) + 1 ≤ 299000 := hf.1
    have hf2 : slots + (ks ν - ks ν) + 6 ≤ 3090000 := hf.2
    refine g_aload_n C dL_law_664 rfl 1 rfl ?_
    refine g_aload_n C dL_law_665 rfl 0 rfl ?_
    refine g_iload C dL_law_666 4 rfl ?_
    refine g_iconst (v := 1) C dL_law_668 (by decide) ?_
    refine g_iadd C dL_law_669 ?_
    refine g_ialdX C hX hbl hbA q1.1 dL_law_670 ?_
    rw [q1.2]
    refine g_aload_n C dL_law_671 rfl 3 rfl ?_
    refine g_cSh (n := 3) (exr := []) C hEv hN h3 [_, _, _] _ rfl rfl [] rfl rfl (fun sz => r_L_expected l B μ ν a Ad w x1 r.2 (thr0 hr e0) hI.1 hI.2.1 D E sz) rfl gh_expected gw_0 gw_1045 gw_1046 ⟨by decide +kernel, by decide +kernel, by decide +kernel⟩ ⟨rfl, rfl⟩ ⟨Nat.le_of_ble_eq_true rfl, Nat.le_of_ble_eq_true rfl⟩ (Nat.le_of_ble_eq_true rfl) dL_law_672 (rm_hf (by omega) (by omega)) (fun r8 u hp hx => ?_)
    obtain ⟨er8, rfl⟩ := hp
    rw [er8]
    try dsimp only [List.nil_append]
    refine g_istore (lv' := [(5, .int 0), (0, .ref b), (1, .ref (Ad 0 0)), (2, .ref (Ad 40 0)), (3, .ref (Ad 90 0)), (4, .int i)]) C dL_law_675 (by decide) rfl ?_
    refine g_aload_n C dL_law_677 rfl 3 rfl ?_
    refine g_aload_n C dL_law_678 rfl 1 rfl ?_
    refine g_iload C dL_law_679 5 rfl ?_
    refine g_iconst (v := 1) C dL_law_681 (by decide) ?_
    refine g_iadd C dL_law_682 ?_
    refine g_ialdX C hX hbl hbA q1.1 dL_law_683 ?_
    rw [q1.2]
    refine g_cVi (n := 1) (exc := []) (exr := []) C [_] _ rfl rfl [] [] rfl rfl rfl rfl (fun _ _ h => absurd h (by simp)) (fun _ h => absurd h (by simp)) (fun _ h => absurd h (by simp)) (fun sz => zk_expected l (up3 μ.1 90 0 0 r.2, μ.2) ν a Ad hI.2.2 w x1 q hq D E sz) rfl gw_1611 gw_9 gw_1608 gw_1609 gw_1610 ⟨by decide +kernel, by decide +kernel, by decide +kernel⟩ ⟨rfl, rfl⟩ ⟨Nat.le_of_ble_eq_true rfl, Nat.le_of_ble_eq_true rfl⟩ (rcvT ⟨hI.2.2.1, fun e => absurd e (by decide)⟩ rfl rfl rfl) (Nat.le_of_ble_eq_true rfl) dL_law_684 (rm_hf (by omega) (by omega)) (fun r9 u hp hx => ?_)
    obtain ⟨er9, rfl⟩ := hp
    rw [er9]
    try dsimp only [List.nil_append]
    refine g_istore (lv' := [(6, .int q.2), (5, .int 0), (0, .ref b), (1, .ref (Ad 0 0)), (2, .ref (Ad 40 0)), (3, .ref (Ad 90 0)), (4, .int i)]) C dL_law_687 (by decide) rfl ?_
    refine g_aload_n C dL_law_689 rfl 4 rfl ?_
    refine g_cVi (n := 0) (exc := []) (exr := []) C [] _ rfl rfl [] [] rfl rfl rfl rfl (fun _ _ h => absurd h (by simp)) (fun _ h => absurd h (by simp)) (fun _ h => absurd h (by simp)) (fun sz => zk_thrown l (up3 μ.1 90 0 0 r.2, μ.2) ν q.1 Ad hI.2.2 w  t ht D E sz) rfl gw_1468 gw_9 gw_1465 gw_1466 gw_1467 ⟨by decide +kernel, by decide +kernel, by decide +kernel⟩ ⟨rfl, rfl⟩ ⟨Nat.le_of_ble_eq_true rfl, Nat.le_of_ble_eq_true rfl⟩ (rcvT ⟨hI.2.2.1, fun e => absurd e (by decide)⟩ rfl rfl rfl) (Nat.le_of_ble_eq_true rfl) dL_law_690 (rm_hf (by omega) (by omega)) (fun r9 u hp hx => ?_)
    obtain ⟨er9, rfl⟩ := hp
    rw [er9]
    try dsimp only [List.nil_append]
    refine g_iload C dL_law_693 1 rfl ?_
    refine g_icmp_eq (tgt := 700) C dL_law_695 (by decide) (fun c1 => ?_) (fun c1 => absurd e1 c1)
    refine g_iload C dL_law_700 1 rfl ?_
    refine g_if_ne (tgt := 717) C dL_law_702 (by decide) (fun c2 => absurd rfl c2) (fun c2 => ?_)
    refine g_aload_n C dL_law_705 rfl 5 rfl ?_
    refine g_iconst (v := 0) C dL_law_706 (by decide) ?_
    refine g_lald (μ := (up3 μ.1 90 0 0 r.2, μ.2)) (ν := ν) (a := q.1) (Ad := Ad) C rfl hI.2.1 dL_law_707 ?_
    refine g_iload C dL_law_708 0 rfl ?_
    refine g_i2l C dL_law_710 rfl ?_
    refine g_lcmp C dL_law_711 (fun r7 e7 => ?_)
    refine g_if_eq (tgt := 717) C dL_law_712 (by decide) (fun c3 => ?_) (fun c3 => absurd (e7.mpr (congrArg Int32.toInt64 (show up3 μ.1 90 0 0 r.2 90 0 0 = _ from (up3_90 _ _).trans e2))) c3)
    refine g_goto (tgt := 2215) C dL_law_717 (by decide) ?_
    refine g_lv (lv' := [(0, .ref b), (1, .ref (Ad 0 0)), (2, .ref (Ad 40 0)), (3, .ref (Ad 90 0)), (4, .int i)]) [2, 3, 4, 5, 6] rfl ?_
    refine g_widen (k := cells + (kc ν - kc ν) + 1) (n := slots + (ks ν - ks ν) + 6) (by omega) (by omega) ?_
    exact kk Ad (mn_rfl _) (kp_rfl _ _)
  · rcases cd_cons ec with ⟨e0, e1⟩ | ec
    · have hf1 : cells + (kc ν - kc ν) + 1 ≤ 299000 := hf.1
      have hf2 : slots + (ks ν - ks ν) + 6 ≤ 3090000 := hf.2
      refine g_aload_n C dL_law_664 rfl 1 rfl ?_
      refine g_aload_n C dL_law_665 rfl 0 rfl ?_
      refine g_iload C dL_law_666 4 rfl ?_
      refine g_iconst (v := 1) C dL_law_668 (by decide) ?_
      refine g_iadd C dL_law_669 ?_
      refine g_ialdX C hX hbl hbA q1.1 dL_law_670 ?_
      rw [q1.2]
      refine g_aload_n C dL_law_671 rfl 3 rfl ?_
      refine g_cSh (n := 3) (exr := []) C hEv hN h3 [_, _, _] _ rfl rfl [] rfl rfl (fun sz => e1_L_expected l hl B μ ν a Ad w x1 r.2 (thrS hr e0) hI.1 hI.2.1 D E sz) rfl gh_expected gw_0 gw_1045 gw_1046 ⟨by decide +kernel, by decide +kernel, by decide +kernel⟩ ⟨rfl, rfl⟩ ⟨Nat.le_of_ble_eq_true rfl, Nat.le_of_ble_eq_true rfl⟩ (Nat.le_of_ble_eq_true rfl) dL_law_672 (rm_hf (by omega) (by omega)) (fun r8 u hp hx => ?_)
      obtain ⟨er8, rfl⟩ := hp
      rw [er8]
      try dsimp only [List.nil_append]
      refine g_istore (lv' := [(5, .int 1), (0, .ref b), (1, .ref (Ad 0 0)), (2, .ref (Ad 40 0)), (3, .ref (Ad 90 0)), (4, .int i)]) C dL_law_675 (by decide) rfl ?_
      refine g_aload_n C dL_law_677 rfl 3 rfl ?_
      refine g_aload_n C dL_law_678 rfl 1 rfl ?_
      refine g_iload C dL_law_679 5 rfl ?_
      refine g_iconst (v := 1) C dL_law_681 (by decide) ?_
      refine g_iadd C dL_law_682 ?_
      refine g_ialdX C hX hbl hbA q1.1 dL_law_683 ?_
      rw [q1.2]
      refine g_cVi (n := 1) (exc := []) (exr := []) C [_] _ rfl rfl [] [] rfl rfl rfl rfl (fun _ _ h => absurd h (by simp)) (fun _ h => absurd h (by simp)) (fun _ h => absurd h (by simp)) (fun sz => zk_expected l μ ν a Ad hI.2.2 w x1 q hq D E sz) rfl gw_1611 gw_9 gw_1608 gw_1609 gw_1610 ⟨by decide +kernel, by decide +kernel, by decide +kernel⟩ ⟨rfl, rfl⟩ ⟨Nat.le_of_ble_eq_true rfl, Nat.le_of_ble_eq_true rfl⟩ (rcvT ⟨hI.2.2.1, fun e => absurd e (by decide)⟩ rfl rfl rfl) (Nat.le_of_ble_eq_true rfl) dL_law_684 (rm_hf (by omega) (by omega)) (fun r9 u hp hx => ?_)
      obtain ⟨er9, rfl⟩ := hp
      rw [er9]
      try dsimp only [List.nil_append]
      refine g_istore (lv' := [(6, .int q.2), (5, .int 1), (0, .ref b), (1, .ref (Ad 0 0)), (2, .ref (Ad 40 0)), (3, .ref (Ad 90 0)), (4, .int i)]) C dL_law_687 (by decide) rfl ?_
      refine g_aload_n C dL_law_689 rfl 4 rfl ?_
      refine g_cVi (n := 0) (exc := []) (exr := []) C [] _ rfl rfl [] [] rfl rfl rfl rfl (fun _ _ h => absurd h (by simp)) (fun _ h => absurd h (by simp)) (fun _ h => absurd h (by simp)) (fun sz => zk_thrown l μ ν q.1 Ad hI.2.2 w  t ht D E sz) rfl gw_1468 gw_9 gw_1465 gw_1466 gw_1467 ⟨by decide +kernel, by decide +kernel, by decide +kernel⟩ ⟨rfl, rfl⟩ ⟨Nat.le_of_ble_eq_true rfl, Nat.le_of_ble_eq_true rfl⟩ (rcvT ⟨hI.2.2.1, fun e => absurd e (by decide)⟩ rfl rfl rfl) (Nat.le_of_ble_eq_true rfl) dL_law_690 (rm_hf (by omega) (by omega)) (fun r9 u hp hx => ?_)
      obtain ⟨er9, rfl⟩ := hp
      rw [er9]
      try dsimp only [List.nil_append]
      refine g_iload C dL_law_693 1 rfl ?_
      refine g_icmp_eq (tgt := 700) C dL_law_695 (by decide) (fun c1 => ?_) (fun c1 => absurd e1 c1)
      refine g_iload C dL_law_700 1 rfl ?_
      refine g_if_ne (tgt := 717) C dL_law_702 (by decide) (fun c2 => ?_) (fun c2 => absurd c2 (by decide))
      refine g_goto (tgt := 2215) C dL_law_717 (by decide) ?_
      refine g_lv (lv' := [(0, .ref b), (1, .ref (Ad 0 0)), (2, .ref (Ad 40 0)), (3, .ref (Ad 90 0)), (4, .int i)]) [2, 3, 4, 5, 6] rfl ?_
      refine g_widen (k := cells + (kc ν - kc ν) + 1) (n := slots + (ks ν - ks ν) + 6) (by omega) (by omega) ?_
      exact kk Ad (mn_rfl _) (kp_rfl _ _)
    · exact cd_nil ec
noncomputable def s_held (w : Nat) (μ : MP) (ν : NC) (a : AS) (x1 : Int32) : Option ((MP × NC) × AS) := (f_X8_held w μ ν x1).bind fun r => (f_X9_held w a x1).bind fun q => (f_X9_thrown w q.1).bind fun t => lwq true [(1, 1)] μ ν (r.1, ((μ, ν), r.2)) q t
set_option maxHeartbeats 4000000 in
set_option maxRecDepth 100000 in
theorem w_held {p : Program} {l : Launch} {e : Env} {s : State} {m : MethodId} {args : Array Value} {below : List Frame} {meth : Method} {c : Code} {D : va_G} {E : Nat → ClassId} {A : Nat → Prop} {Q : State → Prop} {B : Nat × (Nat → Nat)} {a30 a31 : Nat} {μ : MP} {ν : NC} {a : AS} {Ad : Nat → Nat → Nat} {w : Nat} {b L : Nat} {xs : Nat → Int32} {cells slots : Nat} (C : cx p s m args meth c D E A cL_law 7 "TradeLineLaw") (hEv : eV a30 a31 B A s s.heap) (hN : vN s) (hl : l.stackTraces = false) (hI : lwI ν) (h3 : Ad 30 0 = a30 ∧ Ad 31 0 = a31) (hX : va_X b L xs s s.heap) (hbl : b < s.heap.size) (hbA : ¬ A b) {i x1 : Int32} (q1 : vp_in (i + 1) L ∧ xs (i + 1).toNatClampNeg = x1) {S : (MP × NC) × AS} (h : s_held w μ ν a x1 = some S) (hf : cells + (kc S.1.2 - kc ν) + 1 ≤ 299000 ∧ slots + (ks S.1.2 - ks ν) + 6 ≤ 3090000) (kk : ∀ A1, mn ν S.1.2 → kp ν Ad A1 → G p l e room_1 s m args below meth c D E A 7 Q (zS S.1.1 S.1.2 S.2 A1) [] (cells + (kc S.1.2 - kc ν) + 1) (slots + (ks S.1.2 - ks ν) + 6) 2215 [(0, .ref b), (1, .ref (A1 0 0)), (2, .ref (A1 40 0)), (3, .ref (A1 90 0)), (4, .int i)] []) : G p l e room_1 s m args below meth c D E A 7 Q (zS μ ν a Ad) [] (cells) (slots) 720 [(0, .ref b), (1, .ref (Ad 0 0)), (2, .ref (Ad 40 0)), (3, .ref (Ad 90 0)), (4, .int i)] [] := by
  unfold s_held at h
  obtain ⟨r, hr, h⟩ := bind_of h
  obtain ⟨q, hq, h⟩ := bind_of h
  obtain ⟨t, ht, h⟩ := bind_of h
  rcases lwq_t h with ⟨e0, e1, e2, rfl⟩ | ⟨ec, rfl⟩
  · replace e0 : r.1 = 0 := e0
    have hf1 : cells + (kc ν - kc ν) + 1 ≤ 299000 := hf.1
    have hf2 : slots + (ks ν - ks ν) + 6 ≤ 3090000 := hf.2
    refine g_aload_n C dL_law_720 rfl 1 rfl ?_
    refine g_aload_n C dL_law_721 rfl 0 rfl ?_
    refine g_iload C dL_law_722 4 rfl ?_
    refine g_iconst (v := 1) C dL_law_724 (by decide) ?_
    refine g_iadd C dL_law_725 ?_
    refine g_ialdX C hX hbl hbA q1.1 dL_law_726 ?_
    rw [q1.2]
    refine g_aload_n C dL_law_727 rfl 3 rfl ?_
    refine g_cSh (n := 3) (exr := []) C hEv hN h3 [_, _, _] _ rfl rfl [] rfl rfl (fun sz => r_L_held l B μ ν a Ad w x1 r.2 (thr0 hr e0) hI.1 hI.2.1 D E sz) rfl gh_held gw_0 gw_1052 gw_1053 ⟨by decide +kernel, by decide +kernel, by decide +kernel⟩ ⟨rfl, rfl⟩ ⟨Nat.le_of_ble_eq_true rfl, Nat.le_of_ble_eq_true rfl⟩ (Nat.le_of_ble_eq_true rfl) dL_law_728 (rm_hf (by omega) (by omega)) (fun r8 u hp hx => ?_)
    obtain ⟨er8, rfl⟩ := hp
    rw [er8]
    try dsimp only [List.nil_append]
    refine g_istore (lv' := [(5, .int 0), (0, .ref b), (1, .ref (Ad 0 0)), (2, .ref (Ad 40 0)), (3, .ref (Ad 90 0)), (4, .int i)]) C dL_law_731 (by decide) rfl ?_
    refine g_aload_n C dL_law_733 rfl 3 rfl ?_
    refine g_aload_n C dL_law_734 rfl 1 rfl ?_
    refine g_iload C dL_law_735 5 rfl ?_
    refine g_iconst (v := 1) C dL_law_737 (by decide) ?_
    refine g_iadd C dL_law_738 ?_
    refine g_ialdX C hX hbl hbA q1.1 dL_law_739 ?_
    rw [q1.2]
    refine g_cVi (n := 1) (exc := []) (exr := []) C [_] _ rfl rfl [] [] rfl rfl rfl rfl (fun _ _ h => absurd h (by simp)) (fun _ h => absurd h (by simp)) (fun _ h => absurd h (by simp)) (fun sz => zk_held l (up3 μ.1 90 0 0 r.2, μ.2) ν a Ad hI.2.2 w x1 q hq D E sz) rfl gw_1615 gw_9 gw_1612 gw_1613 gw_1614 ⟨by decide +kernel, by decide +kernel, by decide +kernel⟩ ⟨rfl, rfl⟩ ⟨Nat.le_of_ble_eq_true rfl, Nat.le_of_ble_eq_true rfl⟩ (rcvT ⟨hI.2.2.1, fun e => absurd e (by decide)⟩ rfl rfl rfl) (Nat.le_of_ble_eq_true rfl) dL_law_740 (rm_hf (by omega) (by omega)) (fun r9 u hp hx => ?_)
    obtain ⟨er9, rfl⟩ := hp
    rw [er9]
    try dsimp only [List.nil_append]
    refine g_istore (lv' := [(6, .int q.2), (5, .int 0), (0, .ref b), (1, .ref (Ad 0 0)), (2, .ref (Ad 40 0)), (3, .ref (Ad 90 0)), (4, .int i)]) C dL_law_743 (by decide) rfl ?_
    refine g_aload_n C dL_law_745 rfl 4 rfl ?_
    refine g_cVi (n := 0) (exc := []) (exr := []) C [] _ rfl rfl [] [] rfl rfl rfl rfl (fun _ _ h => absurd h (by simp)) (fun _ h => absurd h (by simp)) (fun _ h => absurd h (by simp)) (fun sz => zk_thrown l (up3 μ.1 90 0 0 r.2, μ.2) ν q.1 Ad hI.2.2 w  t ht D E sz) rfl gw_1468 gw_9 gw_1465 gw_1466 gw_1467 ⟨by decide +kernel, by decide +kernel, by decide +kernel⟩ ⟨rfl, rfl⟩ ⟨Nat.le_of_ble_eq_true rfl, Nat.le_of_ble_eq_true rfl⟩ (rcvT ⟨hI.2.2.1, fun e => absurd e (by decide)⟩ rfl rfl rfl) (Nat.le_of_ble_eq_true rfl) dL_law_746 (rm_hf (by omega) (by omega)) (fun r9 u hp hx => ?_)
    obtain ⟨er9, rfl⟩ := hp
    rw [er9]
    try dsimp only [List.nil_append]
    refine g_iload C dL_law_749 1 rfl ?_
    refine g_icmp_eq (tgt := 756) C dL_law_751 (by decide) (fun c1 => ?_) (fun c1 => absurd e1 c1)
    refine g_iload C dL_law_756 1 rfl ?_
    refine g_if_ne (tgt := 773) C dL_law_758 (by decide) (fun c2 => absurd rfl c2) (fun c2 => ?_)
    refine g_aload_n C dL_law_761 rfl 5 rfl ?_
    refine g_iconst (v := 0) C dL_law_762 (by decide) ?_
    refine g_lald (μ := (up3 μ.1 90 0 0 r.2, μ.2)) (ν := ν) (a := q.1) (Ad := Ad) C rfl hI.2.1 dL_law_763 ?_
    refine g_iload C dL_law_764 0 rfl ?_
    refine g_i2l C dL_law_766 rfl ?_
    refine g_lcmp C dL_law_767 (fun r7 e7 => ?_)
    refine g_if_eq (tgt := 773) C dL_law_768 (by decide) (fun c3 => ?_) (fun c3 => absurd (e7.mpr (congrArg Int32.toInt64 (show up3 μ.1 90 0 0 r.2 90 0 0 = _ from (up3_90 _ _).trans e2))) c3)
    refine g_goto (tgt := 2215) C dL_law_773 (by decide) ?_
    refine g_lv (lv' := [(0, .ref b), (1, .ref (Ad 0 0)), (2, .ref (Ad 40 0)), (3, .ref (Ad 90 0)), (4, .int i)]) [2, 3, 4, 5, 6] rfl ?_
    refine g_widen (k := cells + (kc ν - kc ν) + 1) (n := slots + (ks ν - ks ν) + 6) (by omega) (by omega) ?_
    exact kk Ad (mn_rfl _) (kp_rfl _ _)
  · rcases cd_cons ec with ⟨e0, e1⟩ | ec
    · have hf1 : cells + (kc ν - kc ν) + 1 ≤ 299000 := hf.1
      have hf2 : slots + (ks ν - ks ν) + 6 ≤ 3090000 := hf.2
      refine g_aload_n C dL_law_720 rfl 1 rfl ?_
      refine g_aload_n C dL_law_721 rfl 0 rfl ?_
      refine g_iload C dL_law_722 4 rfl ?_
      refine g_iconst (v := 1) C dL_law_724 (by decide) ?_
      refine g_iadd C dL_law_725 ?_
      refine g_ialdX C hX hbl hbA q1.1 dL_law_726 ?_
      rw [q1.2]
      refine g_aload_n C dL_law_727 rfl 3 rfl ?_
      refine g_cSh (n := 3) (exr := []) C hEv hN h3 [_, _, _] _ rfl rfl [] rfl rfl (fun sz => e1_L_held l hl B μ ν a Ad w x1 r.2 (thrS hr e0) hI.1 hI.2.1 D E sz) rfl gh_held gw_0 gw_1052 gw_1053 ⟨by decide +kernel, by decide +kernel, by decide +kernel⟩ ⟨rfl, rfl⟩ ⟨Nat.le_of_ble_eq_true rfl, Nat.le_of_ble_eq_true rfl⟩ (Nat.le_of_ble_eq_true rfl) dL_law_728 (rm_hf (by omega) (by omega)) (fun r8 u hp hx => ?_)
      obtain ⟨er8, rfl⟩ := hp
      rw [er8]
      try dsimp only [List.nil_append]
      refine g_istore (lv' := [(5, .int 1), (0, .ref b), (1, .ref (Ad 0 0)), (2, .ref (Ad 40 0)), (3, .ref (Ad 90 0)), (4, .int i)]) C dL_law_731 (by decide) rfl ?_
      refine g_aload_n C dL_law_733 rfl 3 rfl ?_
      refine g_aload_n C dL_law_734 rfl 1 rfl ?_
      refine g_iload C dL_law_735 5 rfl ?_
      refine g_iconst (v := 1) C dL_law_737 (by decide) ?_
      refine g_iadd C dL_law_738 ?_
      refine g_ialdX C hX hbl hbA q1.1 dL_law_739 ?_
      rw [q1.2]
      refine g_cVi (n := 1) (exc := []) (exr := []) C [_] _ rfl rfl [] [] rfl rfl rfl rfl (fun _ _ h => absurd h (by simp)) (fun _ h => absurd h (by simp)) (fun _ h => absurd h (by simp)) (fun sz => zk_held l μ ν a Ad hI.2.2 w x1 q hq D E sz) rfl gw_1615 gw_9 gw_1612 gw_1613 gw_1614 ⟨by decide +kernel, by decide +kernel, by decide +kernel⟩ ⟨rfl, rfl⟩ ⟨Nat.le_of_ble_eq_true rfl, Nat.le_of_ble_eq_true rfl⟩ (rcvT ⟨hI.2.2.1, fun e => absurd e (by decide)⟩ rfl rfl rfl) (Nat.le_of_ble_eq_true rfl) dL_law_740 (rm_hf (by omega) (by omega)) (fun r9 u hp hx => ?_)
      obtain ⟨er9, rfl⟩ := hp
      rw [er9]
      try dsimp only [List.nil_append]
      refine g_istore (lv' := [(6, .int q.2), (5, .int 1), (0, .ref b), (1, .ref (Ad 0 0)), (2, .ref (Ad 40 0)), (3, .ref (Ad 90 0)), (4, .int i)]) C dL_law_743 (by decide) rfl ?_
      refine g_aload_n C dL_law_745 rfl 4 rfl ?_
      refine g_cVi (n := 0) (exc := []) (exr := []) C [] _ rfl rfl [] [] rfl rfl rfl rfl (fun _ _ h => absurd h (by simp)) (fun _ h => absurd h (by simp)) (fun _ h => absurd h (by simp)) (fun sz => zk_thrown l μ ν q.1 Ad hI.2.2 w  t ht D E sz) rfl gw_1468 gw_9 gw_1465 gw_1466 gw_1467 ⟨by decide +kernel, by decide +kernel, by decide +kernel⟩ ⟨rfl, rfl⟩ ⟨Nat.le_of_ble_eq_true rfl, Nat.le_of_ble_eq_true rfl⟩ (rcvT ⟨hI.2.2.1, fun e => absurd e (by decide)⟩ rfl rfl rfl) (Nat.le_of_ble_eq_true rfl) dL_law_746 (rm_hf (by omega) (by omega)) (fun r9 u hp hx => ?_)
      obtain ⟨er9, rfl⟩ := hp
      rw [er9]
      try dsimp only [List.nil_append]
      refine g_iload C dL_law_749 1 rfl ?_
      refine g_icmp_eq (tgt := 756) C dL_law_751 (by decide) (fun c1 => ?_) (fun c1 => absurd e1 c1)
      refine g_iload C dL_law_756 1 rfl ?_
      refine g_if_ne (tgt := 773) C dL_law_758 (by decide) (fun c2 => ?_) (fun c2 => absurd c2 (by decide))
      refine g_goto (tgt := 2215) C dL_law_773 (by decide) ?_
      refine g_lv (lv' := [(0, .ref b), (1, .ref (Ad 0 0)), (2, .ref (Ad 40 0)), (3, .ref (Ad 90 0)), (4, .int i)]) [2, 3, 4, 5, 6] rfl ?_
      refine g_widen (k := cells + (kc ν - kc ν) + 1) (n := slots + (ks ν - ks ν) + 6) (by omega) (by omega) ?_
      exact kk Ad (mn_rfl _) (kp_rfl _ _)
    · exact cd_nil ec
noncomputable def s_fields (w : Nat) (μ : MP) (ν : NC) (a : AS) (x1 : Int32) (x2 : Int32) : Option ((MP × NC) × AS) := (f_X8_fields w μ ν x1 x2).bind fun r => (f_X9_fields w a x1 x2).bind fun q => (f_X9_thrown w q.1).bind fun t => lwq true [(1, 1)] μ ν (r.1, ((μ, ν), r.2)) q t
set_option maxHeartbeats 4000000 in
set_option maxRecDepth 100000 in
theorem w_fields {p : Program} {l : Launch} {e : Env} {s : State} {m : MethodId} {args : Array Value} {below : List Frame} {meth : Method} {c : Code} {D : va_G} {E : Nat → ClassId} {A : Nat → Prop} {Q : State → Prop} {B : Nat × (Nat → Nat)} {a30 a31 : Nat} {μ : MP} {ν : NC} {a : AS} {Ad : Nat → Nat → Nat} {w : Nat} {b L : Nat} {xs : Nat → Int32} {cells slots : Nat} (C : cx p s m args meth c D E A cL_law 7 "TradeLineLaw") (hEv : eV a30 a31 B A s s.heap) (hN : vN s) (hl : l.stackTraces = false) (hI : lwI ν) (h3 : Ad 30 0 = a30 ∧ Ad 31 0 = a31) (hX : va_X b L xs s s.heap) (hbl : b < s.heap.size) (hbA : ¬ A b) {i x1 x2 : Int32} (q1 : vp_in (i + 1) L ∧ xs (i + 1).toNatClampNeg = x1) (q2 : vp_in (i + 2) L ∧ xs (i + 2).toNatClampNeg = x2) {S : (MP × NC) × AS} (h : s_fields w μ ν a x1 x2 = some S) (hf : cells + (kc S.1.2 - kc ν) + 1 ≤ 299000 ∧ slots + (ks S.1.2 - ks ν) + 6 ≤ 3090000) (kk : ∀ A1, mn ν S.1.2 → kp ν Ad A1 → G p l e room_1 s m args below meth c D E A 7 Q (zS S.1.1 S.1.2 S.2 A1) [] (cells + (kc S.1.2 - kc ν) + 1) (slots + (ks S.1.2 - ks ν) + 6) 2215 [(0, .ref b), (1, .ref (A1 0 0)), (2, .ref (A1 40 0)), (3, .ref (A1 90 0)), (4, .int i)] []) : G p l e room_1 s m args below meth c D E A 7 Q (zS μ ν a Ad) [] (cells) (slots) 776 [(0, .ref b), (1, .ref (Ad 0 0)), (2, .ref (Ad 40 0)), (3, .ref (Ad 90 0)), (4, .int i)] [] := by
  unfold s_fields at h
  obtain ⟨r, hr, h⟩ := bind_of h
  obtain ⟨q, hq, h⟩ := bind_of h
  obtain ⟨t, ht, h⟩ := bind_of h
  rcases lwq_t h with ⟨e0, e1, e2, rfl⟩ | ⟨ec, rfl⟩
  · replace e0 : r.1 = 0 := e0
    have hf1 : cells + (kc ν - kc ν) + 1 ≤ 299000 := hf.1
    have hf2 : slots + (ks ν - ks ν) + 6 ≤ 3090000 := hf.2
    refine g_aload_n C dL_law_776 rfl 1 rfl ?_
    refine g_aload_n C dL_law_777 rfl 0 rfl ?_
    refine g_iload C dL_law_778 4 rfl ?_
    refine g_iconst (v := 1) C dL_law_780 (by decide) ?_
    refine g_iadd C dL_law_781 ?_
    refine g_ialdX C hX hbl hbA q1.1 dL_law_782 ?_
    rw [q1.2]
    refine g_aload_n C dL_law_783 rfl 0 rfl ?_
    refine g_iload C dL_law_784 4 rfl ?_
    refine g_iconst (v := 2) C dL_law_786 (by decide) ?_
    refine g_iadd C dL_law_787 ?_
    refine g_ialdX C hX hbl hbA q2.1 dL_law_788 ?_
    rw [q2.2]
    refine g_aload_n C dL_law_789 rfl 3 rfl ?_
    refine g_cSh (n := 4) (exr := []) C hEv hN h3 [_, _, _, _] _ rfl rfl [] rfl rfl (fun sz => r_L_fields l B μ ν a Ad w x1 x2 r.2 (thr0 hr e0) hI.1 hI.2.1 D E sz) rfl gh_fields gw_0 gw_1059 gw_1060 ⟨by decide +kernel, by decide +kernel, by decide +kernel⟩ ⟨rfl, rfl⟩ ⟨Nat.le_of_ble_eq_true rfl, Nat.le_of_ble_eq_true rfl⟩ (Nat.le_of_ble_eq_true rfl) dL_law_790 (rm_hf (by omega) (by omega)) (fun r8 u hp hx => ?_)
    obtain ⟨er8, rfl⟩ := hp
    rw [er8]
    try dsimp only [List.nil_append]
    refine g_istore (lv' := [(5, .int 0), (0, .ref b), (1, .ref (Ad 0 0)), (2, .ref (Ad 40 0)), (3, .ref (Ad 90 0)), (4, .int i)]) C dL_law_793 (by decide) rfl ?_
    refine g_aload_n C dL_law_795 rfl 3 rfl ?_
    refine g_aload_n C dL_law_796 rfl 1 rfl ?_
    refine g_iload C dL_law_797 5 rfl ?_
    refine g_iconst (v := 1) C dL_law_799 (by decide) ?_
    refine g_iadd C dL_law_800 ?_
    refine g_ialdX C hX hbl hbA q1.1 dL_law_801 ?_
    rw [q1.2]
    refine g_aload_n C dL_law_802 rfl 1 rfl ?_
    refine g_iload C dL_law_803 5 rfl ?_
    refine g_iconst (v := 2) C dL_law_805 (by decide) ?_
    refine g_iadd C dL_law_806 ?_
    refine g_ialdX C hX hbl hbA q2.1 dL_law_807 ?_
    rw [q2.2]
    refine g_cVi (n := 2) (exc := []) (exr := []) C [_, _] _ rfl rfl [] [] rfl rfl rfl rfl (fun _ _ h => absurd h (by simp)) (fun _ h => absurd h (by simp)) (fun _ h => absurd h (by simp)) (fun sz => zk_fields l (up3 μ.1 90 0 0 r.2, μ.2) ν a Ad hI.2.2 w x1 x2 q hq D E sz) rfl gw_1619 gw_9 gw_1616 gw_1617 gw_1618 ⟨by decide +kernel, by decide +kernel, by decide +kernel⟩ ⟨rfl, rfl⟩ ⟨Nat.le_of_ble_eq_true rfl, Nat.le_of_ble_eq_true rfl⟩ (rcvT ⟨hI.2.2.1, fun e => absurd e (by decide)⟩ rfl rfl rfl) (Nat.le_of_ble_eq_true rfl) dL_law_808 (rm_hf (by omega) (by omega)) (fun r9 u hp hx => ?_)
    obtain ⟨er9, rfl⟩ := hp
    rw [er9]
    try dsimp only [List.nil_append]
    refine g_istore (lv' := [(6, .int q.2), (5, .int 0), (0, .ref b), (1, .ref (Ad 0 0)), (2, .ref (Ad 40 0)), (3, .ref (Ad 90 0)), (4, .int i)]) C dL_law_811 (by decide) rfl ?_
    refine g_aload_n C dL_law_813 rfl 4 rfl ?_
    refine g_cVi (n := 0) (exc := []) (exr := []) C [] _ rfl rfl [] [] rfl rfl rfl rfl (fun _ _ h => absurd h (by simp)) (fun _ h => absurd h (by simp)) (fun _ h => absurd h (by simp)) (fun sz => zk_thrown l (up3 μ.1 90 0 0 r.2, μ.2) ν q.1 Ad hI.2.2 w  t ht D E sz) rfl gw_1468 gw_9 gw_1465 gw_1466 gw_1467 ⟨by decide +kernel, by decide +kernel, by decide +kernel⟩ ⟨rfl, rfl⟩ ⟨Nat.le_of_ble_eq_true rfl, Nat.le_of_ble_eq_true rfl⟩ (rcvT ⟨hI.2.2.1, fun e => absurd e (by decide)⟩ rfl rfl rfl) (Nat.le_of_ble_eq_true rfl) dL_law_814 (rm_hf (by omega) (by omega)) (fun r9 u hp hx => ?_)
    obtain ⟨er9, rfl⟩ := hp
    rw [er9]
    try dsimp only [List.nil_append]
    refine g_iload C dL_law_817 1 rfl ?_
    refine g_icmp_eq (tgt := 824) C dL_law_819 (by decide) (fun c1 => ?_) (fun c1 => absurd e1 c1)
    refine g_iload C dL_law_824 1 rfl ?_
    refine g_if_ne (tgt := 841) C dL_law_826 (by decide) (fun c2 => absurd rfl c2) (fun c2 => ?_)
    refine g_aload_n C dL_law_829 rfl 5 rfl ?_
    refine g_iconst (v := 0) C dL_law_830 (by decide) ?_
    refine g_lald (μ := (up3 μ.1 90 0 0 r.2, μ.2)) (ν := ν) (a := q.1) (Ad := Ad) C rfl hI.2.1 dL_law_831 ?_
    refine g_iload C dL_law_832 0 rfl ?_
    refine g_i2l C dL_law_834 rfl ?_
    refine g_lcmp C dL_law_835 (fun r7 e7 => ?_)
    refine g_if_eq (tgt := 841) C dL_law_836 (by decide) (fun c3 => ?_) (fun c3 => absurd (e7.mpr (congrArg Int32.toInt64 (show up3 μ.1 90 0 0 r.2 90 0 0 = _ from (up3_90 _ _).trans e2))) c3)
    refine g_goto (tgt := 2215) C dL_law_841 (by decide) ?_
    refine g_lv (lv' := [(0, .ref b), (1, .ref (Ad 0 0)), (2, .ref (Ad 40 0)), (3, .ref (Ad 90 0)), (4, .int i)]) [2, 3, 4, 5, 6] rfl ?_
    refine g_widen (k := cells + (kc ν - kc ν) + 1) (n := slots + (ks ν - ks ν) + 6) (by omega) (by omega) ?_
    exact kk Ad (mn_rfl _) (kp_rfl _ _)
  · rcases cd_cons ec with ⟨e0, e1⟩ | ec
    · have hf1 : cells + (kc ν - kc ν) + 1 ≤ 299000 := hf.1
      have hf2 : slots + (ks ν - ks ν) + 6 ≤ 3090000 := hf.2
      refine g_aload_n C dL_law_776 rfl 1 rfl ?_
      refine g_aload_n C dL_law_777 rfl 0 rfl ?_
      refine g_iload C dL_law_778 4 rfl ?_
      refine g_iconst (v := 1) C dL_law_780 (by decide) ?_
      refine g_iadd C dL_law_781 ?_
      refine g_ialdX C hX hbl hbA q1.1 dL_law_782 ?_
      rw [q1.2]
      refine g_aload_n C dL_law_783 rfl 0 rfl ?_
      refine g_iload C dL_law_784 4 rfl ?_
      refine g_iconst (v := 2) C dL_law_786 (by decide) ?_
      refine g_iadd C dL_law_787 ?_
      refine g_ialdX C hX hbl hbA q2.1 dL_law_788 ?_
      rw [q2.2]
      refine g_aload_n C dL_law_789 rfl 3 rfl ?_
      refine g_cSh (n := 4) (exr := []) C hEv hN h3 [_, _, _, _] _ rfl rfl [] rfl rfl (fun sz => e1_L_fields l hl B μ ν a Ad w x1 x2 r.2 (thrS hr e0) hI.1 hI.2.1 D E sz) rfl gh_fields gw_0 gw_1059 gw_1060 ⟨by decide +kernel, by decide +kernel, by decide +kernel⟩ ⟨rfl, rfl⟩ ⟨Nat.le_of_ble_eq_true rfl, Nat.le_of_ble_eq_true rfl⟩ (Nat.le_of_ble_eq_true rfl) dL_law_790 (rm_hf (by omega) (by omega)) (fun r8 u hp hx => ?_)
      obtain ⟨er8, rfl⟩ := hp
      rw [er8]
      try dsimp only [List.nil_append]
      refine g_istore (lv' := [(5, .int 1), (0, .ref b), (1, .ref (Ad 0 0)), (2, .ref (Ad 40 0)), (3, .ref (Ad 90 0)), (4, .int i)]) C dL_law_793 (by decide) rfl ?_
      refine g_aload_n C dL_law_795 rfl 3 rfl ?_
      refine g_aload_n C dL_law_796 rfl 1 rfl ?_
      refine g_iload C dL_law_797 5 rfl ?_
      refine g_iconst (v := 1) C dL_law_799 (by decide) ?_
      refine g_iadd C dL_law_800 ?_
      refine g_ialdX C hX hbl hbA q1.1 dL_law_801 ?_
      rw [q1.2]
      refine g_aload_n C dL_law_802 rfl 1 rfl ?_
      refine g_iload C dL_law_803 5 rfl ?_
      refine g_iconst (v := 2) C dL_law_805 (by decide) ?_
      refine g_iadd C dL_law_806 ?_
      refine g_ialdX C hX hbl hbA q2.1 dL_law_807 ?_
      rw [q2.2]
      refine g_cVi (n := 2) (exc := []) (exr := []) C [_, _] _ rfl rfl [] [] rfl rfl rfl rfl (fun _ _ h => absurd h (by simp)) (fun _ h => absurd h (by simp)) (fun _ h => absurd h (by simp)) (fun sz => zk_fields l μ ν a Ad hI.2.2 w x1 x2 q hq D E sz) rfl gw_1619 gw_9 gw_1616 gw_1617 gw_1618 ⟨by decide +kernel, by decide +kernel, by decide +kernel⟩ ⟨rfl, rfl⟩ ⟨Nat.le_of_ble_eq_true rfl, Nat.le_of_ble_eq_true rfl⟩ (rcvT ⟨hI.2.2.1, fun e => absurd e (by decide)⟩ rfl rfl rfl) (Nat.le_of_ble_eq_true rfl) dL_law_808 (rm_hf (by omega) (by omega)) (fun r9 u hp hx => ?_)
      obtain ⟨er9, rfl⟩ := hp
      rw [er9]
      try dsimp only [List.nil_append]
      refine g_istore (lv' := [(6, .int q.2), (5, .int 1), (0, .ref b), (1, .ref (Ad 0 0)), (2, .ref (Ad 40 0)), (3, .ref (Ad 90 0)), (4, .int i)]) C dL_law_811 (by decide) rfl ?_
      refine g_aload_n C dL_law_813 rfl 4 rfl ?_
      refine g_cVi (n := 0) (exc := []) (exr := []) C [] _ rfl rfl [] [] rfl rfl rfl rfl (fun _ _ h => absurd h (by simp)) (fun _ h => absurd h (by simp)) (fun _ h => absurd h (by simp)) (fun sz => zk_thrown l μ ν q.1 Ad hI.2.2 w  t ht D E sz) rfl gw_1468 gw_9 gw_1465 gw_1466 gw_1467 ⟨by decide +kernel, by decide +kernel, by decide +kernel⟩ ⟨rfl, rfl⟩ ⟨Nat.le_of_ble_eq_true rfl, Nat.le_of_ble_eq_true rfl⟩ (rcvT ⟨hI.2.2.1, fun e => absurd e (by decide)⟩ rfl rfl rfl) (Nat.le_of_ble_eq_true rfl) dL_law_814 (rm_hf (by omega) (by omega)) (fun r9 u hp hx => ?_)
      obtain ⟨er9, rfl⟩ := hp
      rw [er9]
      try dsimp only [List.nil_append]
      refine g_iload C dL_law_817 1 rfl ?_
      refine g_icmp_eq (tgt := 824) C dL_law_819 (by decide) (fun c1 => ?_) (fun c1 => absurd e1 c1)
      refine g_iload C dL_law_824 1 rfl ?_
      refine g_if_ne (tgt := 841) C dL_law_826 (by decide) (fun c2 => ?_) (fun c2 => absurd c2 (by decide))
      refine g_goto (tgt := 2215) C dL_law_841 (by decide) ?_
      refine g_lv (lv' := [(0, .ref b), (1, .ref (Ad 0 0)), (2, .ref (Ad 40 0)), (3, .ref (Ad 90 0)), (4, .int i)]) [2, 3, 4, 5, 6] rfl ?_
      refine g_widen (k := cells + (kc ν - kc ν) + 1) (n := slots + (ks ν - ks ν) + 6) (by omega) (by omega) ?_
      exact kk Ad (mn_rfl _) (kp_rfl _ _)
    · exact cd_nil ec
noncomputable def s_tagAt (w : Nat) (μ : MP) (ν : NC) (a : AS) (x1 : Int32) (x2 : Int32) (x3 : Int32) : Option ((MP × NC) × AS) := (f_X8_tagAt w μ ν x1 x2 x3).bind fun r => (f_X9_tagAt w a x1 x2 x3).bind fun q => (f_X9_thrown w q.1).bind fun t => lwq true [(1, 1)] μ ν (r.1, ((μ, ν), r.2)) q t
set_option maxHeartbeats 4000000 in
set_option maxRecDepth 100000 in
theorem w_tagAt {p : Program} {l : Launch} {e : Env} {s : State} {m : MethodId} {args : Array Value} {below : List Frame} {meth : Method} {c : Code} {D : va_G} {E : Nat → ClassId} {A : Nat → Prop} {Q : State → Prop} {B : Nat × (Nat → Nat)} {a30 a31 : Nat} {μ : MP} {ν : NC} {a : AS} {Ad : Nat → Nat → Nat} {w : Nat} {b L : Nat} {xs : Nat → Int32} {cells slots : Nat} (C : cx p s m args meth c D E A cL_law 7 "TradeLineLaw") (hEv : eV a30 a31 B A s s.heap) (hN : vN s) (hl : l.stackTraces = false) (hI : lwI ν) (h3 : Ad 30 0 = a30 ∧ Ad 31 0 = a31) (hX : va_X b L xs s s.heap) (hbl : b < s.heap.size) (hbA : ¬ A b) {i x1 x2 x3 : Int32} (q1 : vp_in (i + 1) L ∧ xs (i + 1).toNatClampNeg = x1) (q2 : vp_in (i + 2) L ∧ xs (i + 2).toNatClampNeg = x2) (q3 : vp_in (i + 3) L ∧ xs (i + 3).toNatClampNeg = x3) {S : (MP × NC) × AS} (h : s_tagAt w μ ν a x1 x2 x3 = some S) (hf : cells + (kc S.1.2 - kc ν) + 1 ≤ 299000 ∧ slots + (ks S.1.2 - ks ν) + 6 ≤ 3090000) (kk : ∀ A1, mn ν S.1.2 → kp ν Ad A1 → G p l e room_1 s m args below meth c D E A 7 Q (zS S.1.1 S.1.2 S.2 A1) [] (cells + (kc S.1.2 - kc ν) + 1) (slots + (ks S.1.2 - ks ν) + 6) 2215 [(0, .ref b), (1, .ref (A1 0 0)), (2, .ref (A1 40 0)), (3, .ref (A1 90 0)), (4, .int i)] []) : G p l e room_1 s m args below meth c D E A 7 Q (zS μ ν a Ad) [] (cells) (slots) 844 [(0, .ref b), (1, .ref (Ad 0 0)), (2, .ref (Ad 40 0)), (3, .ref (Ad 90 0)), (4, .int i)] [] := by
  unfold s_tagAt at h
  obtain ⟨r, hr, h⟩ := bind_of h
  obtain ⟨q, hq, h⟩ := bind_of h
  obtain ⟨t, ht, h⟩ := bind_of h
  rcases lwq_t h with ⟨e0, e1, e2, rfl⟩ | ⟨ec, rfl⟩
  · replace e0 : r.1 = 0 := e0
    have hf1 : cells + (kc ν - kc ν) + 1 ≤ 299000 := hf.1
    have hf2 : slots + (ks ν - ks ν) + 6 ≤ 3090000 := hf.2
    refine g_aload_n C dL_law_844 rfl 1 rfl ?_
    refine g_aload_n C dL_law_845 rfl 0 rfl ?_
    refine g_iload C dL_law_846 4 rfl ?_
    refine g_iconst (v := 1) C dL_law_848 (by decide) ?_
    refine g_iadd C dL_law_849 ?_
    refine g_ialdX C hX hbl hbA q1.1 dL_law_850 ?_
    rw [q1.2]
    refine g_aload_n C dL_law_851 rfl 0 rfl ?_
    refine g_iload C dL_law_852 4 rfl ?_
    refine g_iconst (v := 2) C dL_law_854 (by decide) ?_
    refine g_iadd C dL_law_855 ?_
    refine g_ialdX C hX hbl hbA q2.1 dL_law_856 ?_
    rw [q2.2]
    refine g_aload_n C dL_law_857 rfl 0 rfl ?_
    refine g_iload C dL_law_858 4 rfl ?_
    refine g_iconst (v := 3) C dL_law_860 (by decide) ?_
    refine g_iadd C dL_law_861 ?_
    refine g_ialdX C hX hbl hbA q3.1 dL_law_862 ?_
    rw [q3.2]
    refine g_aload_n C dL_law_863 rfl 3 rfl ?_
    refine g_cSh (n := 5) (exr := []) C hEv hN h3 [_, _, _, _, _] _ rfl rfl [] rfl rfl (fun sz => r_L_tagAt l B μ ν a Ad w x1 x2 x3 r.2 (thr0 hr e0) hI.1 hI.2.1 D E sz) rfl gh_tagAt gw_0 gw_1075 gw_1076 ⟨by decide +kernel, by decide +kernel, by decide +kernel⟩ ⟨rfl, rfl⟩ ⟨Nat.le_of_ble_eq_true rfl, Nat.le_of_ble_eq_true rfl⟩ (Nat.le_of_ble_eq_true rfl) dL_law_864 (rm_hf (by omega) (by omega)) (fun r8 u hp hx => ?_)
    obtain ⟨er8, rfl⟩ := hp
    rw [er8]
    try dsimp only [List.nil_append]
    refine g_istore (lv' := [(5, .int 0), (0, .ref b), (1, .ref (Ad 0 0)), (2, .ref (Ad 40 0)), (3, .ref (Ad 90 0)), (4, .int i)]) C dL_law_867 (by decide) rfl ?_
    refine g_aload_n C dL_law_869 rfl 3 rfl ?_
    refine g_aload_n C dL_law_870 rfl 1 rfl ?_
    refine g_iload C dL_law_871 5 rfl ?_
    refine g_iconst (v := 1) C dL_law_873 (by decide) ?_
    refine g_iadd C dL_law_874 ?_
    refine g_ialdX C hX hbl hbA q1.1 dL_law_875 ?_
    rw [q1.2]
    refine g_aload_n C dL_law_876 rfl 1 rfl ?_
    refine g_iload C dL_law_877 5 rfl ?_
    refine g_iconst (v := 2) C dL_law_879 (by decide) ?_
    refine g_iadd C dL_law_880 ?_
    refine g_ialdX C hX hbl hbA q2.1 dL_law_881 ?_
    rw [q2.2]
    refine g_aload_n C dL_law_882 rfl 1 rfl ?_
    refine g_iload C dL_law_883 5 rfl ?_
    refine g_iconst (v := 3) C dL_law_885 (by decide) ?_
    refine g_iadd C dL_law_886 ?_
    refine g_ialdX C hX hbl hbA q3.1 dL_law_887 ?_
    rw [q3.2]
    refine g_cVi (n := 3) (exc := []) (exr := []) C [_, _, _] _ rfl rfl [] [] rfl rfl rfl rfl (fun _ _ h => absurd h (by simp)) (fun _ h => absurd h (by simp)) (fun _ h => absurd h (by simp)) (fun sz => zk_tagAt l (up3 μ.1 90 0 0 r.2, μ.2) ν a Ad hI.2.2 w x1 x2 x3 q hq D E sz) rfl gw_1631 gw_9 gw_1628 gw_1629 gw_1630 ⟨by decide +kernel, by decide +kernel, by decide +kernel⟩ ⟨rfl, rfl⟩ ⟨Nat.le_of_ble_eq_true rfl, Nat.le_of_ble_eq_true rfl⟩ (rcvT ⟨hI.2.2.1, fun e => absurd e (by decide)⟩ rfl rfl rfl) (Nat.le_of_ble_eq_true rfl) dL_law_888 (rm_hf (by omega) (by omega)) (fun r9 u hp hx => ?_)
    obtain ⟨er9, rfl⟩ := hp
    rw [er9]
    try dsimp only [List.nil_append]
    refine g_istore (lv' := [(6, .int q.2), (5, .int 0), (0, .ref b), (1, .ref (Ad 0 0)), (2, .ref (Ad 40 0)), (3, .ref (Ad 90 0)), (4, .int i)]) C dL_law_891 (by decide) rfl ?_
    refine g_aload_n C dL_law_893 rfl 4 rfl ?_
    refine g_cVi (n := 0) (exc := []) (exr := []) C [] _ rfl rfl [] [] rfl rfl rfl rfl (fun _ _ h => absurd h (by simp)) (fun _ h => absurd h (by simp)) (fun _ h => absurd h (by simp)) (fun sz => zk_thrown l (up3 μ.1 90 0 0 r.2, μ.2) ν q.1 Ad hI.2.2 w  t ht D E sz) rfl gw_1468 gw_9 gw_1465 gw_1466 gw_1467 ⟨by decide +kernel, by decide +kernel, by decide +kernel⟩ ⟨rfl, rfl⟩ ⟨Nat.le_of_ble_eq_true rfl, Nat.le_of_ble_eq_true rfl⟩ (rcvT ⟨hI.2.2.1, fun e => absurd e (by decide)⟩ rfl rfl rfl) (Nat.le_of_ble_eq_true rfl) dL_law_894 (rm_hf (by omega) (by omega)) (fun r9 u hp hx => ?_)
    obtain ⟨er9, rfl⟩ := hp
    rw [er9]
    try dsimp only [List.nil_append]
    refine g_iload C dL_law_897 1 rfl ?_
    refine g_icmp_eq (tgt := 904) C dL_law_899 (by decide) (fun c1 => ?_) (fun c1 => absurd e1 c1)
    refine g_iload C dL_law_904 1 rfl ?_
    refine g_if_ne (tgt := 921) C dL_law_906 (by decide) (fun c2 => absurd rfl c2) (fun c2 => ?_)
    refine g_aload_n C dL_law_909 rfl 5 rfl ?_
    refine g_iconst (v := 0) C dL_law_910 (by decide) ?_
    refine g_lald (μ := (up3 μ.1 90 0 0 r.2, μ.2)) (ν := ν) (a := q.1) (Ad := Ad) C rfl hI.2.1 dL_law_911 ?_
    refine g_iload C dL_law_912 0 rfl ?_
    refine g_i2l C dL_law_914 rfl ?_
    refine g_lcmp C dL_law_915 (fun r7 e7 => ?_)
    refine g_if_eq (tgt := 921) C dL_law_916 (by decide) (fun c3 => ?_) (fun c3 => absurd (e7.mpr (congrArg Int32.toInt64 (show up3 μ.1 90 0 0 r.2 90 0 0 = _ from (up3_90 _ _).trans e2))) c3)
    refine g_goto (tgt := 2215) C dL_law_921 (by decide) ?_
    refine g_lv (lv' := [(0, .ref b), (1, .ref (Ad 0 0)), (2, .ref (Ad 40 0)), (3, .ref (Ad 90 0)), (4, .int i)]) [2, 3, 4, 5, 6] rfl ?_
    refine g_widen (k := cells + (kc ν - kc ν) + 1) (n := slots + (ks ν - ks ν) + 6) (by omega) (by omega) ?_
    exact kk Ad (mn_rfl _) (kp_rfl _ _)
  · rcases cd_cons ec with ⟨e0, e1⟩ | ec
    · have hf1 : cells + (kc ν - kc ν) + 1 ≤ 299000 := hf.1
      have hf2 : slots + (ks ν - ks ν) + 6 ≤ 3090000 := hf.2
      refine g_aload_n C dL_law_844 rfl 1 rfl ?_
      refine g_aload_n C dL_law_845 rfl 0 rfl ?_
      refine g_iload C dL_law_846 4 rfl ?_
      refine g_iconst (v := 1) C dL_law_848 (by decide) ?_
      refine g_iadd C dL_law_849 ?_
      refine g_ialdX C hX hbl hbA q1.1 dL_law_850 ?_
      rw [q1.2]
      refine g_aload_n C dL_law_851 rfl 0 rfl ?_
      refine g_iload C dL_law_852 4 rfl ?_
      refine g_iconst (v := 2) C dL_law_854 (by decide) ?_
      refine g_iadd C dL_law_855 ?_
      refine g_ialdX C hX hbl hbA q2.1 dL_law_856 ?_
      rw [q2.2]
      refine g_aload_n C dL_law_857 rfl 0 rfl ?_
      refine g_iload C dL_law_858 4 rfl ?_
      refine g_iconst (v := 3) C dL_law_860 (by decide) ?_
      refine g_iadd C dL_law_861 ?_
      refine g_ialdX C hX hbl hbA q3.1 dL_law_862 ?_
      rw [q3.2]
      refine g_aload_n C dL_law_863 rfl 3 rfl ?_
      refine g_cSh (n := 5) (exr := []) C hEv hN h3 [_, _, _, _, _] _ rfl rfl [] rfl rfl (fun sz => e1_L_tagAt l hl B μ ν a Ad w x1 x2 x3 r.2 (thrS hr e0) hI.1 hI.2.1 D E sz) rfl gh_tagAt gw_0 gw_1075 gw_1076 ⟨by decide +kernel, by decide +kernel, by decide +kernel⟩ ⟨rfl, rfl⟩ ⟨Nat.le_of_ble_eq_true rfl, Nat.le_of_ble_eq_true rfl⟩ (Nat.le_of_ble_eq_true rfl) dL_law_864 (rm_hf (by omega) (by omega)) (fun r8 u hp hx => ?_)
      obtain ⟨er8, rfl⟩ := hp
      rw [er8]
      try dsimp only [List.nil_append]
      refine g_istore (lv' := [(5, .int 1), (0, .ref b), (1, .ref (Ad 0 0)), (2, .ref (Ad 40 0)), (3, .ref (Ad 90 0)), (4, .int i)]) C dL_law_867 (by decide) rfl ?_
      refine g_aload_n C dL_law_869 rfl 3 rfl ?_
      refine g_aload_n C dL_law_870 rfl 1 rfl ?_
      refine g_iload C dL_law_871 5 rfl ?_
      refine g_iconst (v := 1) C dL_law_873 (by decide) ?_
      refine g_iadd C dL_law_874 ?_
      refine g_ialdX C hX hbl hbA q1.1 dL_law_875 ?_
      rw [q1.2]
      refine g_aload_n C dL_law_876 rfl 1 rfl ?_
      refine g_iload C dL_law_877 5 rfl ?_
      refine g_iconst (v := 2) C dL_law_879 (by decide) ?_
      refine g_iadd C dL_law_880 ?_
      refine g_ialdX C hX hbl hbA q2.1 dL_law_881 ?_
      rw [q2.2]
      refine g_aload_n C dL_law_882 rfl 1 rfl ?_
      refine g_iload C dL_law_883 5 rfl ?_
      refine g_iconst (v := 3) C dL_law_885 (by decide) ?_
      refine g_iadd C dL_law_886 ?_
      refine g_ialdX C hX hbl hbA q3.1 dL_law_887 ?_
      rw [q3.2]
      refine g_cVi (n := 3) (exc := []) (exr := []) C [_, _, _] _ rfl rfl [] [] rfl rfl rfl rfl (fun _ _ h => absurd h (by simp)) (fun _ h => absurd h (by simp)) (fun _ h => absurd h (by simp)) (fun sz => zk_tagAt l μ ν a Ad hI.2.2 w x1 x2 x3 q hq D E sz) rfl gw_1631 gw_9 gw_1628 gw_1629 gw_1630 ⟨by decide +kernel, by decide +kernel, by decide +kernel⟩ ⟨rfl, rfl⟩ ⟨Nat.le_of_ble_eq_true rfl, Nat.le_of_ble_eq_true rfl⟩ (rcvT ⟨hI.2.2.1, fun e => absurd e (by decide)⟩ rfl rfl rfl) (Nat.le_of_ble_eq_true rfl) dL_law_888 (rm_hf (by omega) (by omega)) (fun r9 u hp hx => ?_)
      obtain ⟨er9, rfl⟩ := hp
      rw [er9]
      try dsimp only [List.nil_append]
      refine g_istore (lv' := [(6, .int q.2), (5, .int 1), (0, .ref b), (1, .ref (Ad 0 0)), (2, .ref (Ad 40 0)), (3, .ref (Ad 90 0)), (4, .int i)]) C dL_law_891 (by decide) rfl ?_
      refine g_aload_n C dL_law_893 rfl 4 rfl ?_
      refine g_cVi (n := 0) (exc := []) (exr := []) C [] _ rfl rfl [] [] rfl rfl rfl rfl (fun _ _ h => absurd h (by simp)) (fun _ h => absurd h (by simp)) (fun _ h => absurd h (by simp)) (fun sz => zk_thrown l μ ν q.1 Ad hI.2.2 w  t ht D E sz) rfl gw_1468 gw_9 gw_1465 gw_1466 gw_1467 ⟨by decide +kernel, by decide +kernel, by decide +kernel⟩ ⟨rfl, rfl⟩ ⟨Nat.le_of_ble_eq_true rfl, Nat.le_of_ble_eq_true rfl⟩ (rcvT ⟨hI.2.2.1, fun e => absurd e (by decide)⟩ rfl rfl rfl) (Nat.le_of_ble_eq_true rfl) dL_law_894 (rm_hf (by omega) (by omega)) (fun r9 u hp hx => ?_)
      obtain ⟨er9, rfl⟩ := hp
      rw [er9]
      try dsimp only [List.nil_append]
      refine g_iload C dL_law_897 1 rfl ?_
      refine g_icmp_eq (tgt := 904) C dL_law_899 (by decide) (fun c1 => ?_) (fun c1 => absurd e1 c1)
      refine g_iload C dL_law_904 1 rfl ?_
      refine g_if_ne (tgt := 921) C dL_law_906 (by decide) (fun c2 => ?_) (fun c2 => absurd c2 (by decide))
      refine g_goto (tgt := 2215) C dL_law_921 (by decide) ?_
      refine g_lv (lv' := [(0, .ref b), (1, .ref (Ad 0 0)), (2, .ref (Ad 40 0)), (3, .ref (Ad 90 0)), (4, .int i)]) [2, 3, 4, 5, 6] rfl ?_
      refine g_widen (k := cells + (kc ν - kc ν) + 1) (n := slots + (ks ν - ks ν) + 6) (by omega) (by omega) ?_
      exact kk Ad (mn_rfl _) (kp_rfl _ _)
    · exact cd_nil ec
noncomputable def s_valueAt (w : Nat) (μ : MP) (ν : NC) (a : AS) (x1 : Int32) (x2 : Int32) (x3 : Int32) : Option ((MP × NC) × AS) := (f_X8_valueAt w μ ν x1 x2 x3).bind fun r => (f_X9_valueAt w a x1 x2 x3).bind fun q => (f_X9_thrown w q.1).bind fun t => lwq true [(1, 1)] μ ν (r.1, ((μ, ν), r.2)) q t
set_option maxHeartbeats 4000000 in
set_option maxRecDepth 100000 in
theorem w_valueAt {p : Program} {l : Launch} {e : Env} {s : State} {m : MethodId} {args : Array Value} {below : List Frame} {meth : Method} {c : Code} {D : va_G} {E : Nat → ClassId} {A : Nat → Prop} {Q : State → Prop} {B : Nat × (Nat → Nat)} {a30 a31 : Nat} {μ : MP} {ν : NC} {a : AS} {Ad : Nat → Nat → Nat} {w : Nat} {b L : Nat} {xs : Nat → Int32} {cells slots : Nat} (C : cx p s m args meth c D E A cL_law 7 "TradeLineLaw") (hEv : eV a30 a31 B A s s.heap) (hN : vN s) (hl : l.stackTraces = false) (hI : lwI ν) (h3 : Ad 30 0 = a30 ∧ Ad 31 0 = a31) (hX : va_X b L xs s s.heap) (hbl : b < s.heap.size) (hbA : ¬ A b) {i x1 x2 x3 : Int32} (q1 : vp_in (i + 1) L ∧ xs (i + 1).toNatClampNeg = x1) (q2 : vp_in (i + 2) L ∧ xs (i + 2).toNatClampNeg = x2) (q3 : vp_in (i + 3) L ∧ xs (i + 3).toNatClampNeg = x3) {S : (MP × NC) × AS} (h : s_valueAt w μ ν a x1 x2 x3 = some S) (hf : cells + (kc S.1.2 - kc ν) + 1 ≤ 299000 ∧ slots + (ks S.1.2 - ks ν) + 6 ≤ 3090000) (kk : ∀ A1, mn ν S.1.2 → kp ν Ad A1 → G p l e room_1 s m args below meth c D E A 7 Q (zS S.1.1 S.1.2 S.2 A1) [] (cells + (kc S.1.2 - kc ν) + 1) (slots + (ks S.1.2 - ks ν) + 6) 2215 [(0, .ref b), (1, .ref (A1 0 0)), (2, .ref (A1 40 0)), (3, .ref (A1 90 0)), (4, .int i)] []) : G p l e room_1 s m args below meth c D E A 7 Q (zS μ ν a Ad) [] (cells) (slots) 924 [(0, .ref b), (1, .ref (Ad 0 0)), (2, .ref (Ad 40 0)), (3, .ref (Ad 90 0)), (4, .int i)] [] := by
  unfold s_valueAt at h
  obtain ⟨r, hr, h⟩ := bind_of h
  obtain ⟨q, hq, h⟩ := bind_of h
  obtain ⟨t, ht, h⟩ := bind_of h
  rcases lwq_t h with ⟨e0, e1, e2, rfl⟩ | ⟨ec, rfl⟩
  · replace e0 : r.1 = 0 := e0
    have hf1 : cells + (kc ν - kc ν) + 1 ≤ 299000 := hf.1
    have hf2 : slots + (ks ν - ks ν) + 6 ≤ 3090000 := hf.2
    refine g_aload_n C dL_law_924 rfl 1 rfl ?_
    refine g_aload_n C dL_law_925 rfl 0 rfl ?_
    refine g_iload C dL_law_926 4 rfl ?_
    refine g_iconst (v := 1) C dL_law_928 (by decide) ?_
    refine g_iadd C dL_law_929 ?_
    refine g_ialdX C hX hbl hbA q1.1 dL_law_930 ?_
    rw [q1.2]
    refine g_aload_n C dL_law_931 rfl 0 rfl ?_
    refine g_iload C dL_law_932 4 rfl ?_
    refine g_iconst (v := 2) C dL_law_934 (by decide) ?_
    refine g_iadd C dL_law_935 ?_
    refine g_ialdX C hX hbl hbA q2.1 dL_law_936 ?_
    rw [q2.2]
    refine g_aload_n C dL_law_937 rfl 0 rfl ?_
    refine g_iload C dL_law_938 4 rfl ?_
    refine g_iconst (v := 3) C dL_law_940 (by decide) ?_
    refine g_iadd C dL_law_941 ?_
    refine g_ialdX C hX hbl hbA q3.1 dL_law_942 ?_
    rw [q3.2]
    refine g_aload_n C dL_law_943 rfl 3 rfl ?_
    refine g_cSh (n := 5) (exr := []) C hEv hN h3 [_, _, _, _, _] _ rfl rfl [] rfl rfl (fun sz => r_L_valueAt l B μ ν a Ad w x1 x2 x3 r.2 (thr0 hr e0) hI.1 hI.2.1 D E sz) rfl gh_valueAt gw_0 gw_1088 gw_1089 ⟨by decide +kernel, by decide +kernel, by decide +kernel⟩ ⟨rfl, rfl⟩ ⟨Nat.le_of_ble_eq_true rfl, Nat.le_of_ble_eq_true rfl⟩ (Nat.le_of_ble_eq_true rfl) dL_law_944 (rm_hf (by omega) (by omega)) (fun r8 u hp hx => ?_)
    obtain ⟨er8, rfl⟩ := hp
    rw [er8]
    try dsimp only [List.nil_append]
    refine g_istore (lv' := [(5, .int 0), (0, .ref b), (1, .ref (Ad 0 0)), (2, .ref (Ad 40 0)), (3, .ref (Ad 90 0)), (4, .int i)]) C dL_law_947 (by decide) rfl ?_
    refine g_aload_n C dL_law_949 rfl 3 rfl ?_
    refine g_aload_n C dL_law_950 rfl 1 rfl ?_
    refine g_iload C dL_law_951 5 rfl ?_
    refine g_iconst (v := 1) C dL_law_953 (by decide) ?_
    refine g_iadd C dL_law_954 ?_
    refine g_ialdX C hX hbl hbA q1.1 dL_law_955 ?_
    rw [q1.2]
    refine g_aload_n C dL_law_956 rfl 1 rfl ?_
    refine g_iload C dL_law_957 5 rfl ?_
    refine g_iconst (v := 2) C dL_law_959 (by decide) ?_
    refine g_iadd C dL_law_960 ?_
    refine g_ialdX C hX hbl hbA q2.1 dL_law_961 ?_
    rw [q2.2]
    refine g_aload_n C dL_law_962 rfl 1 rfl ?_
    refine g_iload C dL_law_963 5 rfl ?_
    refine g_iconst (v := 3) C dL_law_965 (by decide) ?_
    refine g_iadd C dL_law_966 ?_
    refine g_ialdX C hX hbl hbA q3.1 dL_law_967 ?_
    rw [q3.2]
    refine g_cVi (n := 3) (exc := []) (exr := []) C [_, _, _] _ rfl rfl [] [] rfl rfl rfl rfl (fun _ _ h => absurd h (by simp)) (fun _ h => absurd h (by simp)) (fun _ h => absurd h (by simp)) (fun sz => zk_valueAt l (up3 μ.1 90 0 0 r.2, μ.2) ν a Ad hI.2.2 w x1 x2 x3 q hq D E sz) rfl gw_1651 gw_9 gw_1648 gw_1649 gw_1650 ⟨by decide +kernel, by decide +kernel, by decide +kernel⟩ ⟨rfl, rfl⟩ ⟨Nat.le_of_ble_eq_true rfl, Nat.le_of_ble_eq_true rfl⟩ (rcvT ⟨hI.2.2.1, fun e => absurd e (by decide)⟩ rfl rfl rfl) (Nat.le_of_ble_eq_true rfl) dL_law_968 (rm_hf (by omega) (by omega)) (fun r9 u hp hx => ?_)
    obtain ⟨er9, rfl⟩ := hp
    rw [er9]
    try dsimp only [List.nil_append]
    refine g_istore (lv' := [(6, .int q.2), (5, .int 0), (0, .ref b), (1, .ref (Ad 0 0)), (2, .ref (Ad 40 0)), (3, .ref (Ad 90 0)), (4, .int i)]) C dL_law_971 (by decide) rfl ?_
    refine g_aload_n C dL_law_973 rfl 4 rfl ?_
    refine g_cVi (n := 0) (exc := []) (exr := []) C [] _ rfl rfl [] [] rfl rfl rfl rfl (fun _ _ h => absurd h (by simp)) (fun _ h => absurd h (by simp)) (fun _ h => absurd h (by simp)) (fun sz => zk_thrown l (up3 μ.1 90 0 0 r.2, μ.2) ν q.1 Ad hI.2.2 w  t ht D E sz) rfl gw_1468 gw_9 gw_1465 gw_1466 gw_1467 ⟨by decide +kernel, by decide +kernel, by decide +kernel⟩ ⟨rfl, rfl⟩ ⟨Nat.le_of_ble_eq_true rfl, Nat.le_of_ble_eq_true rfl⟩ (rcvT ⟨hI.2.2.1, fun e => absurd e (by decide)⟩ rfl rfl rfl) (Nat.le_of_ble_eq_true rfl) dL_law_974 (rm_hf (by omega) (by omega)) (fun r9 u hp hx => ?_)
    obtain ⟨er9, rfl⟩ := hp
    rw [er9]
    try dsimp only [List.nil_append]
    refine g_iload C dL_law_977 1 rfl ?_
    refine g_icmp_eq (tgt := 984) C dL_law_979 (by decide) (fun c1 => ?_) (fun c1 => absurd e1 c1)
    refine g_iload C dL_law_984 1 rfl ?_
    refine g_if_ne (tgt := 1001) C dL_law_986 (by decide) (fun c2 => absurd rfl c2) (fun c2 => ?_)
    refine g_aload_n C dL_law_989 rfl 5 rfl ?_
    refine g_iconst (v := 0) C dL_law_990 (by decide) ?_
    refine g_lald (μ := (up3 μ.1 90 0 0 r.2, μ.2)) (ν := ν) (a := q.1) (Ad := Ad) C rfl hI.2.1 dL_law_991 ?_
    refine g_iload C dL_law_992 0 rfl ?_
    refine g_i2l C dL_law_994 rfl ?_
    refine g_lcmp C dL_law_995 (fun r7 e7 => ?_)
    refine g_if_eq (tgt := 1001) C dL_law_996 (by decide) (fun c3 => ?_) (fun c3 => absurd (e7.mpr (congrArg Int32.toInt64 (show up3 μ.1 90 0 0 r.2 90 0 0 = _ from (up3_90 _ _).trans e2))) c3)
    refine g_goto (tgt := 2215) C dL_law_1001 (by decide) ?_
    refine g_lv (lv' := [(0, .ref b), (1, .ref (Ad 0 0)), (2, .ref (Ad 40 0)), (3, .ref (Ad 90 0)), (4, .int i)]) [2, 3, 4, 5, 6] rfl ?_
    refine g_widen (k := cells + (kc ν - kc ν) + 1) (n := slots + (ks ν - ks ν) + 6) (by omega) (by omega) ?_
    exact kk Ad (mn_rfl _) (kp_rfl _ _)
  · rcases cd_cons ec with ⟨e0, e1⟩ | ec
    · have hf1 : cells + (kc ν - kc ν) + 1 ≤ 299000 := hf.1
      have hf2 : slots + (ks ν - ks ν) + 6 ≤ 3090000 := hf.2
      refine g_aload_n C dL_law_924 rfl 1 rfl ?_
      refine g_aload_n C dL_law_925 rfl 0 rfl ?_
      refine g_iload C dL_law_926 4 rfl ?_
      refine g_iconst (v := 1) C dL_law_928 (by decide) ?_
      refine g_iadd C dL_law_929 ?_
      refine g_ialdX C hX hbl hbA q1.1 dL_law_930 ?_
      rw [q1.2]
      refine g_aload_n C dL_law_931 rfl 0 rfl ?_
      refine g_iload C dL_law_932 4 rfl ?_
      refine g_iconst (v := 2) C dL_law_934 (by decide) ?_
      refine g_iadd C dL_law_935 ?_
      refine g_ialdX C hX hbl hbA q2.1 dL_law_936 ?_
      rw [q2.2]
      refine g_aload_n C dL_law_937 rfl 0 rfl ?_
      refine g_iload C dL_law_938 4 rfl ?_
      refine g_iconst (v := 3) C dL_law_940 (by decide) ?_
      refine g_iadd C dL_law_941 ?_
      refine g_ialdX C hX hbl hbA q3.1 dL_law_942 ?_
      rw [q3.2]
      refine g_aload_n C dL_law_943 rfl 3 rfl ?_
      refine g_cSh (n := 5) (exr := []) C hEv hN h3 [_, _, _, _, _] _ rfl rfl [] rfl rfl (fun sz => e1_L_valueAt l hl B μ ν a Ad w x1 x2 x3 r.2 (thrS hr e0) hI.1 hI.2.1 D E sz) rfl gh_valueAt gw_0 gw_1088 gw_1089 ⟨by decide +kernel, by decide +kernel, by decide +kernel⟩ ⟨rfl, rfl⟩ ⟨Nat.le_of_ble_eq_true rfl, Nat.le_of_ble_eq_true rfl⟩ (Nat.le_of_ble_eq_true rfl) dL_law_944 (rm_hf (by omega) (by omega)) (fun r8 u hp hx => ?_)
      obtain ⟨er8, rfl⟩ := hp
      rw [er8]
      try dsimp only [List.nil_append]
      refine g_istore (lv' := [(5, .int 1), (0, .ref b), (1, .ref (Ad 0 0)), (2, .ref (Ad 40 0)), (3, .ref (Ad 90 0)), (4, .int i)]) C dL_law_947 (by decide) rfl ?_
      refine g_aload_n C dL_law_949 rfl 3 rfl ?_
      refine g_aload_n C dL_law_950 rfl 1 rfl ?_
      refine g_iload C dL_law_951 5 rfl ?_
      refine g_iconst (v := 1) C dL_law_953 (by decide) ?_
      refine g_iadd C dL_law_954 ?_
      refine g_ialdX C hX hbl hbA q1.1 dL_law_955 ?_
      rw [q1.2]
      refine g_aload_n C dL_law_956 rfl 1 rfl ?_
      refine g_iload C dL_law_957 5 rfl ?_
      refine g_iconst (v := 2) C dL_law_959 (by decide) ?_
      refine g_iadd C dL_law_960 ?_
      refine g_ialdX C hX hbl hbA q2.1 dL_law_961 ?_
      rw [q2.2]
      refine g_aload_n C dL_law_962 rfl 1 rfl ?_
      refine g_iload C dL_law_963 5 rfl ?_
      refine g_iconst (v := 3) C dL_law_965 (by decide) ?_
      refine g_iadd C dL_law_966 ?_
      refine g_ialdX C hX hbl hbA q3.1 dL_law_967 ?_
      rw [q3.2]
      refine g_cVi (n := 3) (exc := []) (exr := []) C [_, _, _] _ rfl rfl [] [] rfl rfl rfl rfl (fun _ _ h => absurd h (by simp)) (fun _ h => absurd h (by simp)) (fun _ h => absurd h (by simp)) (fun sz => zk_valueAt l μ ν a Ad hI.2.2 w x1 x2 x3 q hq D E sz) rfl gw_1651 gw_9 gw_1648 gw_1649 gw_1650 ⟨by decide +kernel, by decide +kernel, by decide +kernel⟩ ⟨rfl, rfl⟩ ⟨Nat.le_of_ble_eq_true rfl, Nat.le_of_ble_eq_true rfl⟩ (rcvT ⟨hI.2.2.1, fun e => absurd e (by decide)⟩ rfl rfl rfl) (Nat.le_of_ble_eq_true rfl) dL_law_968 (rm_hf (by omega) (by omega)) (fun r9 u hp hx => ?_)
      obtain ⟨er9, rfl⟩ := hp
      rw [er9]
      try dsimp only [List.nil_append]
      refine g_istore (lv' := [(6, .int q.2), (5, .int 1), (0, .ref b), (1, .ref (Ad 0 0)), (2, .ref (Ad 40 0)), (3, .ref (Ad 90 0)), (4, .int i)]) C dL_law_971 (by decide) rfl ?_
      refine g_aload_n C dL_law_973 rfl 4 rfl ?_
      refine g_cVi (n := 0) (exc := []) (exr := []) C [] _ rfl rfl [] [] rfl rfl rfl rfl (fun _ _ h => absurd h (by simp)) (fun _ h => absurd h (by simp)) (fun _ h => absurd h (by simp)) (fun sz => zk_thrown l μ ν q.1 Ad hI.2.2 w  t ht D E sz) rfl gw_1468 gw_9 gw_1465 gw_1466 gw_1467 ⟨by decide +kernel, by decide +kernel, by decide +kernel⟩ ⟨rfl, rfl⟩ ⟨Nat.le_of_ble_eq_true rfl, Nat.le_of_ble_eq_true rfl⟩ (rcvT ⟨hI.2.2.1, fun e => absurd e (by decide)⟩ rfl rfl rfl) (Nat.le_of_ble_eq_true rfl) dL_law_974 (rm_hf (by omega) (by omega)) (fun r9 u hp hx => ?_)
      obtain ⟨er9, rfl⟩ := hp
      rw [er9]
      try dsimp only [List.nil_append]
      refine g_iload C dL_law_977 1 rfl ?_
      refine g_icmp_eq (tgt := 984) C dL_law_979 (by decide) (fun c1 => ?_) (fun c1 => absurd e1 c1)
      refine g_iload C dL_law_984 1 rfl ?_
      refine g_if_ne (tgt := 1001) C dL_law_986 (by decide) (fun c2 => ?_) (fun c2 => absurd c2 (by decide))
      refine g_goto (tgt := 2215) C dL_law_1001 (by decide) ?_
      refine g_lv (lv' := [(0, .ref b), (1, .ref (Ad 0 0)), (2, .ref (Ad 40 0)), (3, .ref (Ad 90 0)), (4, .int i)]) [2, 3, 4, 5, 6] rfl ?_
      refine g_widen (k := cells + (kc ν - kc ν) + 1) (n := slots + (ks ν - ks ν) + 6) (by omega) (by omega) ?_
      exact kk Ad (mn_rfl _) (kp_rfl _ _)
    · exact cd_nil ec
noncomputable def s_order (w : Nat) (μ : MP) (ν : NC) (a : AS) (x1 : Int32) (x2 : Int32) (x3 : Int32) : Option ((MP × NC) × AS) := (f_X8_order w μ ν (nz x1) x2 x3).bind fun r => (f_X9_order w a (nz x1) x2 x3).bind fun q => (f_X9_thrown w q.1).bind fun t => lwq true [(2, 1), (3, 2)] μ ν (r.1, r.2) q t
set_option maxHeartbeats 4000000 in
set_option maxRecDepth 100000 in
theorem w_order {p : Program} {l : Launch} {e : Env} {s : State} {m : MethodId} {args : Array Value} {below : List Frame} {meth : Method} {c : Code} {D : va_G} {E : Nat → ClassId} {A : Nat → Prop} {Q : State → Prop} {B : Nat × (Nat → Nat)} {a30 a31 : Nat} {μ : MP} {ν : NC} {a : AS} {Ad : Nat → Nat → Nat} {w : Nat} {b L : Nat} {xs : Nat → Int32} {cells slots : Nat} (C : cx p s m args meth c D E A cL_law 7 "TradeLineLaw") (hEv : eV a30 a31 B A s s.heap) (hN : vN s) (hl : l.stackTraces = false) (hI : lwI ν) (h3 : Ad 30 0 = a30 ∧ Ad 31 0 = a31) (hX : va_X b L xs s s.heap) (hbl : b < s.heap.size) (hbA : ¬ A b) {i x1 x2 x3 : Int32} (q1 : vp_in (i + 1) L ∧ xs (i + 1).toNatClampNeg = x1) (q2 : vp_in (i + 2) L ∧ xs (i + 2).toNatClampNeg = x2) (q3 : vp_in (i + 3) L ∧ xs (i + 3).toNatClampNeg = x3) {S : (MP × NC) × AS} (h : s_order w μ ν a x1 x2 x3 = some S) (hf : cells + (kc S.1.2 - kc ν) + 1 ≤ 299000 ∧ slots + (ks S.1.2 - ks ν) + 6 ≤ 3090000) (kk : ∀ A1, mn ν S.1.2 → kp ν Ad A1 → G p l e room_1 s m args below meth c D E A 7 Q (zS S.1.1 S.1.2 S.2 A1) [] (cells + (kc S.1.2 - kc ν) + 1) (slots + (ks S.1.2 - ks ν) + 6) 2215 [(0, .ref b), (1, .ref (A1 0 0)), (2, .ref (A1 40 0)), (3, .ref (A1 90 0)), (4, .int i)] []) : G p l e room_1 s m args below meth c D E A 7 Q (zS μ ν a Ad) [] (cells) (slots) 1004 [(0, .ref b), (1, .ref (Ad 0 0)), (2, .ref (Ad 40 0)), (3, .ref (Ad 90 0)), (4, .int i)] [] := by
  unfold s_order at h
  obtain ⟨r, hr, h⟩ := bind_of h
  obtain ⟨q, hq, h⟩ := bind_of h
  obtain ⟨t, ht, h⟩ := bind_of h
  rcases lwq_t h with ⟨e0, e1, e2, rfl⟩ | ⟨ec, rfl⟩
  · replace e0 : r.1 = 0 := e0
    have hf1 : cells + (kc r.2.1.2 - kc ν) + 1 ≤ 299000 := hf.1
    have hf2 : slots + (ks r.2.1.2 - ks ν) + 6 ≤ 3090000 := hf.2
    refine g_aload_n C dL_law_1004 rfl 1 rfl ?_
    refine g_aload_n C dL_law_1005 rfl 0 rfl ?_
    refine g_iload C dL_law_1006 4 rfl ?_
    refine g_iconst (v := 1) C dL_law_1008 (by decide) ?_
    refine g_iadd C dL_law_1009 ?_
    refine g_ialdX C hX hbl hbA q1.1 dL_law_1010 ?_
    rw [q1.2]
    refine g_nz C dL_law_1011 dL_law_1014 dL_law_1015 dL_law_1018 ?_
    refine g_aload_n C dL_law_1019 rfl 0 rfl ?_
    refine g_iload C dL_law_1020 4 rfl ?_
    refine g_iconst (v := 2) C dL_law_1022 (by decide) ?_
    refine g_iadd C dL_law_1023 ?_
    refine g_ialdX C hX hbl hbA q2.1 dL_law_1024 ?_
    rw [q2.2]
    refine g_aload_n C dL_law_1025 rfl 0 rfl ?_
    refine g_iload C dL_law_1026 4 rfl ?_
    refine g_iconst (v := 3) C dL_law_1028 (by decide) ?_
    refine g_iadd C dL_law_1029 ?_
    refine g_ialdX C hX hbl hbA q3.1 dL_law_1030 ?_
    rw [q3.2]
    refine g_aload_n C dL_law_1031 rfl 3 rfl ?_
    refine g_cSh (n := 5) (exr := []) C hEv hN h3 [_, _, _, _, _] _ rfl rfl [] rfl rfl (fun sz => r_L_order l B μ ν a Ad w (nz x1) x2 x3 r.2 (thr0 hr e0) hI.1 hI.2.1 D E sz) rfl gh_order gw_0 gw_1095 gw_1096 ⟨by decide +kernel, by decide +kernel, by decide +kernel⟩ ⟨rfl, rfl⟩ ⟨Nat.le_of_ble_eq_true rfl, Nat.le_of_ble_eq_true rfl⟩ (Nat.le_of_ble_eq_true rfl) dL_law_1032 (rm_hf (by omega) (by omega)) (fun r8 u hp hx => ?_)
    obtain ⟨er8, A1, rfl, hkp⟩ := hp
    rw [er8]
    try dsimp only [List.nil_append]
    have hm : mn ν r.2.1.2 := m_X8_order (thr0 hr e0)
    have hI1 := lwI_mn hI hm
    rw [show Ad 0 0 = A1 0 0 from (hkp.1 0 0 rfl hI.1).symm, show Ad 40 0 = A1 40 0 from (hkp.1 40 0 rfl hI.2.2.1).symm, show Ad 90 0 = A1 90 0 from (hkp.1 90 0 rfl hI.2.1.1).symm]
    refine g_istore (lv' := [(5, .int 0), (0, .ref b), (1, .ref (A1 0 0)), (2, .ref (A1 40 0)), (3, .ref (A1 90 0)), (4, .int i)]) C dL_law_1035 (by decide) rfl ?_
    refine g_aload_n C dL_law_1037 rfl 3 rfl ?_
    refine g_aload_n C dL_law_1038 rfl 1 rfl ?_
    refine g_iload C dL_law_1039 5 rfl ?_
    refine g_iconst (v := 1) C dL_law_1041 (by decide) ?_
    refine g_iadd C dL_law_1042 ?_
    refine g_ialdX C hX hbl hbA q1.1 dL_law_1043 ?_
    rw [q1.2]
    refine g_nz C dL_law_1044 dL_law_1047 dL_law_1048 dL_law_1051 ?_
    refine g_aload_n C dL_law_1052 rfl 1 rfl ?_
    refine g_iload C dL_law_1053 5 rfl ?_
    refine g_iconst (v := 2) C dL_law_1055 (by decide) ?_
    refine g_iadd C dL_law_1056 ?_
    refine g_ialdX C hX hbl hbA q2.1 dL_law_1057 ?_
    rw [q2.2]
    refine g_aload_n C dL_law_1058 rfl 1 rfl ?_
    refine g_iload C dL_law_1059 5 rfl ?_
    refine g_iconst (v := 3) C dL_law_1061 (by decide) ?_
    refine g_iadd C dL_law_1062 ?_
    refine g_ialdX C hX hbl hbA q3.1 dL_law_1063 ?_
    rw [q3.2]
    refine g_cVi (n := 3) (exc := []) (exr := []) C [_, _, _] _ rfl rfl [] [] rfl rfl rfl rfl (fun _ _ h => absurd h (by simp)) (fun _ h => absurd h (by simp)) (fun _ h => absurd h (by simp)) (fun sz => zk_order l (up3 r.2.1.1.1 90 0 0 r.2.2, r.2.1.1.2) r.2.1.2 a A1 hI1.2.2 w (nz x1) x2 x3 q hq D E sz) rfl gw_1667 gw_9 gw_1664 gw_1665 gw_1666 ⟨by decide +kernel, by decide +kernel, by decide +kernel⟩ ⟨rfl, rfl⟩ ⟨Nat.le_of_ble_eq_true rfl, Nat.le_of_ble_eq_true rfl⟩ (rcvT ⟨hI1.2.2.1, fun e => absurd e (by decide)⟩ rfl rfl rfl) (Nat.le_of_ble_eq_true rfl) dL_law_1064 (rm_hf (by omega) (by omega)) (fun r9 u hp hx => ?_)
    obtain ⟨er9, rfl⟩ := hp
    rw [er9]
    try dsimp only [List.nil_append]
    refine g_istore (lv' := [(6, .int q.2), (5, .int 0), (0, .ref b), (1, .ref (A1 0 0)), (2, .ref (A1 40 0)), (3, .ref (A1 90 0)), (4, .int i)]) C dL_law_1067 (by decide) rfl ?_
    refine g_aload_n C dL_law_1069 rfl 4 rfl ?_
    refine g_cVi (n := 0) (exc := []) (exr := []) C [] _ rfl rfl [] [] rfl rfl rfl rfl (fun _ _ h => absurd h (by simp)) (fun _ h => absurd h (by simp)) (fun _ h => absurd h (by simp)) (fun sz => zk_thrown l (up3 r.2.1.1.1 90 0 0 r.2.2, r.2.1.1.2) r.2.1.2 q.1 A1 hI1.2.2 w  t ht D E sz) rfl gw_1468 gw_9 gw_1465 gw_1466 gw_1467 ⟨by decide +kernel, by decide +kernel, by decide +kernel⟩ ⟨rfl, rfl⟩ ⟨Nat.le_of_ble_eq_true rfl, Nat.le_of_ble_eq_true rfl⟩ (rcvT ⟨hI1.2.2.1, fun e => absurd e (by decide)⟩ rfl rfl rfl) (Nat.le_of_ble_eq_true rfl) dL_law_1070 (rm_hf (by omega) (by omega)) (fun r9 u hp hx => ?_)
    obtain ⟨er9, rfl⟩ := hp
    rw [er9]
    try dsimp only [List.nil_append]
    refine g_iload C dL_law_1073 1 rfl ?_
    refine g_icmp_eq (tgt := 1080) C dL_law_1075 (by decide) (fun c1 => ?_) (fun c1 => absurd e1 c1)
    refine g_iload C dL_law_1080 1 rfl ?_
    refine g_if_ne (tgt := 1097) C dL_law_1082 (by decide) (fun c2 => absurd rfl c2) (fun c2 => ?_)
    refine g_aload_n C dL_law_1085 rfl 5 rfl ?_
    refine g_iconst (v := 0) C dL_law_1086 (by decide) ?_
    refine g_lald (μ := (up3 r.2.1.1.1 90 0 0 r.2.2, r.2.1.1.2)) (ν := r.2.1.2) (a := q.1) (Ad := A1) C rfl hI1.2.1 dL_law_1087 ?_
    refine g_iload C dL_law_1088 0 rfl ?_
    refine g_i2l C dL_law_1090 rfl ?_
    refine g_lcmp C dL_law_1091 (fun r7 e7 => ?_)
    refine g_if_eq (tgt := 1097) C dL_law_1092 (by decide) (fun c3 => ?_) (fun c3 => absurd (e7.mpr (congrArg Int32.toInt64 (show up3 r.2.1.1.1 90 0 0 r.2.2 90 0 0 = _ from (up3_90 _ _).trans e2))) c3)
    refine g_goto (tgt := 2215) C dL_law_1097 (by decide) ?_
    refine g_lv (lv' := [(0, .ref b), (1, .ref (A1 0 0)), (2, .ref (A1 40 0)), (3, .ref (A1 90 0)), (4, .int i)]) [2, 3, 4, 5, 6] rfl ?_
    refine g_widen (k := cells + (kc r.2.1.2 - kc ν) + 1) (n := slots + (ks r.2.1.2 - ks ν) + 6) (by omega) (by omega) ?_
    exact kk A1 hm hkp
  · rcases cd_cons ec with ⟨e0, e1⟩ | ec
    · have hf1 : cells + (kc ν - kc ν) + 1 ≤ 299000 := hf.1
      have hf2 : slots + (ks ν - ks ν) + 6 ≤ 3090000 := hf.2
      refine g_aload_n C dL_law_1004 rfl 1 rfl ?_
      refine g_aload_n C dL_law_1005 rfl 0 rfl ?_
      refine g_iload C dL_law_1006 4 rfl ?_
      refine g_iconst (v := 1) C dL_law_1008 (by decide) ?_
      refine g_iadd C dL_law_1009 ?_
      refine g_ialdX C hX hbl hbA q1.1 dL_law_1010 ?_
      rw [q1.2]
      refine g_nz C dL_law_1011 dL_law_1014 dL_law_1015 dL_law_1018 ?_
      refine g_aload_n C dL_law_1019 rfl 0 rfl ?_
      refine g_iload C dL_law_1020 4 rfl ?_
      refine g_iconst (v := 2) C dL_law_1022 (by decide) ?_
      refine g_iadd C dL_law_1023 ?_
      refine g_ialdX C hX hbl hbA q2.1 dL_law_1024 ?_
      rw [q2.2]
      refine g_aload_n C dL_law_1025 rfl 0 rfl ?_
      refine g_iload C dL_law_1026 4 rfl ?_
      refine g_iconst (v := 3) C dL_law_1028 (by decide) ?_
      refine g_iadd C dL_law_1029 ?_
      refine g_ialdX C hX hbl hbA q3.1 dL_law_1030 ?_
      rw [q3.2]
      refine g_aload_n C dL_law_1031 rfl 3 rfl ?_
      refine g_cSh (n := 5) (exr := []) C hEv hN h3 [_, _, _, _, _] _ rfl rfl [] rfl rfl (fun sz => e2_L_order l hl B μ ν a Ad w (nz x1) x2 x3 r.2 (thrS hr e0) hI.1 hI.2.1 D E sz) rfl gh_order gw_0 gw_1095 gw_1096 ⟨by decide +kernel, by decide +kernel, by decide +kernel⟩ ⟨rfl, rfl⟩ ⟨Nat.le_of_ble_eq_true rfl, Nat.le_of_ble_eq_true rfl⟩ (Nat.le_of_ble_eq_true rfl) dL_law_1032 (rm_hf (by omega) (by omega)) (fun r8 u hp hx => ?_)
      obtain ⟨er8, rfl⟩ := hp
      rw [er8]
      try dsimp only [List.nil_append]
      refine g_istore (lv' := [(5, .int 1), (0, .ref b), (1, .ref (Ad 0 0)), (2, .ref (Ad 40 0)), (3, .ref (Ad 90 0)), (4, .int i)]) C dL_law_1035 (by decide) rfl ?_
      refine g_aload_n C dL_law_1037 rfl 3 rfl ?_
      refine g_aload_n C dL_law_1038 rfl 1 rfl ?_
      refine g_iload C dL_law_1039 5 rfl ?_
      refine g_iconst (v := 1) C dL_law_1041 (by decide) ?_
      refine g_iadd C dL_law_1042 ?_
      refine g_ialdX C hX hbl hbA q1.1 dL_law_1043 ?_
      rw [q1.2]
      refine g_nz C dL_law_1044 dL_law_1047 dL_law_1048 dL_law_1051 ?_
      refine g_aload_n C dL_law_1052 rfl 1 rfl ?_
      refine g_iload C dL_law_1053 5 rfl ?_
      refine g_iconst (v := 2) C dL_law_1055 (by decide) ?_
      refine g_iadd C dL_law_1056 ?_
      refine g_ialdX C hX hbl hbA q2.1 dL_law_1057 ?_
      rw [q2.2]
      refine g_aload_n C dL_law_1058 rfl 1 rfl ?_
      refine g_iload C dL_law_1059 5 rfl ?_
      refine g_iconst (v := 3) C dL_law_1061 (by decide) ?_
      refine g_iadd C dL_law_1062 ?_
      refine g_ialdX C hX hbl hbA q3.1 dL_law_1063 ?_
      rw [q3.2]
      refine g_cVi (n := 3) (exc := []) (exr := []) C [_, _, _] _ rfl rfl [] [] rfl rfl rfl rfl (fun _ _ h => absurd h (by simp)) (fun _ h => absurd h (by simp)) (fun _ h => absurd h (by simp)) (fun sz => zk_order l μ ν a Ad hI.2.2 w (nz x1) x2 x3 q hq D E sz) rfl gw_1667 gw_9 gw_1664 gw_1665 gw_1666 ⟨by decide +kernel, by decide +kernel, by decide +kernel⟩ ⟨rfl, rfl⟩ ⟨Nat.le_of_ble_eq_true rfl, Nat.le_of_ble_eq_true rfl⟩ (rcvT ⟨hI.2.2.1, fun e => absurd e (by decide)⟩ rfl rfl rfl) (Nat.le_of_ble_eq_true rfl) dL_law_1064 (rm_hf (by omega) (by omega)) (fun r9 u hp hx => ?_)
      obtain ⟨er9, rfl⟩ := hp
      rw [er9]
      try dsimp only [List.nil_append]
      refine g_istore (lv' := [(6, .int q.2), (5, .int 1), (0, .ref b), (1, .ref (Ad 0 0)), (2, .ref (Ad 40 0)), (3, .ref (Ad 90 0)), (4, .int i)]) C dL_law_1067 (by decide) rfl ?_
      refine g_aload_n C dL_law_1069 rfl 4 rfl ?_
      refine g_cVi (n := 0) (exc := []) (exr := []) C [] _ rfl rfl [] [] rfl rfl rfl rfl (fun _ _ h => absurd h (by simp)) (fun _ h => absurd h (by simp)) (fun _ h => absurd h (by simp)) (fun sz => zk_thrown l μ ν q.1 Ad hI.2.2 w  t ht D E sz) rfl gw_1468 gw_9 gw_1465 gw_1466 gw_1467 ⟨by decide +kernel, by decide +kernel, by decide +kernel⟩ ⟨rfl, rfl⟩ ⟨Nat.le_of_ble_eq_true rfl, Nat.le_of_ble_eq_true rfl⟩ (rcvT ⟨hI.2.2.1, fun e => absurd e (by decide)⟩ rfl rfl rfl) (Nat.le_of_ble_eq_true rfl) dL_law_1070 (rm_hf (by omega) (by omega)) (fun r9 u hp hx => ?_)
      obtain ⟨er9, rfl⟩ := hp
      rw [er9]
      try dsimp only [List.nil_append]
      refine g_iload C dL_law_1073 1 rfl ?_
      refine g_icmp_eq (tgt := 1080) C dL_law_1075 (by decide) (fun c1 => ?_) (fun c1 => absurd e1 c1)
      refine g_iload C dL_law_1080 1 rfl ?_
      refine g_if_ne (tgt := 1097) C dL_law_1082 (by decide) (fun c2 => ?_) (fun c2 => absurd c2 (by decide))
      refine g_goto (tgt := 2215) C dL_law_1097 (by decide) ?_
      refine g_lv (lv' := [(0, .ref b), (1, .ref (Ad 0 0)), (2, .ref (Ad 40 0)), (3, .ref (Ad 90 0)), (4, .int i)]) [2, 3, 4, 5, 6] rfl ?_
      refine g_widen (k := cells + (kc ν - kc ν) + 1) (n := slots + (ks ν - ks ν) + 6) (by omega) (by omega) ?_
      exact kk Ad (mn_rfl _) (kp_rfl _ _)
    · skip
      rcases cd_cons ec with ⟨e0, e1⟩ | ec
      · have hf1 : cells + (kc ν - kc ν) + 1 ≤ 299000 := hf.1
        have hf2 : slots + (ks ν - ks ν) + 6 ≤ 3090000 := hf.2
        refine g_aload_n C dL_law_1004 rfl 1 rfl ?_
        refine g_aload_n C dL_law_1005 rfl 0 rfl ?_
        refine g_iload C dL_law_1006 4 rfl ?_
        refine g_iconst (v := 1) C dL_law_1008 (by decide) ?_
        refine g_iadd C dL_law_1009 ?_
        refine g_ialdX C hX hbl hbA q1.1 dL_law_1010 ?_
        rw [q1.2]
        refine g_nz C dL_law_1011 dL_law_1014 dL_law_1015 dL_law_1018 ?_
        refine g_aload_n C dL_law_1019 rfl 0 rfl ?_
        refine g_iload C dL_law_1020 4 rfl ?_
        refine g_iconst (v := 2) C dL_law_1022 (by decide) ?_
        refine g_iadd C dL_law_1023 ?_
        refine g_ialdX C hX hbl hbA q2.1 dL_law_1024 ?_
        rw [q2.2]
        refine g_aload_n C dL_law_1025 rfl 0 rfl ?_
        refine g_iload C dL_law_1026 4 rfl ?_
        refine g_iconst (v := 3) C dL_law_1028 (by decide) ?_
        refine g_iadd C dL_law_1029 ?_
        refine g_ialdX C hX hbl hbA q3.1 dL_law_1030 ?_
        rw [q3.2]
        refine g_aload_n C dL_law_1031 rfl 3 rfl ?_
        refine g_cSh (n := 5) (exr := []) C hEv hN h3 [_, _, _, _, _] _ rfl rfl [] rfl rfl (fun sz => e3_L_order l hl B μ ν a Ad w (nz x1) x2 x3 r.2 (thrS hr e0) hI.1 hI.2.1 D E sz) rfl gh_order gw_0 gw_1095 gw_1096 ⟨by decide +kernel, by decide +kernel, by decide +kernel⟩ ⟨rfl, rfl⟩ ⟨Nat.le_of_ble_eq_true rfl, Nat.le_of_ble_eq_true rfl⟩ (Nat.le_of_ble_eq_true rfl) dL_law_1032 (rm_hf (by omega) (by omega)) (fun r8 u hp hx => ?_)
        obtain ⟨er8, rfl⟩ := hp
        rw [er8]
        try dsimp only [List.nil_append]
        refine g_istore (lv' := [(5, .int 2), (0, .ref b), (1, .ref (Ad 0 0)), (2, .ref (Ad 40 0)), (3, .ref (Ad 90 0)), (4, .int i)]) C dL_law_1035 (by decide) rfl ?_
        refine g_aload_n C dL_law_1037 rfl 3 rfl ?_
        refine g_aload_n C dL_law_1038 rfl 1 rfl ?_
        refine g_iload C dL_law_1039 5 rfl ?_
        refine g_iconst (v := 1) C dL_law_1041 (by decide) ?_
        refine g_iadd C dL_law_1042 ?_
        refine g_ialdX C hX hbl hbA q1.1 dL_law_1043 ?_
        rw [q1.2]
        refine g_nz C dL_law_1044 dL_law_1047 dL_law_1048 dL_law_1051 ?_
        refine g_aload_n C dL_law_1052 rfl 1 rfl ?_
        refine g_iload C dL_law_1053 5 rfl ?_
        refine g_iconst (v := 2) C dL_law_1055 (by decide) ?_
        refine g_iadd C dL_law_1056 ?_
        refine g_ialdX C hX hbl hbA q2.1 dL_law_1057 ?_
        rw [q2.2]
        refine g_aload_n C dL_law_1058 rfl 1 rfl ?_
        refine g_iload C dL_law_1059 5 rfl ?_
        refine g_iconst (v := 3) C dL_law_1061 (by decide) ?_
        refine g_iadd C dL_law_1062 ?_
        refine g_ialdX C hX hbl hbA q3.1 dL_law_1063 ?_
        rw [q3.2]
        refine g_cVi (n := 3) (exc := []) (exr := []) C [_, _, _] _ rfl rfl [] [] rfl rfl rfl rfl (fun _ _ h => absurd h (by simp)) (fun _ h => absurd h (by simp)) (fun _ h => absurd h (by simp)) (fun sz => zk_order l μ ν a Ad hI.2.2 w (nz x1) x2 x3 q hq D E sz) rfl gw_1667 gw_9 gw_1664 gw_1665 gw_1666 ⟨by decide +kernel, by decide +kernel, by decide +kernel⟩ ⟨rfl, rfl⟩ ⟨Nat.le_of_ble_eq_true rfl, Nat.le_of_ble_eq_true rfl⟩ (rcvT ⟨hI.2.2.1, fun e => absurd e (by decide)⟩ rfl rfl rfl) (Nat.le_of_ble_eq_true rfl) dL_law_1064 (rm_hf (by omega) (by omega)) (fun r9 u hp hx => ?_)
        obtain ⟨er9, rfl⟩ := hp
        rw [er9]
        try dsimp only [List.nil_append]
        refine g_istore (lv' := [(6, .int q.2), (5, .int 2), (0, .ref b), (1, .ref (Ad 0 0)), (2, .ref (Ad 40 0)), (3, .ref (Ad 90 0)), (4, .int i)]) C dL_law_1067 (by decide) rfl ?_
        refine g_aload_n C dL_law_1069 rfl 4 rfl ?_
        refine g_cVi (n := 0) (exc := []) (exr := []) C [] _ rfl rfl [] [] rfl rfl rfl rfl (fun _ _ h => absurd h (by simp)) (fun _ h => absurd h (by simp)) (fun _ h => absurd h (by simp)) (fun sz => zk_thrown l μ ν q.1 Ad hI.2.2 w  t ht D E sz) rfl gw_1468 gw_9 gw_1465 gw_1466 gw_1467 ⟨by decide +kernel, by decide +kernel, by decide +kernel⟩ ⟨rfl, rfl⟩ ⟨Nat.le_of_ble_eq_true rfl, Nat.le_of_ble_eq_true rfl⟩ (rcvT ⟨hI.2.2.1, fun e => absurd e (by decide)⟩ rfl rfl rfl) (Nat.le_of_ble_eq_true rfl) dL_law_1070 (rm_hf (by omega) (by omega)) (fun r9 u hp hx => ?_)
        obtain ⟨er9, rfl⟩ := hp
        rw [er9]
        try dsimp only [List.nil_append]
        refine g_iload C dL_law_1073 1 rfl ?_
        refine g_icmp_eq (tgt := 1080) C dL_law_1075 (by decide) (fun c1 => ?_) (fun c1 => absurd e1 c1)
        refine g_iload C dL_law_1080 1 rfl ?_
        refine g_if_ne (tgt := 1097) C dL_law_1082 (by decide) (fun c2 => ?_) (fun c2 => absurd c2 (by decide))
        refine g_goto (tgt := 2215) C dL_law_1097 (by decide) ?_
        refine g_lv (lv' := [(0, .ref b), (1, .ref (Ad 0 0)), (2, .ref (Ad 40 0)), (3, .ref (Ad 90 0)), (4, .int i)]) [2, 3, 4, 5, 6] rfl ?_
        refine g_widen (k := cells + (kc ν - kc ν) + 1) (n := slots + (ks ν - ks ν) + 6) (by omega) (by omega) ?_
        exact kk Ad (mn_rfl _) (kp_rfl _ _)
      · exact cd_nil ec
noncomputable def s_cancel (w : Nat) (μ : MP) (ν : NC) (a : AS) (x1 : Int32) : Option ((MP × NC) × AS) := (f_X8_cancel w μ ν x1).bind fun r => (f_X9_cancel w a x1).bind fun q => (f_X9_thrown w q.1).bind fun t => lwq true [(1, 1), (3, 2)] μ ν (r.1, r.2) q t
set_option maxHeartbeats 4000000 in
set_option maxRecDepth 100000 in
theorem w_cancel {p : Program} {l : Launch} {e : Env} {s : State} {m : MethodId} {args : Array Value} {below : List Frame} {meth : Method} {c : Code} {D : va_G} {E : Nat → ClassId} {A : Nat → Prop} {Q : State → Prop} {B : Nat × (Nat → Nat)} {a30 a31 : Nat} {μ : MP} {ν : NC} {a : AS} {Ad : Nat → Nat → Nat} {w : Nat} {b L : Nat} {xs : Nat → Int32} {cells slots : Nat} (C : cx p s m args meth c D E A cL_law 7 "TradeLineLaw") (hEv : eV a30 a31 B A s s.heap) (hN : vN s) (hl : l.stackTraces = false) (hI : lwI ν) (h3 : Ad 30 0 = a30 ∧ Ad 31 0 = a31) (hX : va_X b L xs s s.heap) (hbl : b < s.heap.size) (hbA : ¬ A b) {i x1 : Int32} (q1 : vp_in (i + 1) L ∧ xs (i + 1).toNatClampNeg = x1) {S : (MP × NC) × AS} (h : s_cancel w μ ν a x1 = some S) (hf : cells + (kc S.1.2 - kc ν) + 1 ≤ 299000 ∧ slots + (ks S.1.2 - ks ν) + 6 ≤ 3090000) (kk : ∀ A1, mn ν S.1.2 → kp ν Ad A1 → G p l e room_1 s m args below meth c D E A 7 Q (zS S.1.1 S.1.2 S.2 A1) [] (cells + (kc S.1.2 - kc ν) + 1) (slots + (ks S.1.2 - ks ν) + 6) 2215 [(0, .ref b), (1, .ref (A1 0 0)), (2, .ref (A1 40 0)), (3, .ref (A1 90 0)), (4, .int i)] []) : G p l e room_1 s m args below meth c D E A 7 Q (zS μ ν a Ad) [] (cells) (slots) 1100 [(0, .ref b), (1, .ref (Ad 0 0)), (2, .ref (Ad 40 0)), (3, .ref (Ad 90 0)), (4, .int i)] [] := by
  unfold s_cancel at h
  obtain ⟨r, hr, h⟩ := bind_of h
  obtain ⟨q, hq, h⟩ := bind_of h
  obtain ⟨t, ht, h⟩ := bind_of h
  rcases lwq_t h with ⟨e0, e1, e2, rfl⟩ | ⟨ec, rfl⟩
  · replace e0 : r.1 = 0 := e0
    have hf1 : cells + (kc r.2.1.2 - kc ν) + 1 ≤ 299000 := hf.1
    have hf2 : slots + (ks r.2.1.2 - ks ν) + 6 ≤ 3090000 := hf.2
    refine g_aload_n C dL_law_1100 rfl 1 rfl ?_
    refine g_aload_n C dL_law_1101 rfl 0 rfl ?_
    refine g_iload C dL_law_1102 4 rfl ?_
    refine g_iconst (v := 1) C dL_law_1104 (by decide) ?_
    refine g_iadd C dL_law_1105 ?_
    refine g_ialdX C hX hbl hbA q1.1 dL_law_1106 ?_
    rw [q1.2]
    refine g_aload_n C dL_law_1107 rfl 3 rfl ?_
    refine g_cSh (n := 3) (exr := []) C hEv hN h3 [_, _, _] _ rfl rfl [] rfl rfl (fun sz => r_L_cancel l B μ ν a Ad w x1 r.2 (thr0 hr e0) hI.1 hI.2.1 D E sz) rfl gh_cancel gw_0 gw_1170 gw_1171 ⟨by decide +kernel, by decide +kernel, by decide +kernel⟩ ⟨rfl, rfl⟩ ⟨Nat.le_of_ble_eq_true rfl, Nat.le_of_ble_eq_true rfl⟩ (Nat.le_of_ble_eq_true rfl) dL_law_1108 (rm_hf (by omega) (by omega)) (fun r8 u hp hx => ?_)
    obtain ⟨er8, A1, rfl, hkp⟩ := hp
    rw [er8]
    try dsimp only [List.nil_append]
    have hm : mn ν r.2.1.2 := m_X8_cancel (thr0 hr e0)
    have hI1 := lwI_mn hI hm
    rw [show Ad 0 0 = A1 0 0 from (hkp.1 0 0 rfl hI.1).symm, show Ad 40 0 = A1 40 0 from (hkp.1 40 0 rfl hI.2.2.1).symm, show Ad 90 0 = A1 90 0 from (hkp.1 90 0 rfl hI.2.1.1).symm]
    refine g_istore (lv' := [(5, .int 0), (0, .ref b), (1, .ref (A1 0 0)), (2, .ref (A1 40 0)), (3, .ref (A1 90 0)), (4, .int i)]) C dL_law_1111 (by decide) rfl ?_
    refine g_aload_n C dL_law_1113 rfl 3 rfl ?_
    refine g_aload_n C dL_law_1114 rfl 1 rfl ?_
    refine g_iload C dL_law_1115 5 rfl ?_
    refine g_iconst (v := 1) C dL_law_1117 (by decide) ?_
    refine g_iadd C dL_law_1118 ?_
    refine g_ialdX C hX hbl hbA q1.1 dL_law_1119 ?_
    rw [q1.2]
    refine g_cVi (n := 1) (exc := []) (exr := []) C [_] _ rfl rfl [] [] rfl rfl rfl rfl (fun _ _ h => absurd h (by simp)) (fun _ h => absurd h (by simp)) (fun _ h => absurd h (by simp)) (fun sz => zk_cancel l (up3 r.2.1.1.1 90 0 0 r.2.2, r.2.1.1.2) r.2.1.2 a A1 hI1.2.2 w x1 q hq D E sz) rfl gw_1671 gw_9 gw_1668 gw_1669 gw_1670 ⟨by decide +kernel, by decide +kernel, by decide +kernel⟩ ⟨rfl, rfl⟩ ⟨Nat.le_of_ble_eq_true rfl, Nat.le_of_ble_eq_true rfl⟩ (rcvT ⟨hI1.2.2.1, fun e => absurd e (by decide)⟩ rfl rfl rfl) (Nat.le_of_ble_eq_true rfl) dL_law_1120 (rm_hf (by omega) (by omega)) (fun r9 u hp hx => ?_)
    obtain ⟨er9, rfl⟩ := hp
    rw [er9]
    try dsimp only [List.nil_append]
    refine g_istore (lv' := [(6, .int q.2), (5, .int 0), (0, .ref b), (1, .ref (A1 0 0)), (2, .ref (A1 40 0)), (3, .ref (A1 90 0)), (4, .int i)]) C dL_law_1123 (by decide) rfl ?_
    refine g_aload_n C dL_law_1125 rfl 4 rfl ?_
    refine g_cVi (n := 0) (exc := []) (exr := []) C [] _ rfl rfl [] [] rfl rfl rfl rfl (fun _ _ h => absurd h (by simp)) (fun _ h => absurd h (by simp)) (fun _ h => absurd h (by simp)) (fun sz => zk_thrown l (up3 r.2.1.1.1 90 0 0 r.2.2, r.2.1.1.2) r.2.1.2 q.1 A1 hI1.2.2 w  t ht D E sz) rfl gw_1468 gw_9 gw_1465 gw_1466 gw_1467 ⟨by decide +kernel, by decide +kernel, by decide +kernel⟩ ⟨rfl, rfl⟩ ⟨Nat.le_of_ble_eq_true rfl, Nat.le_of_ble_eq_true rfl⟩ (rcvT ⟨hI1.2.2.1, fun e => absurd e (by decide)⟩ rfl rfl rfl) (Nat.le_of_ble_eq_true rfl) dL_law_1126 (rm_hf (by omega) (by omega)) (fun r9 u hp hx => ?_)
    obtain ⟨er9, rfl⟩ := hp
    rw [er9]
    try dsimp only [List.nil_append]
    refine g_iload C dL_law_1129 1 rfl ?_
    refine g_icmp_eq (tgt := 1136) C dL_law_1131 (by decide) (fun c1 => ?_) (fun c1 => absurd e1 c1)
    refine g_iload C dL_law_1136 1 rfl ?_
    refine g_if_ne (tgt := 1153) C dL_law_1138 (by decide) (fun c2 => absurd rfl c2) (fun c2 => ?_)
    refine g_aload_n C dL_law_1141 rfl 5 rfl ?_
    refine g_iconst (v := 0) C dL_law_1142 (by decide) ?_
    refine g_lald (μ := (up3 r.2.1.1.1 90 0 0 r.2.2, r.2.1.1.2)) (ν := r.2.1.2) (a := q.1) (Ad := A1) C rfl hI1.2.1 dL_law_1143 ?_
    refine g_iload C dL_law_1144 0 rfl ?_
    refine g_i2l C dL_law_1146 rfl ?_
    refine g_lcmp C dL_law_1147 (fun r7 e7 => ?_)
    refine g_if_eq (tgt := 1153) C dL_law_1148 (by decide) (fun c3 => ?_) (fun c3 => absurd (e7.mpr (congrArg Int32.toInt64 (show up3 r.2.1.1.1 90 0 0 r.2.2 90 0 0 = _ from (up3_90 _ _).trans e2))) c3)
    refine g_goto (tgt := 2215) C dL_law_1153 (by decide) ?_
    refine g_lv (lv' := [(0, .ref b), (1, .ref (A1 0 0)), (2, .ref (A1 40 0)), (3, .ref (A1 90 0)), (4, .int i)]) [2, 3, 4, 5, 6] rfl ?_
    refine g_widen (k := cells + (kc r.2.1.2 - kc ν) + 1) (n := slots + (ks r.2.1.2 - ks ν) + 6) (by omega) (by omega) ?_
    exact kk A1 hm hkp
  · rcases cd_cons ec with ⟨e0, e1⟩ | ec
    · have hf1 : cells + (kc ν - kc ν) + 1 ≤ 299000 := hf.1
      have hf2 : slots + (ks ν - ks ν) + 6 ≤ 3090000 := hf.2
      refine g_aload_n C dL_law_1100 rfl 1 rfl ?_
      refine g_aload_n C dL_law_1101 rfl 0 rfl ?_
      refine g_iload C dL_law_1102 4 rfl ?_
      refine g_iconst (v := 1) C dL_law_1104 (by decide) ?_
      refine g_iadd C dL_law_1105 ?_
      refine g_ialdX C hX hbl hbA q1.1 dL_law_1106 ?_
      rw [q1.2]
      refine g_aload_n C dL_law_1107 rfl 3 rfl ?_
      refine g_cSh (n := 3) (exr := []) C hEv hN h3 [_, _, _] _ rfl rfl [] rfl rfl (fun sz => e1_L_cancel l hl B μ ν a Ad w x1 r.2 (thrS hr e0) hI.1 hI.2.1 D E sz) rfl gh_cancel gw_0 gw_1170 gw_1171 ⟨by decide +kernel, by decide +kernel, by decide +kernel⟩ ⟨rfl, rfl⟩ ⟨Nat.le_of_ble_eq_true rfl, Nat.le_of_ble_eq_true rfl⟩ (Nat.le_of_ble_eq_true rfl) dL_law_1108 (rm_hf (by omega) (by omega)) (fun r8 u hp hx => ?_)
      obtain ⟨er8, rfl⟩ := hp
      rw [er8]
      try dsimp only [List.nil_append]
      refine g_istore (lv' := [(5, .int 1), (0, .ref b), (1, .ref (Ad 0 0)), (2, .ref (Ad 40 0)), (3, .ref (Ad 90 0)), (4, .int i)]) C dL_law_1111 (by decide) rfl ?_
      refine g_aload_n C dL_law_1113 rfl 3 rfl ?_
      refine g_aload_n C dL_law_1114 rfl 1 rfl ?_
      refine g_iload C dL_law_1115 5 rfl ?_
      refine g_iconst (v := 1) C dL_law_1117 (by decide) ?_
      refine g_iadd C dL_law_1118 ?_
      refine g_ialdX C hX hbl hbA q1.1 dL_law_1119 ?_
      rw [q1.2]
      refine g_cVi (n := 1) (exc := []) (exr := []) C [_] _ rfl rfl [] [] rfl rfl rfl rfl (fun _ _ h => absurd h (by simp)) (fun _ h => absurd h (by simp)) (fun _ h => absurd h (by simp)) (fun sz => zk_cancel l μ ν a Ad hI.2.2 w x1 q hq D E sz) rfl gw_1671 gw_9 gw_1668 gw_1669 gw_1670 ⟨by decide +kernel, by decide +kernel, by decide +kernel⟩ ⟨rfl, rfl⟩ ⟨Nat.le_of_ble_eq_true rfl, Nat.le_of_ble_eq_true rfl⟩ (rcvT ⟨hI.2.2.1, fun e => absurd e (by decide)⟩ rfl rfl rfl) (Nat.le_of_ble_eq_true rfl) dL_law_1120 (rm_hf (by omega) (by omega)) (fun r9 u hp hx => ?_)
      obtain ⟨er9, rfl⟩ := hp
      rw [er9]
      try dsimp only [List.nil_append]
      refine g_istore (lv' := [(6, .int q.2), (5, .int 1), (0, .ref b), (1, .ref (Ad 0 0)), (2, .ref (Ad 40 0)), (3, .ref (Ad 90 0)), (4, .int i)]) C dL_law_1123 (by decide) rfl ?_
      refine g_aload_n C dL_law_1125 rfl 4 rfl ?_
      refine g_cVi (n := 0) (exc := []) (exr := []) C [] _ rfl rfl [] [] rfl rfl rfl rfl (fun _ _ h => absurd h (by simp)) (fun _ h => absurd h (by simp)) (fun _ h => absurd h (by simp)) (fun sz => zk_thrown l μ ν q.1 Ad hI.2.2 w  t ht D E sz) rfl gw_1468 gw_9 gw_1465 gw_1466 gw_1467 ⟨by decide +kernel, by decide +kernel, by decide +kernel⟩ ⟨rfl, rfl⟩ ⟨Nat.le_of_ble_eq_true rfl, Nat.le_of_ble_eq_true rfl⟩ (rcvT ⟨hI.2.2.1, fun e => absurd e (by decide)⟩ rfl rfl rfl) (Nat.le_of_ble_eq_true rfl) dL_law_1126 (rm_hf (by omega) (by omega)) (fun r9 u hp hx => ?_)
      obtain ⟨er9, rfl⟩ := hp
      rw [er9]
      try dsimp only [List.nil_append]
      refine g_iload C dL_law_1129 1 rfl ?_
      refine g_icmp_eq (tgt := 1136) C dL_law_1131 (by decide) (fun c1 => ?_) (fun c1 => absurd e1 c1)
      refine g_iload C dL_law_1136 1 rfl ?_
      refine g_if_ne (tgt := 1153) C dL_law_1138 (by decide) (fun c2 => ?_) (fun c2 => absurd c2 (by decide))
      refine g_goto (tgt := 2215) C dL_law_1153 (by decide) ?_
      refine g_lv (lv' := [(0, .ref b), (1, .ref (Ad 0 0)), (2, .ref (Ad 40 0)), (3, .ref (Ad 90 0)), (4, .int i)]) [2, 3, 4, 5, 6] rfl ?_
      refine g_widen (k := cells + (kc ν - kc ν) + 1) (n := slots + (ks ν - ks ν) + 6) (by omega) (by omega) ?_
      exact kk Ad (mn_rfl _) (kp_rfl _ _)
    · skip
      rcases cd_cons ec with ⟨e0, e1⟩ | ec
      · have hf1 : cells + (kc ν - kc ν) + 1 ≤ 299000 := hf.1
        have hf2 : slots + (ks ν - ks ν) + 6 ≤ 3090000 := hf.2
        refine g_aload_n C dL_law_1100 rfl 1 rfl ?_
        refine g_aload_n C dL_law_1101 rfl 0 rfl ?_
        refine g_iload C dL_law_1102 4 rfl ?_
        refine g_iconst (v := 1) C dL_law_1104 (by decide) ?_
        refine g_iadd C dL_law_1105 ?_
        refine g_ialdX C hX hbl hbA q1.1 dL_law_1106 ?_
        rw [q1.2]
        refine g_aload_n C dL_law_1107 rfl 3 rfl ?_
        refine g_cSh (n := 3) (exr := []) C hEv hN h3 [_, _, _] _ rfl rfl [] rfl rfl (fun sz => e3_L_cancel l hl B μ ν a Ad w x1 r.2 (thrS hr e0) hI.1 hI.2.1 D E sz) rfl gh_cancel gw_0 gw_1170 gw_1171 ⟨by decide +kernel, by decide +kernel, by decide +kernel⟩ ⟨rfl, rfl⟩ ⟨Nat.le_of_ble_eq_true rfl, Nat.le_of_ble_eq_true rfl⟩ (Nat.le_of_ble_eq_true rfl) dL_law_1108 (rm_hf (by omega) (by omega)) (fun r8 u hp hx => ?_)
        obtain ⟨er8, rfl⟩ := hp
        rw [er8]
        try dsimp only [List.nil_append]
        refine g_istore (lv' := [(5, .int 2), (0, .ref b), (1, .ref (Ad 0 0)), (2, .ref (Ad 40 0)), (3, .ref (Ad 90 0)), (4, .int i)]) C dL_law_1111 (by decide) rfl ?_
        refine g_aload_n C dL_law_1113 rfl 3 rfl ?_
        refine g_aload_n C dL_law_1114 rfl 1 rfl ?_
        refine g_iload C dL_law_1115 5 rfl ?_
        refine g_iconst (v := 1) C dL_law_1117 (by decide) ?_
        refine g_iadd C dL_law_1118 ?_
        refine g_ialdX C hX hbl hbA q1.1 dL_law_1119 ?_
        rw [q1.2]
        refine g_cVi (n := 1) (exc := []) (exr := []) C [_] _ rfl rfl [] [] rfl rfl rfl rfl (fun _ _ h => absurd h (by simp)) (fun _ h => absurd h (by simp)) (fun _ h => absurd h (by simp)) (fun sz => zk_cancel l μ ν a Ad hI.2.2 w x1 q hq D E sz) rfl gw_1671 gw_9 gw_1668 gw_1669 gw_1670 ⟨by decide +kernel, by decide +kernel, by decide +kernel⟩ ⟨rfl, rfl⟩ ⟨Nat.le_of_ble_eq_true rfl, Nat.le_of_ble_eq_true rfl⟩ (rcvT ⟨hI.2.2.1, fun e => absurd e (by decide)⟩ rfl rfl rfl) (Nat.le_of_ble_eq_true rfl) dL_law_1120 (rm_hf (by omega) (by omega)) (fun r9 u hp hx => ?_)
        obtain ⟨er9, rfl⟩ := hp
        rw [er9]
        try dsimp only [List.nil_append]
        refine g_istore (lv' := [(6, .int q.2), (5, .int 2), (0, .ref b), (1, .ref (Ad 0 0)), (2, .ref (Ad 40 0)), (3, .ref (Ad 90 0)), (4, .int i)]) C dL_law_1123 (by decide) rfl ?_
        refine g_aload_n C dL_law_1125 rfl 4 rfl ?_
        refine g_cVi (n := 0) (exc := []) (exr := []) C [] _ rfl rfl [] [] rfl rfl rfl rfl (fun _ _ h => absurd h (by simp)) (fun _ h => absurd h (by simp)) (fun _ h => absurd h (by simp)) (fun sz => zk_thrown l μ ν q.1 Ad hI.2.2 w  t ht D E sz) rfl gw_1468 gw_9 gw_1465 gw_1466 gw_1467 ⟨by decide +kernel, by decide +kernel, by decide +kernel⟩ ⟨rfl, rfl⟩ ⟨Nat.le_of_ble_eq_true rfl, Nat.le_of_ble_eq_true rfl⟩ (rcvT ⟨hI.2.2.1, fun e => absurd e (by decide)⟩ rfl rfl rfl) (Nat.le_of_ble_eq_true rfl) dL_law_1126 (rm_hf (by omega) (by omega)) (fun r9 u hp hx => ?_)
        obtain ⟨er9, rfl⟩ := hp
        rw [er9]
        try dsimp only [List.nil_append]
        refine g_iload C dL_law_1129 1 rfl ?_
        refine g_icmp_eq (tgt := 1136) C dL_law_1131 (by decide) (fun c1 => ?_) (fun c1 => absurd e1 c1)
        refine g_iload C dL_law_1136 1 rfl ?_
        refine g_if_ne (tgt := 1153) C dL_law_1138 (by decide) (fun c2 => ?_) (fun c2 => absurd c2 (by decide))
        refine g_goto (tgt := 2215) C dL_law_1153 (by decide) ?_
        refine g_lv (lv' := [(0, .ref b), (1, .ref (Ad 0 0)), (2, .ref (Ad 40 0)), (3, .ref (Ad 90 0)), (4, .int i)]) [2, 3, 4, 5, 6] rfl ?_
        refine g_widen (k := cells + (kc ν - kc ν) + 1) (n := slots + (ks ν - ks ν) + 6) (by omega) (by omega) ?_
        exact kk Ad (mn_rfl _) (kp_rfl _ _)
      · exact cd_nil ec
noncomputable def s_replace (w : Nat) (μ : MP) (ν : NC) (a : AS) (x1 : Int32) (x2 : Int32) (x3 : Int32) : Option ((MP × NC) × AS) := (f_X8_replace w μ ν x1 x2 x3).bind fun r => (f_X9_replace w a x1 x2 x3).bind fun q => (f_X9_thrown w q.1).bind fun t => lwq true [(1, 1), (2, 2), (3, 3)] μ ν (r.1, r.2) q t
set_option maxHeartbeats 4000000 in
set_option maxRecDepth 100000 in
theorem w_replace {p : Program} {l : Launch} {e : Env} {s : State} {m : MethodId} {args : Array Value} {below : List Frame} {meth : Method} {c : Code} {D : va_G} {E : Nat → ClassId} {A : Nat → Prop} {Q : State → Prop} {B : Nat × (Nat → Nat)} {a30 a31 : Nat} {μ : MP} {ν : NC} {a : AS} {Ad : Nat → Nat → Nat} {w : Nat} {b L : Nat} {xs : Nat → Int32} {cells slots : Nat} (C : cx p s m args meth c D E A cL_law 7 "TradeLineLaw") (hEv : eV a30 a31 B A s s.heap) (hN : vN s) (hl : l.stackTraces = false) (hI : lwI ν) (h3 : Ad 30 0 = a30 ∧ Ad 31 0 = a31) (hX : va_X b L xs s s.heap) (hbl : b < s.heap.size) (hbA : ¬ A b) {i x1 x2 x3 : Int32} (q1 : vp_in (i + 1) L ∧ xs (i + 1).toNatClampNeg = x1) (q2 : vp_in (i + 2) L ∧ xs (i + 2).toNatClampNeg = x2) (q3 : vp_in (i + 3) L ∧ xs (i + 3).toNatClampNeg = x3) {S : (MP × NC) × AS} (h : s_replace w μ ν a x1 x2 x3 = some S) (hf : cells + (kc S.1.2 - kc ν) + 1 ≤ 299000 ∧ slots + (ks S.1.2 - ks ν) + 6 ≤ 3090000) (kk : ∀ A1, mn ν S.1.2 → kp ν Ad A1 → G p l e room_1 s m args below meth c D E A 7 Q (zS S.1.1 S.1.2 S.2 A1) [] (cells + (kc S.1.2 - kc ν) + 1) (slots + (ks S.1.2 - ks ν) + 6) 2215 [(0, .ref b), (1, .ref (A1 0 0)), (2, .ref (A1 40 0)), (3, .ref (A1 90 0)), (4, .int i)] []) : G p l e room_1 s m args below meth c D E A 7 Q (zS μ ν a Ad) [] (cells) (slots) 1156 [(0, .ref b), (1, .ref (Ad 0 0)), (2, .ref (Ad 40 0)), (3, .ref (Ad 90 0)), (4, .int i)] [] := by
  unfold s_replace at h
  obtain ⟨r, hr, h⟩ := bind_of h
  obtain ⟨q, hq, h⟩ := bind_of h
  obtain ⟨t, ht, h⟩ := bind_of h
  rcases lwq_t h with ⟨e0, e1, e2, rfl⟩ | ⟨ec, rfl⟩
  · replace e0 : r.1 = 0 := e0
    have hf1 : cells + (kc r.2.1.2 - kc ν) + 1 ≤ 299000 := hf.1
    have hf2 : slots + (ks r.2.1.2 - ks ν) + 6 ≤ 3090000 := hf.2
    refine g_aload_n C dL_law_1156 rfl 1 rfl ?_
    refine g_aload_n C dL_law_1157 rfl 0 rfl ?_
    refine g_iload C dL_law_1158 4 rfl ?_
    refine g_iconst (v := 1) C dL_law_1160 (by decide) ?_
    refine g_iadd C dL_law_1161 ?_
    refine g_ialdX C hX hbl hbA q1.1 dL_law_1162 ?_
    rw [q1.2]
    refine g_aload_n C dL_law_1163 rfl 0 rfl ?_
    refine g_iload C dL_law_1164 4 rfl ?_
    refine g_iconst (v := 2) C dL_law_1166 (by decide) ?_
    refine g_iadd C dL_law_1167 ?_
    refine g_ialdX C hX hbl hbA q2.1 dL_law_1168 ?_
    rw [q2.2]
    refine g_aload_n C dL_law_1169 rfl 0 rfl ?_
    refine g_iload C dL_law_1170 4 rfl ?_
    refine g_iconst (v := 3) C dL_law_1172 (by decide) ?_
    refine g_iadd C dL_law_1173 ?_
    refine g_ialdX C hX hbl hbA q3.1 dL_law_1174 ?_
    rw [q3.2]
    refine g_aload_n C dL_law_1175 rfl 3 rfl ?_
    refine g_cSh (n := 5) (exr := []) C hEv hN h3 [_, _, _, _, _] _ rfl rfl [] rfl rfl (fun sz => r_L_replace l B μ ν a Ad w x1 x2 x3 r.2 (thr0 hr e0) hI.1 hI.2.1 D E sz) rfl gh_replace gw_0 gw_1191 gw_1192 ⟨by decide +kernel, by decide +kernel, by decide +kernel⟩ ⟨rfl, rfl⟩ ⟨Nat.le_of_ble_eq_true rfl, Nat.le_of_ble_eq_true rfl⟩ (Nat.le_of_ble_eq_true rfl) dL_law_1176 (rm_hf (by omega) (by omega)) (fun r8 u hp hx => ?_)
    obtain ⟨er8, A1, rfl, hkp⟩ := hp
    rw [er8]
    try dsimp only [List.nil_append]
    have hm : mn ν r.2.1.2 := m_X8_replace (thr0 hr e0)
    have hI1 := lwI_mn hI hm
    rw [show Ad 0 0 = A1 0 0 from (hkp.1 0 0 rfl hI.1).symm, show Ad 40 0 = A1 40 0 from (hkp.1 40 0 rfl hI.2.2.1).symm, show Ad 90 0 = A1 90 0 from (hkp.1 90 0 rfl hI.2.1.1).symm]
    refine g_istore (lv' := [(5, .int 0), (0, .ref b), (1, .ref (A1 0 0)), (2, .ref (A1 40 0)), (3, .ref (A1 90 0)), (4, .int i)]) C dL_law_1179 (by decide) rfl ?_
    refine g_aload_n C dL_law_1181 rfl 3 rfl ?_
    refine g_aload_n C dL_law_1182 rfl 1 rfl ?_
    refine g_iload C dL_law_1183 5 rfl ?_
    refine g_iconst (v := 1) C dL_law_1185 (by decide) ?_
    refine g_iadd C dL_law_1186 ?_
    refine g_ialdX C hX hbl hbA q1.1 dL_law_1187 ?_
    rw [q1.2]
    refine g_aload_n C dL_law_1188 rfl 1 rfl ?_
    refine g_iload C dL_law_1189 5 rfl ?_
    refine g_iconst (v := 2) C dL_law_1191 (by decide) ?_
    refine g_iadd C dL_law_1192 ?_
    refine g_ialdX C hX hbl hbA q2.1 dL_law_1193 ?_
    rw [q2.2]
    refine g_aload_n C dL_law_1194 rfl 1 rfl ?_
    refine g_iload C dL_law_1195 5 rfl ?_
    refine g_iconst (v := 3) C dL_law_1197 (by decide) ?_
    refine g_iadd C dL_law_1198 ?_
    refine g_ialdX C hX hbl hbA q3.1 dL_law_1199 ?_
    rw [q3.2]
    refine g_cVi (n := 3) (exc := []) (exr := []) C [_, _, _] _ rfl rfl [] [] rfl rfl rfl rfl (fun _ _ h => absurd h (by simp)) (fun _ h => absurd h (by simp)) (fun _ h => absurd h (by simp)) (fun sz => zk_replace l (up3 r.2.1.1.1 90 0 0 r.2.2, r.2.1.1.2) r.2.1.2 a A1 hI1.2.2 w x1 x2 x3 q hq D E sz) rfl gw_1691 gw_9 gw_1688 gw_1689 gw_1690 ⟨by decide +kernel, by decide +kernel, by decide +kernel⟩ ⟨rfl, rfl⟩ ⟨Nat.le_of_ble_eq_true rfl, Nat.le_of_ble_eq_true rfl⟩ (rcvT ⟨hI1.2.2.1, fun e => absurd e (by decide)⟩ rfl rfl rfl) (Nat.le_of_ble_eq_true rfl) dL_law_1200 (rm_hf (by omega) (by omega)) (fun r9 u hp hx => ?_)
    obtain ⟨er9, rfl⟩ := hp
    rw [er9]
    try dsimp only [List.nil_append]
    refine g_istore (lv' := [(6, .int q.2), (5, .int 0), (0, .ref b), (1, .ref (A1 0 0)), (2, .ref (A1 40 0)), (3, .ref (A1 90 0)), (4, .int i)]) C dL_law_1203 (by decide) rfl ?_
    refine g_aload_n C dL_law_1205 rfl 4 rfl ?_
    refine g_cVi (n := 0) (exc := []) (exr := []) C [] _ rfl rfl [] [] rfl rfl rfl rfl (fun _ _ h => absurd h (by simp)) (fun _ h => absurd h (by simp)) (fun _ h => absurd h (by simp)) (fun sz => zk_thrown l (up3 r.2.1.1.1 90 0 0 r.2.2, r.2.1.1.2) r.2.1.2 q.1 A1 hI1.2.2 w  t ht D E sz) rfl gw_1468 gw_9 gw_1465 gw_1466 gw_1467 ⟨by decide +kernel, by decide +kernel, by decide +kernel⟩ ⟨rfl, rfl⟩ ⟨Nat.le_of_ble_eq_true rfl, Nat.le_of_ble_eq_true rfl⟩ (rcvT ⟨hI1.2.2.1, fun e => absurd e (by decide)⟩ rfl rfl rfl) (Nat.le_of_ble_eq_true rfl) dL_law_1206 (rm_hf (by omega) (by omega)) (fun r9 u hp hx => ?_)
    obtain ⟨er9, rfl⟩ := hp
    rw [er9]
    try dsimp only [List.nil_append]
    refine g_iload C dL_law_1209 1 rfl ?_
    refine g_icmp_eq (tgt := 1216) C dL_law_1211 (by decide) (fun c1 => ?_) (fun c1 => absurd e1 c1)
    refine g_iload C dL_law_1216 1 rfl ?_
    refine g_if_ne (tgt := 1233) C dL_law_1218 (by decide) (fun c2 => absurd rfl c2) (fun c2 => ?_)
    refine g_aload_n C dL_law_1221 rfl 5 rfl ?_
    refine g_iconst (v := 0) C dL_law_1222 (by decide) ?_
    refine g_lald (μ := (up3 r.2.1.1.1 90 0 0 r.2.2, r.2.1.1.2)) (ν := r.2.1.2) (a := q.1) (Ad := A1) C rfl hI1.2.1 dL_law_1223 ?_
    refine g_iload C dL_law_1224 0 rfl ?_
    refine g_i2l C dL_law_1226 rfl ?_
    refine g_lcmp C dL_law_1227 (fun r7 e7 => ?_)
    refine g_if_eq (tgt := 1233) C dL_law_1228 (by decide) (fun c3 => ?_) (fun c3 => absurd (e7.mpr (congrArg Int32.toInt64 (show up3 r.2.1.1.1 90 0 0 r.2.2 90 0 0 = _ from (up3_90 _ _).trans e2))) c3)
    refine g_goto (tgt := 2215) C dL_law_1233 (by decide) ?_
    refine g_lv (lv' := [(0, .ref b), (1, .ref (A1 0 0)), (2, .ref (A1 40 0)), (3, .ref (A1 90 0)), (4, .int i)]) [2, 3, 4, 5, 6] rfl ?_
    refine g_widen (k := cells + (kc r.2.1.2 - kc ν) + 1) (n := slots + (ks r.2.1.2 - ks ν) + 6) (by omega) (by omega) ?_
    exact kk A1 hm hkp
  · rcases cd_cons ec with ⟨e0, e1⟩ | ec
    · have hf1 : cells + (kc ν - kc ν) + 1 ≤ 299000 := hf.1
      have hf2 : slots + (ks ν - ks ν) + 6 ≤ 3090000 := hf.2
      refine g_aload_n C dL_law_1156 rfl 1 rfl ?_
      refine g_aload_n C dL_law_1157 rfl 0 rfl ?_
      refine g_iload C dL_law_1158 4 rfl ?_
      refine g_iconst (v := 1) C dL_law_1160 (by decide) ?_
      refine g_iadd C dL_law_1161 ?_
      refine g_ialdX C hX hbl hbA q1.1 dL_law_1162 ?_
      rw [q1.2]
      refine g_aload_n C dL_law_1163 rfl 0 rfl ?_
      refine g_iload C dL_law_1164 4 rfl ?_
      refine g_iconst (v := 2) C dL_law_1166 (by decide) ?_
      refine g_iadd C dL_law_1167 ?_
      refine g_ialdX C hX hbl hbA q2.1 dL_law_1168 ?_
      rw [q2.2]
      refine g_aload_n C dL_law_1169 rfl 0 rfl ?_
      refine g_iload C dL_law_1170 4 rfl ?_
      refine g_iconst (v := 3) C dL_law_1172 (by decide) ?_
      refine g_iadd C dL_law_1173 ?_
      refine g_ialdX C hX hbl hbA q3.1 dL_law_1174 ?_
      rw [q3.2]
      refine g_aload_n C dL_law_1175 rfl 3 rfl ?_
      refine g_cSh (n := 5) (exr := []) C hEv hN h3 [_, _, _, _, _] _ rfl rfl [] rfl rfl (fun sz => e1_L_replace l hl B μ ν a Ad w x1 x2 x3 r.2 (thrS hr e0) hI.1 hI.2.1 D E sz) rfl gh_replace gw_0 gw_1191 gw_1192 ⟨by decide +kernel, by decide +kernel, by decide +kernel⟩ ⟨rfl, rfl⟩ ⟨Nat.le_of_ble_eq_true rfl, Nat.le_of_ble_eq_true rfl⟩ (Nat.le_of_ble_eq_true rfl) dL_law_1176 (rm_hf (by omega) (by omega)) (fun r8 u hp hx => ?_)
      obtain ⟨er8, rfl⟩ := hp
      rw [er8]
      try dsimp only [List.nil_append]
      refine g_istore (lv' := [(5, .int 1), (0, .ref b), (1, .ref (Ad 0 0)), (2, .ref (Ad 40 0)), (3, .ref (Ad 90 0)), (4, .int i)]) C dL_law_1179 (by decide) rfl ?_
      refine g_aload_n C dL_law_1181 rfl 3 rfl ?_
      refine g_aload_n C dL_law_1182 rfl 1 rfl ?_
      refine g_iload C dL_law_1183 5 rfl ?_
      refine g_iconst (v := 1) C dL_law_1185 (by decide) ?_
      refine g_iadd C dL_law_1186 ?_
      refine g_ialdX C hX hbl hbA q1.1 dL_law_1187 ?_
      rw [q1.2]
      refine g_aload_n C dL_law_1188 rfl 1 rfl ?_
      refine g_iload C dL_law_1189 5 rfl ?_
      refine g_iconst (v := 2) C dL_law_1191 (by decide) ?_
      refine g_iadd C dL_law_1192 ?_
      refine g_ialdX C hX hbl hbA q2.1 dL_law_1193 ?_
      rw [q2.2]
      refine g_aload_n C dL_law_1194 rfl 1 rfl ?_
      refine g_iload C dL_law_1195 5 rfl ?_
      refine g_iconst (v := 3) C dL_law_1197 (by decide) ?_
      refine g_iadd C dL_law_1198 ?_
      refine g_ialdX C hX hbl hbA q3.1 dL_law_1199 ?_
      rw [q3.2]
      refine g_cVi (n := 3) (exc := []) (exr := []) C [_, _, _] _ rfl rfl [] [] rfl rfl rfl rfl (fun _ _ h => absurd h (by simp)) (fun _ h => absurd h (by simp)) (fun _ h => absurd h (by simp)) (fun sz => zk_replace l μ ν a Ad hI.2.2 w x1 x2 x3 q hq D E sz) rfl gw_1691 gw_9 gw_1688 gw_1689 gw_1690 ⟨by decide +kernel, by decide +kernel, by decide +kernel⟩ ⟨rfl, rfl⟩ ⟨Nat.le_of_ble_eq_true rfl, Nat.le_of_ble_eq_true rfl⟩ (rcvT ⟨hI.2.2.1, fun e => absurd e (by decide)⟩ rfl rfl rfl) (Nat.le_of_ble_eq_true rfl) dL_law_1200 (rm_hf (by omega) (by omega)) (fun r9 u hp hx => ?_)
      obtain ⟨er9, rfl⟩ := hp
      rw [er9]
      try dsimp only [List.nil_append]
      refine g_istore (lv' := [(6, .int q.2), (5, .int 1), (0, .ref b), (1, .ref (Ad 0 0)), (2, .ref (Ad 40 0)), (3, .ref (Ad 90 0)), (4, .int i)]) C dL_law_1203 (by decide) rfl ?_
      refine g_aload_n C dL_law_1205 rfl 4 rfl ?_
      refine g_cVi (n := 0) (exc := []) (exr := []) C [] _ rfl rfl [] [] rfl rfl rfl rfl (fun _ _ h => absurd h (by simp)) (fun _ h => absurd h (by simp)) (fun _ h => absurd h (by simp)) (fun sz => zk_thrown l μ ν q.1 Ad hI.2.2 w  t ht D E sz) rfl gw_1468 gw_9 gw_1465 gw_1466 gw_1467 ⟨by decide +kernel, by decide +kernel, by decide +kernel⟩ ⟨rfl, rfl⟩ ⟨Nat.le_of_ble_eq_true rfl, Nat.le_of_ble_eq_true rfl⟩ (rcvT ⟨hI.2.2.1, fun e => absurd e (by decide)⟩ rfl rfl rfl) (Nat.le_of_ble_eq_true rfl) dL_law_1206 (rm_hf (by omega) (by omega)) (fun r9 u hp hx => ?_)
      obtain ⟨er9, rfl⟩ := hp
      rw [er9]
      try dsimp only [List.nil_append]
      refine g_iload C dL_law_1209 1 rfl ?_
      refine g_icmp_eq (tgt := 1216) C dL_law_1211 (by decide) (fun c1 => ?_) (fun c1 => absurd e1 c1)
      refine g_iload C dL_law_1216 1 rfl ?_
      refine g_if_ne (tgt := 1233) C dL_law_1218 (by decide) (fun c2 => ?_) (fun c2 => absurd c2 (by decide))
      refine g_goto (tgt := 2215) C dL_law_1233 (by decide) ?_
      refine g_lv (lv' := [(0, .ref b), (1, .ref (Ad 0 0)), (2, .ref (Ad 40 0)), (3, .ref (Ad 90 0)), (4, .int i)]) [2, 3, 4, 5, 6] rfl ?_
      refine g_widen (k := cells + (kc ν - kc ν) + 1) (n := slots + (ks ν - ks ν) + 6) (by omega) (by omega) ?_
      exact kk Ad (mn_rfl _) (kp_rfl _ _)
    · skip
      rcases cd_cons ec with ⟨e0, e1⟩ | ec
      · have hf1 : cells + (kc ν - kc ν) + 1 ≤ 299000 := hf.1
        have hf2 : slots + (ks ν - ks ν) + 6 ≤ 3090000 := hf.2
        refine g_aload_n C dL_law_1156 rfl 1 rfl ?_
        refine g_aload_n C dL_law_1157 rfl 0 rfl ?_
        refine g_iload C dL_law_1158 4 rfl ?_
        refine g_iconst (v := 1) C dL_law_1160 (by decide) ?_
        refine g_iadd C dL_law_1161 ?_
        refine g_ialdX C hX hbl hbA q1.1 dL_law_1162 ?_
        rw [q1.2]
        refine g_aload_n C dL_law_1163 rfl 0 rfl ?_
        refine g_iload C dL_law_1164 4 rfl ?_
        refine g_iconst (v := 2) C dL_law_1166 (by decide) ?_
        refine g_iadd C dL_law_1167 ?_
        refine g_ialdX C hX hbl hbA q2.1 dL_law_1168 ?_
        rw [q2.2]
        refine g_aload_n C dL_law_1169 rfl 0 rfl ?_
        refine g_iload C dL_law_1170 4 rfl ?_
        refine g_iconst (v := 3) C dL_law_1172 (by decide) ?_
        refine g_iadd C dL_law_1173 ?_
        refine g_ialdX C hX hbl hbA q3.1 dL_law_1174 ?_
        rw [q3.2]
        refine g_aload_n C dL_law_1175 rfl 3 rfl ?_
        refine g_cSh (n := 5) (exr := []) C hEv hN h3 [_, _, _, _, _] _ rfl rfl [] rfl rfl (fun sz => e2_L_replace l hl B μ ν a Ad w x1 x2 x3 r.2 (thrS hr e0) hI.1 hI.2.1 D E sz) rfl gh_replace gw_0 gw_1191 gw_1192 ⟨by decide +kernel, by decide +kernel, by decide +kernel⟩ ⟨rfl, rfl⟩ ⟨Nat.le_of_ble_eq_true rfl, Nat.le_of_ble_eq_true rfl⟩ (Nat.le_of_ble_eq_true rfl) dL_law_1176 (rm_hf (by omega) (by omega)) (fun r8 u hp hx => ?_)
        obtain ⟨er8, rfl⟩ := hp
        rw [er8]
        try dsimp only [List.nil_append]
        refine g_istore (lv' := [(5, .int 2), (0, .ref b), (1, .ref (Ad 0 0)), (2, .ref (Ad 40 0)), (3, .ref (Ad 90 0)), (4, .int i)]) C dL_law_1179 (by decide) rfl ?_
        refine g_aload_n C dL_law_1181 rfl 3 rfl ?_
        refine g_aload_n C dL_law_1182 rfl 1 rfl ?_
        refine g_iload C dL_law_1183 5 rfl ?_
        refine g_iconst (v := 1) C dL_law_1185 (by decide) ?_
        refine g_iadd C dL_law_1186 ?_
        refine g_ialdX C hX hbl hbA q1.1 dL_law_1187 ?_
        rw [q1.2]
        refine g_aload_n C dL_law_1188 rfl 1 rfl ?_
        refine g_iload C dL_law_1189 5 rfl ?_
        refine g_iconst (v := 2) C dL_law_1191 (by decide) ?_
        refine g_iadd C dL_law_1192 ?_
        refine g_ialdX C hX hbl hbA q2.1 dL_law_1193 ?_
        rw [q2.2]
        refine g_aload_n C dL_law_1194 rfl 1 rfl ?_
        refine g_iload C dL_law_1195 5 rfl ?_
        refine g_iconst (v := 3) C dL_law_1197 (by decide) ?_
        refine g_iadd C dL_law_1198 ?_
        refine g_ialdX C hX hbl hbA q3.1 dL_law_1199 ?_
        rw [q3.2]
        refine g_cVi (n := 3) (exc := []) (exr := []) C [_, _, _] _ rfl rfl [] [] rfl rfl rfl rfl (fun _ _ h => absurd h (by simp)) (fun _ h => absurd h (by simp)) (fun _ h => absurd h (by simp)) (fun sz => zk_replace l μ ν a Ad hI.2.2 w x1 x2 x3 q hq D E sz) rfl gw_1691 gw_9 gw_1688 gw_1689 gw_1690 ⟨by decide +kernel, by decide +kernel, by decide +kernel⟩ ⟨rfl, rfl⟩ ⟨Nat.le_of_ble_eq_true rfl, Nat.le_of_ble_eq_true rfl⟩ (rcvT ⟨hI.2.2.1, fun e => absurd e (by decide)⟩ rfl rfl rfl) (Nat.le_of_ble_eq_true rfl) dL_law_1200 (rm_hf (by omega) (by omega)) (fun r9 u hp hx => ?_)
        obtain ⟨er9, rfl⟩ := hp
        rw [er9]
        try dsimp only [List.nil_append]
        refine g_istore (lv' := [(6, .int q.2), (5, .int 2), (0, .ref b), (1, .ref (Ad 0 0)), (2, .ref (Ad 40 0)), (3, .ref (Ad 90 0)), (4, .int i)]) C dL_law_1203 (by decide) rfl ?_
        refine g_aload_n C dL_law_1205 rfl 4 rfl ?_
        refine g_cVi (n := 0) (exc := []) (exr := []) C [] _ rfl rfl [] [] rfl rfl rfl rfl (fun _ _ h => absurd h (by simp)) (fun _ h => absurd h (by simp)) (fun _ h => absurd h (by simp)) (fun sz => zk_thrown l μ ν q.1 Ad hI.2.2 w  t ht D E sz) rfl gw_1468 gw_9 gw_1465 gw_1466 gw_1467 ⟨by decide +kernel, by decide +kernel, by decide +kernel⟩ ⟨rfl, rfl⟩ ⟨Nat.le_of_ble_eq_true rfl, Nat.le_of_ble_eq_true rfl⟩ (rcvT ⟨hI.2.2.1, fun e => absurd e (by decide)⟩ rfl rfl rfl) (Nat.le_of_ble_eq_true rfl) dL_law_1206 (rm_hf (by omega) (by omega)) (fun r9 u hp hx => ?_)
        obtain ⟨er9, rfl⟩ := hp
        rw [er9]
        try dsimp only [List.nil_append]
        refine g_iload C dL_law_1209 1 rfl ?_
        refine g_icmp_eq (tgt := 1216) C dL_law_1211 (by decide) (fun c1 => ?_) (fun c1 => absurd e1 c1)
        refine g_iload C dL_law_1216 1 rfl ?_
        refine g_if_ne (tgt := 1233) C dL_law_1218 (by decide) (fun c2 => ?_) (fun c2 => absurd c2 (by decide))
        refine g_goto (tgt := 2215) C dL_law_1233 (by decide) ?_
        refine g_lv (lv' := [(0, .ref b), (1, .ref (Ad 0 0)), (2, .ref (Ad 40 0)), (3, .ref (Ad 90 0)), (4, .int i)]) [2, 3, 4, 5, 6] rfl ?_
        refine g_widen (k := cells + (kc ν - kc ν) + 1) (n := slots + (ks ν - ks ν) + 6) (by omega) (by omega) ?_
        exact kk Ad (mn_rfl _) (kp_rfl _ _)
      · skip
        rcases cd_cons ec with ⟨e0, e1⟩ | ec
        · have hf1 : cells + (kc ν - kc ν) + 1 ≤ 299000 := hf.1
          have hf2 : slots + (ks ν - ks ν) + 6 ≤ 3090000 := hf.2
          refine g_aload_n C dL_law_1156 rfl 1 rfl ?_
          refine g_aload_n C dL_law_1157 rfl 0 rfl ?_
          refine g_iload C dL_law_1158 4 rfl ?_
          refine g_iconst (v := 1) C dL_law_1160 (by decide) ?_
          refine g_iadd C dL_law_1161 ?_
          refine g_ialdX C hX hbl hbA q1.1 dL_law_1162 ?_
          rw [q1.2]
          refine g_aload_n C dL_law_1163 rfl 0 rfl ?_
          refine g_iload C dL_law_1164 4 rfl ?_
          refine g_iconst (v := 2) C dL_law_1166 (by decide) ?_
          refine g_iadd C dL_law_1167 ?_
          refine g_ialdX C hX hbl hbA q2.1 dL_law_1168 ?_
          rw [q2.2]
          refine g_aload_n C dL_law_1169 rfl 0 rfl ?_
          refine g_iload C dL_law_1170 4 rfl ?_
          refine g_iconst (v := 3) C dL_law_1172 (by decide) ?_
          refine g_iadd C dL_law_1173 ?_
          refine g_ialdX C hX hbl hbA q3.1 dL_law_1174 ?_
          rw [q3.2]
          refine g_aload_n C dL_law_1175 rfl 3 rfl ?_
          refine g_cSh (n := 5) (exr := []) C hEv hN h3 [_, _, _, _, _] _ rfl rfl [] rfl rfl (fun sz => e3_L_replace l hl B μ ν a Ad w x1 x2 x3 r.2 (thrS hr e0) hI.1 hI.2.1 D E sz) rfl gh_replace gw_0 gw_1191 gw_1192 ⟨by decide +kernel, by decide +kernel, by decide +kernel⟩ ⟨rfl, rfl⟩ ⟨Nat.le_of_ble_eq_true rfl, Nat.le_of_ble_eq_true rfl⟩ (Nat.le_of_ble_eq_true rfl) dL_law_1176 (rm_hf (by omega) (by omega)) (fun r8 u hp hx => ?_)
          obtain ⟨er8, rfl⟩ := hp
          rw [er8]
          try dsimp only [List.nil_append]
          refine g_istore (lv' := [(5, .int 3), (0, .ref b), (1, .ref (Ad 0 0)), (2, .ref (Ad 40 0)), (3, .ref (Ad 90 0)), (4, .int i)]) C dL_law_1179 (by decide) rfl ?_
          refine g_aload_n C dL_law_1181 rfl 3 rfl ?_
          refine g_aload_n C dL_law_1182 rfl 1 rfl ?_
          refine g_iload C dL_law_1183 5 rfl ?_
          refine g_iconst (v := 1) C dL_law_1185 (by decide) ?_
          refine g_iadd C dL_law_1186 ?_
          refine g_ialdX C hX hbl hbA q1.1 dL_law_1187 ?_
          rw [q1.2]
          refine g_aload_n C dL_law_1188 rfl 1 rfl ?_
          refine g_iload C dL_law_1189 5 rfl ?_
          refine g_iconst (v := 2) C dL_law_1191 (by decide) ?_
          refine g_iadd C dL_law_1192 ?_
          refine g_ialdX C hX hbl hbA q2.1 dL_law_1193 ?_
          rw [q2.2]
          refine g_aload_n C dL_law_1194 rfl 1 rfl ?_
          refine g_iload C dL_law_1195 5 rfl ?_
          refine g_iconst (v := 3) C dL_law_1197 (by decide) ?_
          refine g_iadd C dL_law_1198 ?_
          refine g_ialdX C hX hbl hbA q3.1 dL_law_1199 ?_
          rw [q3.2]
          refine g_cVi (n := 3) (exc := []) (exr := []) C [_, _, _] _ rfl rfl [] [] rfl rfl rfl rfl (fun _ _ h => absurd h (by simp)) (fun _ h => absurd h (by simp)) (fun _ h => absurd h (by simp)) (fun sz => zk_replace l μ ν a Ad hI.2.2 w x1 x2 x3 q hq D E sz) rfl gw_1691 gw_9 gw_1688 gw_1689 gw_1690 ⟨by decide +kernel, by decide +kernel, by decide +kernel⟩ ⟨rfl, rfl⟩ ⟨Nat.le_of_ble_eq_true rfl, Nat.le_of_ble_eq_true rfl⟩ (rcvT ⟨hI.2.2.1, fun e => absurd e (by decide)⟩ rfl rfl rfl) (Nat.le_of_ble_eq_true rfl) dL_law_1200 (rm_hf (by omega) (by omega)) (fun r9 u hp hx => ?_)
          obtain ⟨er9, rfl⟩ := hp
          rw [er9]
          try dsimp only [List.nil_append]
          refine g_istore (lv' := [(6, .int q.2), (5, .int 3), (0, .ref b), (1, .ref (Ad 0 0)), (2, .ref (Ad 40 0)), (3, .ref (Ad 90 0)), (4, .int i)]) C dL_law_1203 (by decide) rfl ?_
          refine g_aload_n C dL_law_1205 rfl 4 rfl ?_
          refine g_cVi (n := 0) (exc := []) (exr := []) C [] _ rfl rfl [] [] rfl rfl rfl rfl (fun _ _ h => absurd h (by simp)) (fun _ h => absurd h (by simp)) (fun _ h => absurd h (by simp)) (fun sz => zk_thrown l μ ν q.1 Ad hI.2.2 w  t ht D E sz) rfl gw_1468 gw_9 gw_1465 gw_1466 gw_1467 ⟨by decide +kernel, by decide +kernel, by decide +kernel⟩ ⟨rfl, rfl⟩ ⟨Nat.le_of_ble_eq_true rfl, Nat.le_of_ble_eq_true rfl⟩ (rcvT ⟨hI.2.2.1, fun e => absurd e (by decide)⟩ rfl rfl rfl) (Nat.le_of_ble_eq_true rfl) dL_law_1206 (rm_hf (by omega) (by omega)) (fun r9 u hp hx => ?_)
          obtain ⟨er9, rfl⟩ := hp
          rw [er9]
          try dsimp only [List.nil_append]
          refine g_iload C dL_law_1209 1 rfl ?_
          refine g_icmp_eq (tgt := 1216) C dL_law_1211 (by decide) (fun c1 => ?_) (fun c1 => absurd e1 c1)
          refine g_iload C dL_law_1216 1 rfl ?_
          refine g_if_ne (tgt := 1233) C dL_law_1218 (by decide) (fun c2 => ?_) (fun c2 => absurd c2 (by decide))
          refine g_goto (tgt := 2215) C dL_law_1233 (by decide) ?_
          refine g_lv (lv' := [(0, .ref b), (1, .ref (Ad 0 0)), (2, .ref (Ad 40 0)), (3, .ref (Ad 90 0)), (4, .int i)]) [2, 3, 4, 5, 6] rfl ?_
          refine g_widen (k := cells + (kc ν - kc ν) + 1) (n := slots + (ks ν - ks ν) + 6) (by omega) (by omega) ?_
          exact kk Ad (mn_rfl _) (kp_rfl _ _)
        · exact cd_nil ec
noncomputable def s_stateOf (w : Nat) (μ : MP) (ν : NC) (a : AS) (x1 : Int32) : Option ((MP × NC) × AS) := (f_X8_stateOf w μ ν x1).bind fun r => (f_X9_stateOf w a x1).bind fun q => (f_X9_thrown w q.1).bind fun t => lwq true [(1, 1)] μ ν (r.1, ((μ, ν), r.2)) q t
set_option maxHeartbeats 4000000 in
set_option maxRecDepth 100000 in
theorem w_stateOf {p : Program} {l : Launch} {e : Env} {s : State} {m : MethodId} {args : Array Value} {below : List Frame} {meth : Method} {c : Code} {D : va_G} {E : Nat → ClassId} {A : Nat → Prop} {Q : State → Prop} {B : Nat × (Nat → Nat)} {a30 a31 : Nat} {μ : MP} {ν : NC} {a : AS} {Ad : Nat → Nat → Nat} {w : Nat} {b L : Nat} {xs : Nat → Int32} {cells slots : Nat} (C : cx p s m args meth c D E A cL_law 7 "TradeLineLaw") (hEv : eV a30 a31 B A s s.heap) (hN : vN s) (hl : l.stackTraces = false) (hI : lwI ν) (h3 : Ad 30 0 = a30 ∧ Ad 31 0 = a31) (hX : va_X b L xs s s.heap) (hbl : b < s.heap.size) (hbA : ¬ A b) {i x1 : Int32} (q1 : vp_in (i + 1) L ∧ xs (i + 1).toNatClampNeg = x1) {S : (MP × NC) × AS} (h : s_stateOf w μ ν a x1 = some S) (hf : cells + (kc S.1.2 - kc ν) + 1 ≤ 299000 ∧ slots + (ks S.1.2 - ks ν) + 6 ≤ 3090000) (kk : ∀ A1, mn ν S.1.2 → kp ν Ad A1 → G p l e room_1 s m args below meth c D E A 7 Q (zS S.1.1 S.1.2 S.2 A1) [] (cells + (kc S.1.2 - kc ν) + 1) (slots + (ks S.1.2 - ks ν) + 6) 2215 [(0, .ref b), (1, .ref (A1 0 0)), (2, .ref (A1 40 0)), (3, .ref (A1 90 0)), (4, .int i)] []) : G p l e room_1 s m args below meth c D E A 7 Q (zS μ ν a Ad) [] (cells) (slots) 1236 [(0, .ref b), (1, .ref (Ad 0 0)), (2, .ref (Ad 40 0)), (3, .ref (Ad 90 0)), (4, .int i)] [] := by
  unfold s_stateOf at h
  obtain ⟨r, hr, h⟩ := bind_of h
  obtain ⟨q, hq, h⟩ := bind_of h
  obtain ⟨t, ht, h⟩ := bind_of h
  rcases lwq_t h with ⟨e0, e1, e2, rfl⟩ | ⟨ec, rfl⟩
  · replace e0 : r.1 = 0 := e0
    have hf1 : cells + (kc ν - kc ν) + 1 ≤ 299000 := hf.1
    have hf2 : slots + (ks ν - ks ν) + 6 ≤ 3090000 := hf.2
    refine g_aload_n C dL_law_1236 rfl 1 rfl ?_
    refine g_aload_n C dL_law_1237 rfl 0 rfl ?_
    refine g_iload C dL_law_1238 4 rfl ?_
    refine g_iconst (v := 1) C dL_law_1240 (by decide) ?_
    refine g_iadd C dL_law_1241 ?_
    refine g_ialdX C hX hbl hbA q1.1 dL_law_1242 ?_
    rw [q1.2]
    refine g_aload_n C dL_law_1243 rfl 3 rfl ?_
    refine g_cSh (n := 3) (exr := []) C hEv hN h3 [_, _, _] _ rfl rfl [] rfl rfl (fun sz => r_L_stateOf l B μ ν a Ad w x1 r.2 (thr0 hr e0) hI.1 hI.2.1 D E sz) rfl gh_stateOf gw_0 gw_1198 gw_1199 ⟨by decide +kernel, by decide +kernel, by decide +kernel⟩ ⟨rfl, rfl⟩ ⟨Nat.le_of_ble_eq_true rfl, Nat.le_of_ble_eq_true rfl⟩ (Nat.le_of_ble_eq_true rfl) dL_law_1244 (rm_hf (by omega) (by omega)) (fun r8 u hp hx => ?_)
    obtain ⟨er8, rfl⟩ := hp
    rw [er8]
    try dsimp only [List.nil_append]
    refine g_istore (lv' := [(5, .int 0), (0, .ref b), (1, .ref (Ad 0 0)), (2, .ref (Ad 40 0)), (3, .ref (Ad 90 0)), (4, .int i)]) C dL_law_1247 (by decide) rfl ?_
    refine g_aload_n C dL_law_1249 rfl 3 rfl ?_
    refine g_aload_n C dL_law_1250 rfl 1 rfl ?_
    refine g_iload C dL_law_1251 5 rfl ?_
    refine g_iconst (v := 1) C dL_law_1253 (by decide) ?_
    refine g_iadd C dL_law_1254 ?_
    refine g_ialdX C hX hbl hbA q1.1 dL_law_1255 ?_
    rw [q1.2]
    refine g_cVi (n := 1) (exc := []) (exr := []) C [_] _ rfl rfl [] [] rfl rfl rfl rfl (fun _ _ h => absurd h (by simp)) (fun _ h => absurd h (by simp)) (fun _ h => absurd h (by simp)) (fun sz => zk_stateOf l (up3 μ.1 90 0 0 r.2, μ.2) ν a Ad hI.2.2 w x1 q hq D E sz) rfl gw_1695 gw_9 gw_1692 gw_1693 gw_1694 ⟨by decide +kernel, by decide +kernel, by decide +kernel⟩ ⟨rfl, rfl⟩ ⟨Nat.le_of_ble_eq_true rfl, Nat.le_of_ble_eq_true rfl⟩ (rcvT ⟨hI.2.2.1, fun e => absurd e (by decide)⟩ rfl rfl rfl) (Nat.le_of_ble_eq_true rfl) dL_law_1256 (rm_hf (by omega) (by omega)) (fun r9 u hp hx => ?_)
    obtain ⟨er9, rfl⟩ := hp
    rw [er9]
    try dsimp only [List.nil_append]
    refine g_istore (lv' := [(6, .int q.2), (5, .int 0), (0, .ref b), (1, .ref (Ad 0 0)), (2, .ref (Ad 40 0)), (3, .ref (Ad 90 0)), (4, .int i)]) C dL_law_1259 (by decide) rfl ?_
    refine g_aload_n C dL_law_1261 rfl 4 rfl ?_
    refine g_cVi (n := 0) (exc := []) (exr := []) C [] _ rfl rfl [] [] rfl rfl rfl rfl (fun _ _ h => absurd h (by simp)) (fun _ h => absurd h (by simp)) (fun _ h => absurd h (by simp)) (fun sz => zk_thrown l (up3 μ.1 90 0 0 r.2, μ.2) ν q.1 Ad hI.2.2 w  t ht D E sz) rfl gw_1468 gw_9 gw_1465 gw_1466 gw_1467 ⟨by decide +kernel, by decide +kernel, by decide +kernel⟩ ⟨rfl, rfl⟩ ⟨Nat.le_of_ble_eq_true rfl, Nat.le_of_ble_eq_true rfl⟩ (rcvT ⟨hI.2.2.1, fun e => absurd e (by decide)⟩ rfl rfl rfl) (Nat.le_of_ble_eq_true rfl) dL_law_1262 (rm_hf (by omega) (by omega)) (fun r9 u hp hx => ?_)
    obtain ⟨er9, rfl⟩ := hp
    rw [er9]
    try dsimp only [List.nil_append]
    refine g_iload C dL_law_1265 1 rfl ?_
    refine g_icmp_eq (tgt := 1272) C dL_law_1267 (by decide) (fun c1 => ?_) (fun c1 => absurd e1 c1)
    refine g_iload C dL_law_1272 1 rfl ?_
    refine g_if_ne (tgt := 1289) C dL_law_1274 (by decide) (fun c2 => absurd rfl c2) (fun c2 => ?_)
    refine g_aload_n C dL_law_1277 rfl 5 rfl ?_
    refine g_iconst (v := 0) C dL_law_1278 (by decide) ?_
    refine g_lald (μ := (up3 μ.1 90 0 0 r.2, μ.2)) (ν := ν) (a := q.1) (Ad := Ad) C rfl hI.2.1 dL_law_1279 ?_
    refine g_iload C dL_law_1280 0 rfl ?_
    refine g_i2l C dL_law_1282 rfl ?_
    refine g_lcmp C dL_law_1283 (fun r7 e7 => ?_)
    refine g_if_eq (tgt := 1289) C dL_law_1284 (by decide) (fun c3 => ?_) (fun c3 => absurd (e7.mpr (congrArg Int32.toInt64 (show up3 μ.1 90 0 0 r.2 90 0 0 = _ from (up3_90 _ _).trans e2))) c3)
    refine g_goto (tgt := 2215) C dL_law_1289 (by decide) ?_
    refine g_lv (lv' := [(0, .ref b), (1, .ref (Ad 0 0)), (2, .ref (Ad 40 0)), (3, .ref (Ad 90 0)), (4, .int i)]) [2, 3, 4, 5, 6] rfl ?_
    refine g_widen (k := cells + (kc ν - kc ν) + 1) (n := slots + (ks ν - ks ν) + 6) (by omega) (by omega) ?_
    exact kk Ad (mn_rfl _) (kp_rfl _ _)
  · rcases cd_cons ec with ⟨e0, e1⟩ | ec
    · have hf1 : cells + (kc ν - kc ν) + 1 ≤ 299000 := hf.1
      have hf2 : slots + (ks ν - ks ν) + 6 ≤ 3090000 := hf.2
      refine g_aload_n C dL_law_1236 rfl 1 rfl ?_
      refine g_aload_n C dL_law_1237 rfl 0 rfl ?_
      refine g_iload C dL_law_1238 4 rfl ?_
      refine g_iconst (v := 1) C dL_law_1240 (by decide) ?_
      refine g_iadd C dL_law_1241 ?_
      refine g_ialdX C hX hbl hbA q1.1 dL_law_1242 ?_
      rw [q1.2]
      refine g_aload_n C dL_law_1243 rfl 3 rfl ?_
      refine g_cSh (n := 3) (exr := []) C hEv hN h3 [_, _, _] _ rfl rfl [] rfl rfl (fun sz => e1_L_stateOf l hl B μ ν a Ad w x1 r.2 (thrS hr e0) hI.1 hI.2.1 D E sz) rfl gh_stateOf gw_0 gw_1198 gw_1199 ⟨by decide +kernel, by decide +kernel, by decide +kernel⟩ ⟨rfl, rfl⟩ ⟨Nat.le_of_ble_eq_true rfl, Nat.le_of_ble_eq_true rfl⟩ (Nat.le_of_ble_eq_true rfl) dL_law_1244 (rm_hf (by omega) (by omega)) (fun r8 u hp hx => ?_)
      obtain ⟨er8, rfl⟩ := hp
      rw [er8]
      try dsimp only [List.nil_append]
      refine g_istore (lv' := [(5, .int 1), (0, .ref b), (1, .ref (Ad 0 0)), (2, .ref (Ad 40 0)), (3, .ref (Ad 90 0)), (4, .int i)]) C dL_law_1247 (by decide) rfl ?_
      refine g_aload_n C dL_law_1249 rfl 3 rfl ?_
      refine g_aload_n C dL_law_1250 rfl 1 rfl ?_
      refine g_iload C dL_law_1251 5 rfl ?_
      refine g_iconst (v := 1) C dL_law_1253 (by decide) ?_
      refine g_iadd C dL_law_1254 ?_
      refine g_ialdX C hX hbl hbA q1.1 dL_law_1255 ?_
      rw [q1.2]
      refine g_cVi (n := 1) (exc := []) (exr := []) C [_] _ rfl rfl [] [] rfl rfl rfl rfl (fun _ _ h => absurd h (by simp)) (fun _ h => absurd h (by simp)) (fun _ h => absurd h (by simp)) (fun sz => zk_stateOf l μ ν a Ad hI.2.2 w x1 q hq D E sz) rfl gw_1695 gw_9 gw_1692 gw_1693 gw_1694 ⟨by decide +kernel, by decide +kernel, by decide +kernel⟩ ⟨rfl, rfl⟩ ⟨Nat.le_of_ble_eq_true rfl, Nat.le_of_ble_eq_true rfl⟩ (rcvT ⟨hI.2.2.1, fun e => absurd e (by decide)⟩ rfl rfl rfl) (Nat.le_of_ble_eq_true rfl) dL_law_1256 (rm_hf (by omega) (by omega)) (fun r9 u hp hx => ?_)
      obtain ⟨er9, rfl⟩ := hp
      rw [er9]
      try dsimp only [List.nil_append]
      refine g_istore (lv' := [(6, .int q.2), (5, .int 1), (0, .ref b), (1, .ref (Ad 0 0)), (2, .ref (Ad 40 0)), (3, .ref (Ad 90 0)), (4, .int i)]) C dL_law_1259 (by decide) rfl ?_
      refine g_aload_n C dL_law_1261 rfl 4 rfl ?_
      refine g_cVi (n := 0) (exc := []) (exr := []) C [] _ rfl rfl [] [] rfl rfl rfl rfl (fun _ _ h => absurd h (by simp)) (fun _ h => absurd h (by simp)) (fun _ h => absurd h (by simp)) (fun sz => zk_thrown l μ ν q.1 Ad hI.2.2 w  t ht D E sz) rfl gw_1468 gw_9 gw_1465 gw_1466 gw_1467 ⟨by decide +kernel, by decide +kernel, by decide +kernel⟩ ⟨rfl, rfl⟩ ⟨Nat.le_of_ble_eq_true rfl, Nat.le_of_ble_eq_true rfl⟩ (rcvT ⟨hI.2.2.1, fun e => absurd e (by decide)⟩ rfl rfl rfl) (Nat.le_of_ble_eq_true rfl) dL_law_1262 (rm_hf (by omega) (by omega)) (fun r9 u hp hx => ?_)
      obtain ⟨er9, rfl⟩ := hp
      rw [er9]
      try dsimp only [List.nil_append]
      refine g_iload C dL_law_1265 1 rfl ?_
      refine g_icmp_eq (tgt := 1272) C dL_law_1267 (by decide) (fun c1 => ?_) (fun c1 => absurd e1 c1)
      refine g_iload C dL_law_1272 1 rfl ?_
      refine g_if_ne (tgt := 1289) C dL_law_1274 (by decide) (fun c2 => ?_) (fun c2 => absurd c2 (by decide))
      refine g_goto (tgt := 2215) C dL_law_1289 (by decide) ?_
      refine g_lv (lv' := [(0, .ref b), (1, .ref (Ad 0 0)), (2, .ref (Ad 40 0)), (3, .ref (Ad 90 0)), (4, .int i)]) [2, 3, 4, 5, 6] rfl ?_
      refine g_widen (k := cells + (kc ν - kc ν) + 1) (n := slots + (ks ν - ks ν) + 6) (by omega) (by omega) ?_
      exact kk Ad (mn_rfl _) (kp_rfl _ _)
    · exact cd_nil ec
