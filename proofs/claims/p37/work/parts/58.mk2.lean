noncomputable def b_X8_receive_124  (w : Nat) (μ : MP) (ν : NC) (x2 : Int32) (p4 : Nat) : Option ((MP × NC) × Int32) := bif nzB p4 then bif ltB (p4 - 1) (ν.2 1) then (if x2 = (μ.1 1 (p4 - 1) 4) then (some ((μ, ν), (1 : Int32))) else (some ((μ, ν), (0 : Int32)))) else none else none
theorem mb_X8_receive_124 {w : Nat} {μ : MP} {ν : NC} {x2 : Int32} {p4 : Nat} {r0 : (MP × NC) × Int32}   (h : b_X8_receive_124  w μ ν x2 p4 = some r0) : mn ν r0.1.2 := by
  unfold b_X8_receive_124 at h
  iterate 40 (try first | (with_reducible replace h := (of_guard h).2) | (with_reducible (replace h := of_guardP h; obtain ⟨hg, h⟩ := h)) | (with_reducible replace h := yl_of h rfl) | (with_reducible replace h := (of_thr h).2) | (with_reducible (replace h := bind_of h; obtain ⟨v, hv, h⟩ := h)) | (with_reducible split at h) | (with_reducible (replace h := Option.some.inj h; obtain rfl := h; exact mn_rfl _)) | (with_reducible exact absurd (congrArg Prod.fst (Option.some.inj h)) (by simp)))
set_option maxHeartbeats 4000000 in
set_option maxRecDepth 100000 in
theorem lb_X8_receive_124 {p : Program} {l : Launch} {e : Env} {s : State} {m : MethodId} {args : Array Value} {below : List Frame} {meth : Method} {c : Code} {D : va_G} {E : Nat → ClassId} {sz : Nat} {μ0 : MP} {ν0 : NC} {a : AS} {Ad0 : Nat → Nat → Nat} {w : Nat} {B : Nat × (Nat → Nat)} {r0 : (MP × NC) × Int32} (C : cx p s m args meth c D E (Aof (zS μ0 ν0 a Ad0) [] s.heap.size) cX8_receive 7 "TradeLine") (hEv : eV (Ad0 30 0) (Ad0 31 0) B (Aof (zS μ0 ν0 a Ad0) [] s.heap.size) s s.heap) (hr : meth.sig.returnType = (some .boolean)) (hz : s.heap.size = sz) {μ : MP} {ν : NC} {Ad : Nat → Nat → Nat} (hm0 : mn ν0 ν) (hp0 : kp ν0 Ad0 Ad) {x2 : Int32} {p4 : Nat}   (h : b_X8_receive_124  w μ ν x2 p4 = some r0) : G p l e ({ frames := 9, cells := kc r0.1.2 - kc ν0, slots := ks r0.1.2 - ks ν0, locals := 269 } : Room) s m args below meth c D E (Aof (zS μ0 ν0 a Ad0) [] s.heap.size) 7 (MQ below (cQ D E sz (zS μ0 ν0 a Ad0) [] (pI (fun r u => r = r0.2 ∧ ∃ A1, u = (zS r0.1.1 r0.1.2 a A1, []) ∧ kp ν0 Ad0 A1))) args s (kc r0.1.2 - kc ν0) (ks r0.1.2 - ks ν0) (Aof (zS μ0 ν0 a Ad0) [] s.heap.size)) (zS μ ν a Ad) [] (kc ν - kc ν0) (ks ν - ks ν0) 124 [(0, .ref (Ad 0 0)), (2, .int x2), (4, nv (Ad 1) p4)] [] := by
  have m0 := mb_X8_receive_124  h
  have e1 := m0.2.1; have e2 := m0.2.2.1; have e3 := hm0.2.1; have e4 := hm0.2.2.1
  unfold b_X8_receive_124 at h
  refine g_iload_n C dX8_receive_124 rfl 1 rfl ?_
  refine z_aload C dX8_receive_125 2 rfl (nv_or _ _) ?_
  obtain ⟨g16, h⟩ := of_guard h
  rw [nzB_e g16]
  obtain ⟨g17, h⟩ := of_guard h
  refine g_get (k := 1) (i := (p4 - 1)) (ref := "TradeLine$Party") (v := .int (μ.1 1 (p4 - 1) 4)) C rfl (lvZ g17 rfl) rfl rfl inGX5 4 (by decide) gw_120 (fun _ h => h) rfl dX8_receive_127 ?_
  refine g_icmp_ne (tgt := 137) C dX8_receive_130 (by decide) (fun c130 => ?_) (fun c130 => ?_)
  · replace h := (if_neg c130).symm.trans h
    refine g_iconst (v := (0 : Int32)) C dX8_receive_137 (by decide) ?_
    obtain rfl := Option.some.inj h
    exact g_iret C hr rfl hz ⟨(hm0.2.2.2 30 (by decide) (by decide)).1, (hm0.2.2.2 31 (by decide) (by decide)).1, hp0.2.1, hp0.2.2⟩ ⟨rfl, Ad, rfl, hp0⟩ (fun j x h => by simp at h) dX8_receive_138
  · replace h := (if_pos c130).symm.trans h
    refine g_iconst (v := (1 : Int32)) C dX8_receive_133 (by decide) ?_
    refine g_goto (tgt := 138) C dX8_receive_134 (by decide) ?_
    obtain rfl := Option.some.inj h
    exact g_iret C hr rfl hz ⟨(hm0.2.2.2 30 (by decide) (by decide)).1, (hm0.2.2.2 31 (by decide) (by decide)).1, hp0.2.1, hp0.2.2⟩ ⟨rfl, Ad, rfl, hp0⟩ (fun j x h => by simp at h) dX8_receive_138
noncomputable def b_X8_receive_119  (w : Nat) (μ : MP) (ν : NC) (x1 : Int32) (x2 : Int32) (p4 : Nat) : Option ((MP × NC) × Int32) := bif ltB 0 (ν.2 0) then bif decide (p4 ≤ ν.2 1) then (f_X8_askForExpected w μ ν x1).bind (fun v22 => b_X8_receive_124  w v22.1.1 v22.1.2 x2 p4) else none else none
theorem mb_X8_receive_119 {w : Nat} {μ : MP} {ν : NC} {x1 : Int32} {x2 : Int32} {p4 : Nat} {r0 : (MP × NC) × Int32}   (h : b_X8_receive_119  w μ ν x1 x2 p4 = some r0) : mn ν r0.1.2 := by
  unfold b_X8_receive_119 at h
  iterate 40 (try first | (with_reducible replace h := (of_guard h).2) | (with_reducible (replace h := of_guardP h; obtain ⟨hg, h⟩ := h)) | (with_reducible replace h := yl_of h rfl) | (with_reducible replace h := (of_thr h).2) | (with_reducible (replace h := bind_of h; obtain ⟨v, hv, h⟩ := h)) | (with_reducible split at h) | (with_reducible (exact mn_trans (m_X8_askForExpected hv) (mb_X8_receive_124  h))) | (with_reducible exact absurd (congrArg Prod.fst (Option.some.inj h)) (by simp)))
set_option maxHeartbeats 4000000 in
set_option maxRecDepth 100000 in
theorem lb_X8_receive_119 {p : Program} {l : Launch} {e : Env} {s : State} {m : MethodId} {args : Array Value} {below : List Frame} {meth : Method} {c : Code} {D : va_G} {E : Nat → ClassId} {sz : Nat} {μ0 : MP} {ν0 : NC} {a : AS} {Ad0 : Nat → Nat → Nat} {w : Nat} {B : Nat × (Nat → Nat)} {r0 : (MP × NC) × Int32} (C : cx p s m args meth c D E (Aof (zS μ0 ν0 a Ad0) [] s.heap.size) cX8_receive 7 "TradeLine") (hEv : eV (Ad0 30 0) (Ad0 31 0) B (Aof (zS μ0 ν0 a Ad0) [] s.heap.size) s s.heap) (hr : meth.sig.returnType = (some .boolean)) (hz : s.heap.size = sz) {μ : MP} {ν : NC} {Ad : Nat → Nat → Nat} (hm0 : mn ν0 ν) (hp0 : kp ν0 Ad0 Ad) {x1 : Int32} {x2 : Int32} {p4 : Nat}   (h : b_X8_receive_119  w μ ν x1 x2 p4 = some r0) : G p l e ({ frames := 9, cells := kc r0.1.2 - kc ν0, slots := ks r0.1.2 - ks ν0, locals := 269 } : Room) s m args below meth c D E (Aof (zS μ0 ν0 a Ad0) [] s.heap.size) 7 (MQ below (cQ D E sz (zS μ0 ν0 a Ad0) [] (pI (fun r u => r = r0.2 ∧ ∃ A1, u = (zS r0.1.1 r0.1.2 a A1, []) ∧ kp ν0 Ad0 A1))) args s (kc r0.1.2 - kc ν0) (ks r0.1.2 - ks ν0) (Aof (zS μ0 ν0 a Ad0) [] s.heap.size)) (zS μ ν a Ad) [] (kc ν - kc ν0) (ks ν - ks ν0) 119 [(0, .ref (Ad 0 0)), (1, .int x1), (2, .int x2), (4, nv (Ad 1) p4)] [] := by
  have m0 := mb_X8_receive_119  h
  have e1 := m0.2.1; have e2 := m0.2.2.1; have e3 := hm0.2.1; have e4 := hm0.2.2.1
  unfold b_X8_receive_119 at h
  refine g_aload_n C dX8_receive_119 rfl 0 rfl ?_
  refine g_iload_n C dX8_receive_120 rfl 1 rfl ?_
  obtain ⟨g21, h⟩ := of_guard h
  obtain ⟨g23, h⟩ := of_guard h
  obtain ⟨v22, hv22, h⟩ := bind_of h
  have m2 := m_X8_askForExpected hv22
  have m3 := mb_X8_receive_124  h
  have a1 := hm0.2.1; have a2 := hm0.2.2.1; have b1 := m2.2.1; have b2 := m2.2.2.1; have d1 := m3.2.1; have d2 := m3.2.2.1
  refine g_lv [0, 2, 3] rfl ?_
  refine g_cVve (n := 1) (exc := []) (exr := []) C hEv ⟨hp0.2.1 0, hp0.2.2 0⟩ [_] _ rfl rfl [] [] rfl rfl rfl rfl (fun _ h => absurd h (by simp)) (fun _ h => absurd h (by simp)) (fun _ h => absurd h (by simp)) (fun sz => c_X8_askForExpected l B μ ν a Ad w x1 _ hv22 D E sz) rfl gw_587 gw_1 gw_584 gw_586 gs_14 ⟨by decide +kernel, by decide +kernel, by decide +kernel⟩ ⟨rfl, rfl⟩ ⟨Nat.le_of_ble_eq_true rfl, Nat.le_of_ble_eq_true rfl⟩ (rcvT (lvZ g21 rfl) rfl rfl rfl) (by first | exact Nat.le_of_ble_eq_true rfl | simp [nv_cat, cat_i, cat_r, cat_n]) dX8_receive_121 ⟨by show (kc ν - kc ν0) + (kc v22.1.2 - kc ν) ≤ kc r0.1.2 - kc ν0; omega, by show (ks ν - ks ν0) + (ks v22.1.2 - ks ν) ≤ ks r0.1.2 - ks ν0; omega⟩ (fun u hp hx => ?_)
  obtain ⟨A1, rfl, hkp⟩ := hp
  try dsimp only [List.append_nil]
  refine g_widen (k := kc v22.1.2 - kc ν0) (n := ks v22.1.2 - ks ν0) (by omega) (by omega) ?_
  rw [show Ad 0 0 = A1 0 0 from (hkp.1 0 _ rfl (of_decide_eq_true g21)).symm]
  rw [show nv (Ad 1) p4 = nv (A1 1) p4 from (kp_nv hkp rfl g23).symm]
  exact lb_X8_receive_124 C hEv hr hz (mn_trans hm0 m2) (kp_trans hp0 hm0 hkp)   h
noncomputable def b_X8_receive_100  (w : Nat) (μ : MP) (ν : NC) (x1 : Int32) (x2 : Int32) (x3 : Int32) (p4 : Nat) : Option ((MP × NC) × Int32) := bif nzB p4 then bif ltB (p4 - 1) (ν.2 1) then (if x2 ≤ (μ.1 1 (p4 - 1) 4) then (b_X8_receive_124  w μ ν x2 ((p4 - 1) + 1)) else (bif ltB (p4 - 1) (ν.2 3) then bif ltB 0 (ν.2 0) then (f_X0_hold w μ ν (p4 - 1) x2 x3).bind (fun v19 => b_X8_receive_119  w v19.1.1 v19.1.2 x1 x2 ((p4 - 1) + 1)) else none else none)) else none else none
theorem mb_X8_receive_100 {w : Nat} {μ : MP} {ν : NC} {x1 : Int32} {x2 : Int32} {x3 : Int32} {p4 : Nat} {r0 : (MP × NC) × Int32}   (h : b_X8_receive_100  w μ ν x1 x2 x3 p4 = some r0) : mn ν r0.1.2 := by
  unfold b_X8_receive_100 at h
  iterate 40 (try first | (with_reducible replace h := (of_guard h).2) | (with_reducible (replace h := of_guardP h; obtain ⟨hg, h⟩ := h)) | (with_reducible replace h := yl_of h rfl) | (with_reducible replace h := (of_thr h).2) | (with_reducible (replace h := bind_of h; obtain ⟨v, hv, h⟩ := h)) | (with_reducible split at h) | (with_reducible (exact mb_X8_receive_124  h)) | (with_reducible (exact mn_trans (m_X0_hold hv) (mb_X8_receive_119  h))) | (with_reducible exact absurd (congrArg Prod.fst (Option.some.inj h)) (by simp)))
set_option maxHeartbeats 4000000 in
set_option maxRecDepth 100000 in
theorem lb_X8_receive_100 {p : Program} {l : Launch} {e : Env} {s : State} {m : MethodId} {args : Array Value} {below : List Frame} {meth : Method} {c : Code} {D : va_G} {E : Nat → ClassId} {sz : Nat} {μ0 : MP} {ν0 : NC} {a : AS} {Ad0 : Nat → Nat → Nat} {w : Nat} {B : Nat × (Nat → Nat)} {r0 : (MP × NC) × Int32} (C : cx p s m args meth c D E (Aof (zS μ0 ν0 a Ad0) [] s.heap.size) cX8_receive 7 "TradeLine") (hEv : eV (Ad0 30 0) (Ad0 31 0) B (Aof (zS μ0 ν0 a Ad0) [] s.heap.size) s s.heap) (hr : meth.sig.returnType = (some .boolean)) (hz : s.heap.size = sz) {μ : MP} {ν : NC} {Ad : Nat → Nat → Nat} (hm0 : mn ν0 ν) (hp0 : kp ν0 Ad0 Ad) {x1 : Int32} {x2 : Int32} {x3 : Int32} {p4 : Nat}   (h : b_X8_receive_100  w μ ν x1 x2 x3 p4 = some r0) : G p l e ({ frames := 9, cells := kc r0.1.2 - kc ν0, slots := ks r0.1.2 - ks ν0, locals := 269 } : Room) s m args below meth c D E (Aof (zS μ0 ν0 a Ad0) [] s.heap.size) 7 (MQ below (cQ D E sz (zS μ0 ν0 a Ad0) [] (pI (fun r u => r = r0.2 ∧ ∃ A1, u = (zS r0.1.1 r0.1.2 a A1, []) ∧ kp ν0 Ad0 A1))) args s (kc r0.1.2 - kc ν0) (ks r0.1.2 - ks ν0) (Aof (zS μ0 ν0 a Ad0) [] s.heap.size)) (zS μ ν a Ad) [] (kc ν - kc ν0) (ks ν - ks ν0) 100 [(0, .ref (Ad 0 0)), (1, .int x1), (2, .int x2), (3, .int x3), (4, nv (Ad 1) p4)] [] := by
  have m0 := mb_X8_receive_100  h
  have e1 := m0.2.1; have e2 := m0.2.2.1; have e3 := hm0.2.1; have e4 := hm0.2.2.1
  unfold b_X8_receive_100 at h
  refine g_iload_n C dX8_receive_100 rfl 2 rfl ?_
  refine z_aload C dX8_receive_101 4 rfl (nv_or _ _) ?_
  obtain ⟨g14, h⟩ := of_guard h
  rw [nzB_e g14]
  obtain ⟨g15, h⟩ := of_guard h
  refine g_get (k := 1) (i := (p4 - 1)) (ref := "TradeLine$Party") (v := .int (μ.1 1 (p4 - 1) 4)) C rfl (lvZ g15 rfl) rfl rfl inGX5 4 (by decide) gw_120 (fun _ h => h) rfl dX8_receive_103 ?_
  refine g_icmp_le (tgt := 124) C dX8_receive_106 (by decide) (fun c106 => ?_) (fun c106 => ?_)
  · replace h := (if_pos c106).symm.trans h
    refine g_lv [0, 2, 4] rfl ?_
    exact lb_X8_receive_124 C hEv hr hz hm0 hp0   h
  · replace h := (if_neg c106).symm.trans h
    refine g_aload C dX8_receive_109 4 rfl ?_
    refine g_get (k := 1) (i := (p4 - 1)) (ref := "TradeLine$Party") (v := .ref (Ad 3 (p4 - 1))) C rfl (lvZ g15 rfl) rfl rfl inGX5 2 (by decide) gw_116 (fun _ h => h) rfl dX8_receive_111 ?_
    refine g_iload_n C dX8_receive_114 rfl 2 rfl ?_
    refine g_iload_n C dX8_receive_115 rfl 3 rfl ?_
    obtain ⟨g18, h⟩ := of_guard h
    obtain ⟨g20, h⟩ := of_guard h
    obtain ⟨v19, hv19, h⟩ := bind_of h
    have m2 := m_X0_hold hv19
    have m3 := mb_X8_receive_119  h
    have a1 := hm0.2.1; have a2 := hm0.2.2.1; have b1 := m2.2.1; have b2 := m2.2.2.1; have d1 := m3.2.1; have d2 := m3.2.2.1
    refine g_lv [0, 1, 2, 4] rfl ?_
    refine g_cVve (n := 2) (exc := []) (exr := []) C hEv ⟨hp0.2.1 0, hp0.2.2 0⟩ [_, _] _ rfl rfl [] [] rfl rfl rfl rfl (fun _ h => absurd h (by simp)) (fun _ h => absurd h (by simp)) (fun _ h => absurd h (by simp)) (fun sz => c_X0_hold l B μ ν a Ad w (p4 - 1) x2 x3 _ hv19 D E sz) rfl gw_581 gw_7 gw_578 gw_579 gw_580 ⟨by decide +kernel, by decide +kernel, by decide +kernel⟩ ⟨rfl, rfl⟩ ⟨Nat.le_of_ble_eq_true rfl, Nat.le_of_ble_eq_true rfl⟩ (rcvT (lvZ g18 rfl) rfl rfl rfl) (by first | exact Nat.le_of_ble_eq_true rfl | simp [nv_cat, cat_i, cat_r, cat_n]) dX8_receive_116 ⟨by show (kc ν - kc ν0) + (kc v19.1.2 - kc ν) ≤ kc r0.1.2 - kc ν0; omega, by show (ks ν - ks ν0) + (ks v19.1.2 - ks ν) ≤ ks r0.1.2 - ks ν0; omega⟩ (fun u hp hx => ?_)
    obtain ⟨A1, rfl, hkp⟩ := hp
    try dsimp only [List.append_nil]
    refine g_widen (k := kc v19.1.2 - kc ν0) (n := ks v19.1.2 - ks ν0) (by omega) (by omega) ?_
    rw [show Ad 0 0 = A1 0 0 from (hkp.1 0 _ rfl (of_decide_eq_true g20)).symm]
    rw [show Ad 1 (p4 - 1) = A1 1 (p4 - 1) from (hkp.1 1 _ rfl (of_decide_eq_true g15)).symm]
    exact lb_X8_receive_119 C hEv hr hz (mn_trans hm0 m2) (kp_trans hp0 hm0 hkp)   h
noncomputable def b_X8_receive_59  (w : Nat) (μ : MP) (ν : NC) (x1 : Int32) (x2 : Int32) (x3 : Int32) (p4 : Nat) (p5 : Nat) (x6 : Int32) : Option ((MP × NC) × Int32) := bif ltB 0 (ν.2 0) then bif nzB p4 then bif ltB (p4 - 1) (ν.2 1) then yl (uM μ 1 (p4 - 1) 8 (μ.1 0 0 9)) (fun m13 => (if x6 = (0 : Int32) then (yl (uM m13 1 (p4 - 1) 3 (1 : Int32)) (fun m28 => b_X8_receive_100  w m28 ν x1 x2 x3 ((p4 - 1) + 1))) else ((if x6 = (3 : Int32) then (bif nzB p5 then bif ltB (p5 - 1) (ν.2 6) then (f_X3_valueOf w m13 ν (p5 - 1) (7 : Int32)).bind (fun v26 => (f_X8_answer w m13 ν x1 v26).bind (fun v27 => b_X8_receive_100  w v27.1.1 v27.1.2 x1 x2 x3 ((p4 - 1) + 1))) else none else none) else (b_X8_receive_100  w m13 ν x1 x2 x3 ((p4 - 1) + 1)))))) else none else none else none
theorem mb_X8_receive_59 {w : Nat} {μ : MP} {ν : NC} {x1 : Int32} {x2 : Int32} {x3 : Int32} {p4 : Nat} {p5 : Nat} {x6 : Int32} {r0 : (MP × NC) × Int32}   (h : b_X8_receive_59  w μ ν x1 x2 x3 p4 p5 x6 = some r0) : mn ν r0.1.2 := by
  unfold b_X8_receive_59 at h
  iterate 40 (try first | (with_reducible replace h := (of_guard h).2) | (with_reducible (replace h := of_guardP h; obtain ⟨hg, h⟩ := h)) | (with_reducible replace h := yl_of h rfl) | (with_reducible replace h := (of_thr h).2) | (with_reducible (replace h := bind_of h; obtain ⟨v, hv, h⟩ := h)) | (with_reducible split at h) | (with_reducible (exact mb_X8_receive_100  h)) | (with_reducible (exact mn_trans (m_X8_answer hv) (mb_X8_receive_100  h))) | (with_reducible exact absurd (congrArg Prod.fst (Option.some.inj h)) (by simp)))
set_option maxHeartbeats 4000000 in
set_option maxRecDepth 100000 in
theorem lb_X8_receive_59 {p : Program} {l : Launch} {e : Env} {s : State} {m : MethodId} {args : Array Value} {below : List Frame} {meth : Method} {c : Code} {D : va_G} {E : Nat → ClassId} {sz : Nat} {μ0 : MP} {ν0 : NC} {a : AS} {Ad0 : Nat → Nat → Nat} {w : Nat} {B : Nat × (Nat → Nat)} {r0 : (MP × NC) × Int32} (C : cx p s m args meth c D E (Aof (zS μ0 ν0 a Ad0) [] s.heap.size) cX8_receive 7 "TradeLine") (hEv : eV (Ad0 30 0) (Ad0 31 0) B (Aof (zS μ0 ν0 a Ad0) [] s.heap.size) s s.heap) (hr : meth.sig.returnType = (some .boolean)) (hz : s.heap.size = sz) {μ : MP} {ν : NC} {Ad : Nat → Nat → Nat} (hm0 : mn ν0 ν) (hp0 : kp ν0 Ad0 Ad) {x1 : Int32} {x2 : Int32} {x3 : Int32} {p4 : Nat} {p5 : Nat} {x6 : Int32}   (h : b_X8_receive_59  w μ ν x1 x2 x3 p4 p5 x6 = some r0) : G p l e ({ frames := 9, cells := kc r0.1.2 - kc ν0, slots := ks r0.1.2 - ks ν0, locals := 269 } : Room) s m args below meth c D E (Aof (zS μ0 ν0 a Ad0) [] s.heap.size) 7 (MQ below (cQ D E sz (zS μ0 ν0 a Ad0) [] (pI (fun r u => r = r0.2 ∧ ∃ A1, u = (zS r0.1.1 r0.1.2 a A1, []) ∧ kp ν0 Ad0 A1))) args s (kc r0.1.2 - kc ν0) (ks r0.1.2 - ks ν0) (Aof (zS μ0 ν0 a Ad0) [] s.heap.size)) (zS μ ν a Ad) [] (kc ν - kc ν0) (ks ν - ks ν0) 59 [(0, .ref (Ad 0 0)), (1, .int x1), (2, .int x2), (3, .int x3), (4, nv (Ad 1) p4), (5, nv (Ad 6) p5), (6, .int x6)] [] := by
  have m0 := mb_X8_receive_59  h
  have e1 := m0.2.1; have e2 := m0.2.2.1; have e3 := hm0.2.1; have e4 := hm0.2.2.1
  unfold b_X8_receive_59 at h
  refine z_aload C dX8_receive_59 4 rfl (nv_or _ _) ?_
  refine g_aload_n C dX8_receive_61 rfl 0 rfl ?_
  obtain ⟨g10, h⟩ := of_guard h
  refine g_get (k := 0) (i := 0) (ref := "TradeLine") (v := .int (μ.1 0 0 9)) C rfl (lvZ g10 rfl) rfl rfl inGX8 9 (by decide) gw_179 (fun _ h => h) rfl dX8_receive_62 ?_
  obtain ⟨g11, h⟩ := of_guard h
  rw [nzB_e g11]
  obtain ⟨g12, h⟩ := of_guard h
  refine z_put (k := 1) (i := (p4 - 1)) (ref := "TradeLine$Party") C rfl g12 rfl rfl rfl inGX5 tyX5 tyX5_ok nmX5 8 (by decide) gw_125 (fun _ h => h) rfl (tyX5_ok 8 (by decide)) rfl rfl (by simp [fvs]) (by simp [fvs, up1]) dX8_receive_65 (fun m13 em13 => ?_)
  replace h := yl_of h em13
  refine g_iload C dX8_receive_68 6 rfl ?_
  refine g_if_ne (tgt := 82) C dX8_receive_70 (by decide) (fun c70 => ?_) (fun c70 => ?_)
  · replace h := (if_neg c70).symm.trans h
    refine g_iload C dX8_receive_82 6 rfl ?_
    refine g_iconst (v := (3 : Int32)) C dX8_receive_84 (by decide) ?_
    refine g_icmp_ne (tgt := 100) C dX8_receive_85 (by decide) (fun c85 => ?_) (fun c85 => ?_)
    · replace h := (if_neg c85).symm.trans h
      refine g_lv [0, 1, 2, 3, 4] rfl ?_
      exact lb_X8_receive_100 C hEv hr hz hm0 hp0   h
    · replace h := (if_pos c85).symm.trans h
      refine g_aload_n C dX8_receive_88 rfl 0 rfl ?_
      refine g_iload_n C dX8_receive_89 rfl 1 rfl ?_
      refine z_aload C dX8_receive_90 5 rfl (nv_or _ _) ?_
      refine g_bipush (v := (7 : Int32)) C dX8_receive_92 (by decide) ?_
      obtain ⟨g24, h⟩ := of_guard h
      rw [nzB_e g24]
      obtain ⟨g25, h⟩ := of_guard h
      obtain ⟨v26, hv26, h⟩ := bind_of h
      refine g_cVi (n := 1) (exc := []) (exr := []) C [_] _ rfl rfl [] [] rfl rfl rfl rfl (fun _ h => absurd h (by simp)) (fun _ h => absurd h (by simp)) (fun _ h => absurd h (by simp)) (fun sz => c_X3_valueOf l m13 ν a Ad w (p5 - 1) (7 : Int32) _ hv26 D E sz) rfl gw_558 gw_18 gw_555 gw_556 gw_557 ⟨by decide +kernel, by decide +kernel, by decide +kernel⟩ ⟨rfl, rfl⟩ ⟨Nat.le_of_ble_eq_true rfl, Nat.le_of_ble_eq_true rfl⟩ (rcvT (lvZ g25 rfl) rfl rfl rfl) (by first | exact Nat.le_of_ble_eq_true rfl | simp [nv_cat, cat_i, cat_r, cat_n]) dX8_receive_94 ⟨by show (kc ν - kc ν0) + 0 ≤ kc r0.1.2 - kc ν0; omega, by show (ks ν - ks ν0) + 0 ≤ ks r0.1.2 - ks ν0; omega⟩ (fun r u hp hx => ?_)
      obtain ⟨er, rfl⟩ := hp
      rw [er]
      try dsimp only [List.append_nil]
      obtain ⟨v27, hv27, h⟩ := bind_of h
      have m2 := m_X8_answer hv27
      have m3 := mb_X8_receive_100  h
      have a1 := hm0.2.1; have a2 := hm0.2.2.1; have b1 := m2.2.1; have b2 := m2.2.2.1; have d1 := m3.2.1; have d2 := m3.2.2.1
      refine g_lv [0, 1, 2, 3, 4] rfl ?_
      refine g_cVve (n := 2) (exc := []) (exr := []) C hEv ⟨hp0.2.1 0, hp0.2.2 0⟩ [_, _] _ rfl rfl [] [] rfl rfl rfl rfl (fun _ h => absurd h (by simp)) (fun _ h => absurd h (by simp)) (fun _ h => absurd h (by simp)) (fun sz => c_X8_answer l B m13 ν a Ad w x1 v26 _ hv27 D E sz) rfl gw_562 gw_1 gw_559 gw_561 gs_10 ⟨by decide +kernel, by decide +kernel, by decide +kernel⟩ ⟨rfl, rfl⟩ ⟨Nat.le_of_ble_eq_true rfl, Nat.le_of_ble_eq_true rfl⟩ (rcvT (lvZ g10 rfl) rfl rfl rfl) (by first | exact Nat.le_of_ble_eq_true rfl | simp [nv_cat, cat_i, cat_r, cat_n]) dX8_receive_97 ⟨by show (kc ν - kc ν0) + (kc v27.1.2 - kc ν) ≤ kc r0.1.2 - kc ν0; omega, by show (ks ν - ks ν0) + (ks v27.1.2 - ks ν) ≤ ks r0.1.2 - ks ν0; omega⟩ (fun u hp hx => ?_)
      obtain ⟨A1, rfl, hkp⟩ := hp
      try dsimp only [List.append_nil]
      refine g_widen (k := kc v27.1.2 - kc ν0) (n := ks v27.1.2 - ks ν0) (by omega) (by omega) ?_
      rw [show Ad 0 0 = A1 0 0 from (hkp.1 0 _ rfl (of_decide_eq_true g10)).symm]
      rw [show Ad 1 (p4 - 1) = A1 1 (p4 - 1) from (hkp.1 1 _ rfl (of_decide_eq_true g12)).symm]
      exact lb_X8_receive_100 C hEv hr hz (mn_trans hm0 m2) (kp_trans hp0 hm0 hkp)   h
  · replace h := (if_pos c70).symm.trans h
    refine g_aload C dX8_receive_73 4 rfl ?_
    refine g_iconst (v := (1 : Int32)) C dX8_receive_75 (by decide) ?_
    refine z_put (k := 1) (i := (p4 - 1)) (ref := "TradeLine$Party") C rfl g12 rfl rfl rfl inGX5 tyX5 tyX5_ok nmX5 3 (by decide) gw_118 (fun _ h => h) rfl (tyX5_ok 3 (by decide)) rfl rfl (by simp [fvs]) (by simp [fvs, up1]) dX8_receive_76 (fun m28 em28 => ?_)
    replace h := yl_of h em28
    refine g_goto (tgt := 100) C dX8_receive_79 (by decide) ?_
    refine g_lv [0, 1, 2, 3, 4] rfl ?_
    exact lb_X8_receive_100 C hEv hr hz hm0 hp0   h
noncomputable def b_X8_receive_42  (w : Nat) (μ : MP) (ν : NC) (x1 : Int32) (x2 : Int32) (x3 : Int32) (p4 : Nat) (p5 : Nat) (s0 : Int32) : Option ((MP × NC) × Int32) := bif nzB p4 then bif ltB (p4 - 1) (ν.2 1) then (if (μ.1 1 (p4 - 1) 3) = (0 : Int32) then ((if s0 = (0 : Int32) then (b_X8_receive_59  w μ ν x1 x2 x3 ((p4 - 1) + 1) p5 s0) else (some ((μ, ν), (0 : Int32))))) else (b_X8_receive_59  w μ ν x1 x2 x3 ((p4 - 1) + 1) p5 s0)) else none else none
theorem mb_X8_receive_42 {w : Nat} {μ : MP} {ν : NC} {x1 : Int32} {x2 : Int32} {x3 : Int32} {p4 : Nat} {p5 : Nat} {s0 : Int32} {r0 : (MP × NC) × Int32}   (h : b_X8_receive_42  w μ ν x1 x2 x3 p4 p5 s0 = some r0) : mn ν r0.1.2 := by
  unfold b_X8_receive_42 at h
  iterate 40 (try first | (with_reducible replace h := (of_guard h).2) | (with_reducible (replace h := of_guardP h; obtain ⟨hg, h⟩ := h)) | (with_reducible replace h := yl_of h rfl) | (with_reducible replace h := (of_thr h).2) | (with_reducible (replace h := bind_of h; obtain ⟨v, hv, h⟩ := h)) | (with_reducible split at h) | (with_reducible (exact mb_X8_receive_59  h)) | (with_reducible (replace h := Option.some.inj h; obtain rfl := h; exact mn_rfl _)) | (with_reducible exact absurd (congrArg Prod.fst (Option.some.inj h)) (by simp)))
set_option maxHeartbeats 4000000 in
set_option maxRecDepth 100000 in
theorem lb_X8_receive_42 {p : Program} {l : Launch} {e : Env} {s : State} {m : MethodId} {args : Array Value} {below : List Frame} {meth : Method} {c : Code} {D : va_G} {E : Nat → ClassId} {sz : Nat} {μ0 : MP} {ν0 : NC} {a : AS} {Ad0 : Nat → Nat → Nat} {w : Nat} {B : Nat × (Nat → Nat)} {r0 : (MP × NC) × Int32} (C : cx p s m args meth c D E (Aof (zS μ0 ν0 a Ad0) [] s.heap.size) cX8_receive 7 "TradeLine") (hEv : eV (Ad0 30 0) (Ad0 31 0) B (Aof (zS μ0 ν0 a Ad0) [] s.heap.size) s s.heap) (hr : meth.sig.returnType = (some .boolean)) (hz : s.heap.size = sz) {μ : MP} {ν : NC} {Ad : Nat → Nat → Nat} (hm0 : mn ν0 ν) (hp0 : kp ν0 Ad0 Ad) {x1 : Int32} {x2 : Int32} {x3 : Int32} {p4 : Nat} {p5 : Nat} {s0 : Int32}   (h : b_X8_receive_42  w μ ν x1 x2 x3 p4 p5 s0 = some r0) : G p l e ({ frames := 9, cells := kc r0.1.2 - kc ν0, slots := ks r0.1.2 - ks ν0, locals := 269 } : Room) s m args below meth c D E (Aof (zS μ0 ν0 a Ad0) [] s.heap.size) 7 (MQ below (cQ D E sz (zS μ0 ν0 a Ad0) [] (pI (fun r u => r = r0.2 ∧ ∃ A1, u = (zS r0.1.1 r0.1.2 a A1, []) ∧ kp ν0 Ad0 A1))) args s (kc r0.1.2 - kc ν0) (ks r0.1.2 - ks ν0) (Aof (zS μ0 ν0 a Ad0) [] s.heap.size)) (zS μ ν a Ad) [] (kc ν - kc ν0) (ks ν - ks ν0) 42 [(0, .ref (Ad 0 0)), (1, .int x1), (2, .int x2), (3, .int x3), (4, nv (Ad 1) p4), (5, nv (Ad 6) p5)] [.int s0] := by
  have m0 := mb_X8_receive_42  h
  have e1 := m0.2.1; have e2 := m0.2.2.1; have e3 := hm0.2.1; have e4 := hm0.2.2.1
  unfold b_X8_receive_42 at h
  refine g_istore (lv' := [(6, .int s0), (0, .ref (Ad 0 0)), (1, .int x1), (2, .int x2), (3, .int x3), (4, nv (Ad 1) p4), (5, nv (Ad 6) p5)]) C dX8_receive_42 (by decide) (by simp [nv_cat, cat_i, cat_r, cat_n]) ?_
  refine z_aload C dX8_receive_44 5 rfl (nv_or _ _) ?_
  obtain ⟨g8, h⟩ := of_guard h
  rw [nzB_e g8]
  obtain ⟨g9, h⟩ := of_guard h
  refine g_get (k := 1) (i := (p4 - 1)) (ref := "TradeLine$Party") (v := .int (μ.1 1 (p4 - 1) 3)) C rfl (lvZ g9 rfl) rfl rfl inGX5 3 (by decide) gw_118 (fun _ h => h) rfl dX8_receive_46 ?_
  refine g_if_ne (tgt := 59) C dX8_receive_49 (by decide) (fun c49 => ?_) (fun c49 => ?_)
  · replace h := (if_neg c49).symm.trans h
    refine g_lv [1, 2, 3, 4, 5, 6, 0] rfl ?_
    exact lb_X8_receive_59 C hEv hr hz hm0 hp0   h
  · replace h := (if_pos c49).symm.trans h
    refine g_iload C dX8_receive_52 0 rfl ?_
    refine g_if_eq (tgt := 59) C dX8_receive_54 (by decide) (fun c54 => ?_) (fun c54 => ?_)
    · replace h := (if_pos c54).symm.trans h
      refine g_lv [1, 2, 3, 4, 5, 6, 0] rfl ?_
      exact lb_X8_receive_59 C hEv hr hz hm0 hp0   h
    · replace h := (if_neg c54).symm.trans h
      refine g_iconst (v := (0 : Int32)) C dX8_receive_57 (by decide) ?_
      obtain rfl := Option.some.inj h
      exact g_iret C hr rfl hz ⟨(hm0.2.2.2 30 (by decide) (by decide)).1, (hm0.2.2.2 31 (by decide) (by decide)).1, hp0.2.1, hp0.2.2⟩ ⟨rfl, Ad, rfl, hp0⟩ (fun j x h => by simp at h) dX8_receive_58
noncomputable def f_X8_receive  (w : Nat) (μ : MP) (ν : NC) (x1 : Int32) (x2 : Int32) (x3 : Int32) : Option ((MP × NC) × Int32) := bif ltB 0 (ν.2 0) then (f_X8_party w μ ν x1).bind (fun v2 => (f_X8_otherSide w μ ν x1).bind (fun v3 => (f_X8_party w μ ν v3).bind (fun v4 => bif nzB v4 then bif ltB (v4 - 1) (ν.2 1) then (f_X5_message w μ ν (v4 - 1) x2).bind (fun v7 => (if v7 = 0 then (some ((μ, ν), (0 : Int32))) else ((if x3 = (1 : Int32) then (bif ltB (v7 - 1) (ν.2 6) then b_X8_receive_42  w μ ν x1 x2 x3 v2 ((v7 - 1) + 1) (μ.1 6 (v7 - 1) 0) else none) else (b_X8_receive_42  w μ ν x1 x2 x3 v2 ((v7 - 1) + 1) (4 : Int32)))))) else none else none))) else none
theorem mb_X8_receive_0 {w : Nat} {μ : MP} {ν : NC} {x1 : Int32} {x2 : Int32} {x3 : Int32} {r0 : (MP × NC) × Int32}   (h : f_X8_receive  w μ ν x1 x2 x3 = some r0) : mn ν r0.1.2 := by
  unfold f_X8_receive at h
  iterate 40 (try first | (with_reducible replace h := (of_guard h).2) | (with_reducible (replace h := of_guardP h; obtain ⟨hg, h⟩ := h)) | (with_reducible replace h := yl_of h rfl) | (with_reducible replace h := (of_thr h).2) | (with_reducible (replace h := bind_of h; obtain ⟨v, hv, h⟩ := h)) | (with_reducible split at h) | (with_reducible (replace h := Option.some.inj h; obtain rfl := h; exact mn_rfl _)) | (with_reducible (exact mb_X8_receive_42  h)) | (with_reducible exact absurd (congrArg Prod.fst (Option.some.inj h)) (by simp)))
set_option maxHeartbeats 4000000 in
set_option maxRecDepth 100000 in
theorem lb_X8_receive_0 {p : Program} {l : Launch} {e : Env} {s : State} {m : MethodId} {args : Array Value} {below : List Frame} {meth : Method} {c : Code} {D : va_G} {E : Nat → ClassId} {sz : Nat} {μ0 : MP} {ν0 : NC} {a : AS} {Ad0 : Nat → Nat → Nat} {w : Nat} {B : Nat × (Nat → Nat)} {r0 : (MP × NC) × Int32} (C : cx p s m args meth c D E (Aof (zS μ0 ν0 a Ad0) [] s.heap.size) cX8_receive 7 "TradeLine") (hEv : eV (Ad0 30 0) (Ad0 31 0) B (Aof (zS μ0 ν0 a Ad0) [] s.heap.size) s s.heap) (hr : meth.sig.returnType = (some .boolean)) (hz : s.heap.size = sz) {μ : MP} {ν : NC} {Ad : Nat → Nat → Nat} (hm0 : mn ν0 ν) (hp0 : kp ν0 Ad0 Ad) {x1 : Int32} {x2 : Int32} {x3 : Int32}   (h : f_X8_receive  w μ ν x1 x2 x3 = some r0) : G p l e ({ frames := 9, cells := kc r0.1.2 - kc ν0, slots := ks r0.1.2 - ks ν0, locals := 269 } : Room) s m args below meth c D E (Aof (zS μ0 ν0 a Ad0) [] s.heap.size) 7 (MQ below (cQ D E sz (zS μ0 ν0 a Ad0) [] (pI (fun r u => r = r0.2 ∧ ∃ A1, u = (zS r0.1.1 r0.1.2 a A1, []) ∧ kp ν0 Ad0 A1))) args s (kc r0.1.2 - kc ν0) (ks r0.1.2 - ks ν0) (Aof (zS μ0 ν0 a Ad0) [] s.heap.size)) (zS μ ν a Ad) [] (kc ν - kc ν0) (ks ν - ks ν0) 0 [(0, .ref (Ad 0 0)), (1, .int x1), (2, .int x2), (3, .int x3)] [] := by
  have m0 := mb_X8_receive_0  h
  have e1 := m0.2.1; have e2 := m0.2.2.1; have e3 := hm0.2.1; have e4 := hm0.2.2.1
  unfold f_X8_receive at h
  refine g_aload_n C dX8_receive_0 rfl 0 rfl ?_
  refine g_iload_n C dX8_receive_1 rfl 1 rfl ?_
  obtain ⟨g1, h⟩ := of_guard h
  obtain ⟨v2, hv2, h⟩ := bind_of h
  refine g_cVq (n := 1) (exc := []) (exr := []) C [_] _ rfl rfl [] [] rfl rfl rfl rfl (fun _ h => absurd h (by simp)) (fun _ h => absurd h (by simp)) (fun _ h => absurd h (by simp)) (fun sz => c_X8_party l μ ν a Ad w x1 _ hv2 D E sz) rfl gw_304 gw_1 gw_301 gw_303 gs_2 ⟨by decide +kernel, by decide +kernel, by decide +kernel⟩ ⟨rfl, rfl⟩ ⟨Nat.le_of_ble_eq_true rfl, Nat.le_of_ble_eq_true rfl⟩ (rcvT (lvZ g1 rfl) rfl rfl rfl) (by first | exact Nat.le_of_ble_eq_true rfl | simp [nv_cat, cat_i, cat_r, cat_n]) dX8_receive_2 ⟨by show (kc ν - kc ν0) + 0 ≤ kc r0.1.2 - kc ν0; omega, by show (ks ν - ks ν0) + 0 ≤ ks r0.1.2 - ks ν0; omega⟩ (fun r u hp hx => ?_)
  obtain ⟨er, rfl⟩ := hp
  rw [er]
  try dsimp only [List.append_nil]
  refine z_astore (lv' := [(4, nv (Ad 1) v2), (0, .ref (Ad 0 0)), (1, .int x1), (2, .int x2), (3, .int x3)]) C dX8_receive_5 (nv_or _ _) (by decide) (by simp [nv_cat, cat_i, cat_r, cat_n]) ?_
  refine g_aload_n C dX8_receive_7 rfl 1 rfl ?_
  refine g_iload_n C dX8_receive_8 rfl 2 rfl ?_
  obtain ⟨v3, hv3, h⟩ := bind_of h
  refine g_cSi (n := 1) (exc := []) (exr := []) C [_] _ rfl rfl [] [] rfl rfl rfl rfl (fun _ h => absurd h (by simp)) (fun _ h => absurd h (by simp)) (fun _ h => absurd h (by simp)) (fun sz => c_X8_otherSide l μ ν a Ad w x1 _ hv3 D E sz) rfl gw_409 gw_1 gw_407 gw_408 ⟨by decide +kernel, by decide +kernel, by decide +kernel⟩ ⟨rfl, rfl⟩ ⟨Nat.le_of_ble_eq_true rfl, Nat.le_of_ble_eq_true rfl⟩ (by first | exact Nat.le_of_ble_eq_true rfl | simp [nv_cat, cat_i, cat_r, cat_n]) dX8_receive_9 ⟨by show (kc ν - kc ν0) + 0 ≤ kc r0.1.2 - kc ν0; omega, by show (ks ν - ks ν0) + 0 ≤ ks r0.1.2 - ks ν0; omega⟩ (fun r u hp hx => ?_)
  obtain ⟨er, rfl⟩ := hp
  rw [er]
  try dsimp only [List.append_nil]
  obtain ⟨v4, hv4, h⟩ := bind_of h
  refine g_cVq (n := 1) (exc := []) (exr := []) C [_] _ rfl rfl [] [] rfl rfl rfl rfl (fun _ h => absurd h (by simp)) (fun _ h => absurd h (by simp)) (fun _ h => absurd h (by simp)) (fun sz => c_X8_party l μ ν a Ad w v3 _ hv4 D E sz) rfl gw_304 gw_1 gw_301 gw_303 gs_2 ⟨by decide +kernel, by decide +kernel, by decide +kernel⟩ ⟨rfl, rfl⟩ ⟨Nat.le_of_ble_eq_true rfl, Nat.le_of_ble_eq_true rfl⟩ (rcvT (lvZ g1 rfl) rfl rfl rfl) (by first | exact Nat.le_of_ble_eq_true rfl | simp [nv_cat, cat_i, cat_r, cat_n]) dX8_receive_12 ⟨by show (kc ν - kc ν0) + 0 ≤ kc r0.1.2 - kc ν0; omega, by show (ks ν - ks ν0) + 0 ≤ ks r0.1.2 - ks ν0; omega⟩ (fun r u hp hx => ?_)
  obtain ⟨er, rfl⟩ := hp
  rw [er]
  try dsimp only [List.append_nil]
  refine g_iload_n C dX8_receive_15 rfl 3 rfl ?_
  obtain ⟨g5, h⟩ := of_guard h
  rw [nzB_e g5]
  obtain ⟨g6, h⟩ := of_guard h
  obtain ⟨v7, hv7, h⟩ := bind_of h
  refine g_cVq (n := 1) (exc := []) (exr := []) C [_] _ rfl rfl [] [] rfl rfl rfl rfl (fun _ h => absurd h (by simp)) (fun _ h => absurd h (by simp)) (fun _ h => absurd h (by simp)) (fun sz => c_X5_message l μ ν a Ad w (v4 - 1) x2 _ hv7 D E sz) rfl gw_538 gw_2 gw_535 gw_536 gw_537 ⟨by decide +kernel, by decide +kernel, by decide +kernel⟩ ⟨rfl, rfl⟩ ⟨Nat.le_of_ble_eq_true rfl, Nat.le_of_ble_eq_true rfl⟩ (rcvT (lvZ g6 rfl) rfl rfl rfl) (by first | exact Nat.le_of_ble_eq_true rfl | simp [nv_cat, cat_i, cat_r, cat_n]) dX8_receive_16 ⟨by show (kc ν - kc ν0) + 0 ≤ kc r0.1.2 - kc ν0; omega, by show (ks ν - ks ν0) + 0 ≤ ks r0.1.2 - ks ν0; omega⟩ (fun r u hp hx => ?_)
  obtain ⟨er, rfl⟩ := hp
  rw [er]
  try dsimp only [List.append_nil]
  refine z_astore (lv' := [(5, nv (Ad 6) v7), (4, nv (Ad 1) v2), (0, .ref (Ad 0 0)), (1, .int x1), (2, .int x2), (3, .int x3)]) C dX8_receive_19 (nv_or _ _) (by decide) (by simp [nv_cat, cat_i, cat_r, cat_n]) ?_
  refine z_aload C dX8_receive_21 0 rfl (nv_or _ _) ?_
  by_cases c23 : v7 = 0
  · replace h := (if_pos c23).symm.trans h
    rw [nv_z c23]
    refine z_ifnonnullN C dX8_receive_23 ?_
    refine g_iconst (v := (0 : Int32)) C dX8_receive_26 (by decide) ?_
    obtain rfl := Option.some.inj h
    exact g_iret C hr rfl hz ⟨(hm0.2.2.2 30 (by decide) (by decide)).1, (hm0.2.2.2 31 (by decide) (by decide)).1, hp0.2.1, hp0.2.2⟩ ⟨rfl, Ad, rfl, hp0⟩ (fun j x h => by simp at h) dX8_receive_27
  · replace h := (if_neg c23).symm.trans h
    rw [nv_n c23]
    refine z_ifnonnull (tgt := 28) C dX8_receive_23 (by decide) ?_
    refine g_iload_n C dX8_receive_28 rfl 5 rfl ?_
    refine g_iconst (v := (1 : Int32)) C dX8_receive_29 (by decide) ?_
    refine g_icmp_ne (tgt := 41) C dX8_receive_30 (by decide) (fun c30 => ?_) (fun c30 => ?_)
    · replace h := (if_neg c30).symm.trans h
      refine g_iconst (v := (4 : Int32)) C dX8_receive_41 (by decide) ?_
      refine g_lv [2, 3, 4, 5, 1, 0] rfl ?_
      exact lb_X8_receive_42 C hEv hr hz hm0 hp0   h
    · replace h := (if_pos c30).symm.trans h
      refine g_aload C dX8_receive_33 0 rfl ?_
      obtain ⟨g29, h⟩ := of_guard h
      refine g_get (k := 6) (i := (v7 - 1)) (ref := "TradeLine$Message") (v := .int (μ.1 6 (v7 - 1) 0)) C rfl (lvZ g29 rfl) rfl rfl inGX3 0 (by decide) gw_337 (fun _ h => h) rfl dX8_receive_35 ?_
      refine g_goto (tgt := 42) C dX8_receive_38 (by decide) ?_
      refine g_lv [2, 3, 4, 5, 1, 0] rfl ?_
      exact lb_X8_receive_42 C hEv hr hz hm0 hp0   h
theorem m_X8_receive {w : Nat} {μ : MP} {ν : NC} {x1 : Int32} {x2 : Int32} {x3 : Int32} {r0 : (MP × NC) × Int32} (h : f_X8_receive w μ ν x1 x2 x3 = some r0) : mn ν r0.1.2 := mb_X8_receive_0 h
theorem c_X8_receive (l : Launch) (B : Nat × (Nat → Nat)) (μ : MP) (ν : NC) (a : AS) (Ad : Nat → Nat → Nat) (w : Nat) (x1 : Int32) (x2 : Int32) (x3 : Int32) (r0 : (MP × NC) × Int32) (h : f_X8_receive w μ ν x1 x2 x3 = some r0) : ∀ D E sz, Met l yX8_receive gwX8_receive ({ frames := 9, cells := kc r0.1.2 - kc ν, slots := ks r0.1.2 - ks ν, locals := 269 } : Room) (cPe D E sz B (zS μ ν a Ad) [] [] [.ref (Ad 0 0), .int x1, .int x2, .int x3]) (cQ D E sz (zS μ ν a Ad) [] (pI (fun r u => r = r0.2 ∧ ∃ A1, u = (zS r0.1.1 r0.1.2 a A1, []) ∧ kp ν Ad A1))) (kc r0.1.2 - kc ν) (ks r0.1.2 - ks ν) (Aof (zS μ ν a Ad) [] sz) := by
  intro D E sz
  refine g_ofe (cc := cX8_receive) (maxL := 7) (ret := (some .boolean)) (own := "TradeLine") (by decide) rfl rfl (Nat.le_of_ble_eq_true rfl) ?_
  intro p e s m args below meth c C hr hin hz ha hwr hEv
  refine g_lv (lv' := [(0, .ref (Ad 0 0)), (1, .int x1), (2, .int x2), (3, .int x3)]) [0, 1, 2, 3] rfl ?_
  refine g_widen (k := kc ν - kc ν) (n := ks ν - ks ν) (Nat.zero_le _) (Nat.zero_le _) ?_
  exact lb_X8_receive_0 C hEv hr hz (mn_rfl _) (kp_rfl _ _) h
