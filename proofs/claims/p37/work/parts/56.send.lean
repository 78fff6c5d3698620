noncomputable def b_X8_send_L_85  (w : Nat) (μ : MP) (ν : NC) : Option ((MP × NC) × Int32) := some ((μ, ν), (0 : Int32))
theorem mb_X8_send_L_85 {w : Nat} {μ : MP} {ν : NC} {r0 : (MP × NC) × Int32}   (h : b_X8_send_L_85  w μ ν  = some r0) : mn ν r0.1.2 := by
  unfold b_X8_send_L_85 at h
  iterate 40 (try first | (with_reducible replace h := (of_guard h).2) | (with_reducible (replace h := of_guardP h; obtain ⟨hg, h⟩ := h)) | (with_reducible replace h := yl_of h rfl) | (with_reducible replace h := (of_thr h).2) | (with_reducible (replace h := bind_of h; obtain ⟨v, hv, h⟩ := h)) | (with_reducible split at h) | (with_reducible (replace h := Option.some.inj h; obtain rfl := h; exact mn_rfl _)) | (with_reducible exact absurd (congrArg Prod.fst (Option.some.inj h)) (by simp)))
set_option maxHeartbeats 4000000 in
set_option maxRecDepth 100000 in
theorem lb_X8_send_L_85 {p : Program} {l : Launch} {e : Env} {s : State} {m : MethodId} {args : Array Value} {below : List Frame} {meth : Method} {c : Code} {D : va_G} {E : Nat → ClassId} {sz : Nat} {μ0 : MP} {ν0 : NC} {a : AS} {Ad0 : Nat → Nat → Nat} {w : Nat} {B : Nat × (Nat → Nat)} {r0 : (MP × NC) × Int32} (C : cx p s m args meth c D E (Aof (zS μ0 ν0 a Ad0) [] s.heap.size) cX8_send 6 "TradeLine") (hEv : eV (Ad0 30 0) (Ad0 31 0) B (Aof (zS μ0 ν0 a Ad0) [] s.heap.size) s s.heap) (hr : meth.sig.returnType = none) (hz : s.heap.size = sz) {μ : MP} {ν : NC} {Ad : Nat → Nat → Nat} (hm0 : mn ν0 ν) (hp0 : kp ν0 Ad0 Ad)   (h : b_X8_send_L_85  w μ ν  = some r0) : G p l e ({ frames := 7, cells := kc r0.1.2 - kc ν0, slots := ks r0.1.2 - ks ν0, locals := 221 } : Room) s m args below meth c D E (Aof (zS μ0 ν0 a Ad0) [] s.heap.size) 6 (MQ below (cQ D E sz (zS μ0 ν0 a Ad0) [] (pV (fun u => ∃ A1, u = (zS r0.1.1 r0.1.2 a A1, []) ∧ kp ν0 Ad0 A1))) args s (kc r0.1.2 - kc ν0) (ks r0.1.2 - ks ν0) (Aof (zS μ0 ν0 a Ad0) [] s.heap.size)) (zS μ ν a Ad) [] (kc ν - kc ν0) (ks ν - ks ν0) 85 [(0, .ref (Ad 0 0))] [] := by
  have m0 := mb_X8_send_L_85  h
  have e1 := m0.2.1; have e2 := m0.2.2.1; have e3 := hm0.2.1; have e4 := hm0.2.2.1
  unfold b_X8_send_L_85 at h
  obtain rfl := Option.some.inj h
  exact g_vret C hr hz ⟨(hm0.2.2.2 30 (by decide) (by decide)).1, (hm0.2.2.2 31 (by decide) (by decide)).1, hp0.2.1, hp0.2.2⟩ ⟨Ad, rfl, hp0⟩ (fun j x h => by simp at h) dX8_send_85
noncomputable def b_X8_send_L_51  (w : Nat) (μ : MP) (ν : NC) (x1 : Int32) (p4 : Nat) (x5 : Int32) (s0 : Int32) : Option ((MP × NC) × Int32) := bif ltB 0 (ν.2 0) then bif nzB p4 then bif ltB (p4 - 1) (ν.2 1) then yl (uM μ 1 (p4 - 1) 7 (μ.1 0 0 9)) (fun m16 => (if (m16.1 0 0 8) = (0 : Int32) then (b_X8_send_L_85  w m16 ν ) else ((f_X8_otherSide w m16 ν x1).bind (fun v17 => (f_X8_party w m16 ν v17).bind (fun v18 => bif nzB v18 then bif ltB (v18 - 1) (ν.2 1) then bif ltB (v18 - 1) (ν.2 2) then (f_X7_put w m16 ν (v18 - 1) x5 (1 : Int32)).bind (fun v22 => b_X8_send_L_85  w v22.1.1 v22.1.2 ) else none else none else none))))) else none else none else none
theorem mb_X8_send_L_51 {w : Nat} {μ : MP} {ν : NC} {x1 : Int32} {p4 : Nat} {x5 : Int32} {s0 : Int32} {r0 : (MP × NC) × Int32}   (h : b_X8_send_L_51  w μ ν x1 p4 x5 s0 = some r0) : mn ν r0.1.2 := by
  unfold b_X8_send_L_51 at h
  iterate 40 (try first | (with_reducible replace h := (of_guard h).2) | (with_reducible (replace h := of_guardP h; obtain ⟨hg, h⟩ := h)) | (with_reducible replace h := yl_of h rfl) | (with_reducible replace h := (of_thr h).2) | (with_reducible (replace h := bind_of h; obtain ⟨v, hv, h⟩ := h)) | (with_reducible split at h) | (with_reducible (exact mb_X8_send_L_85  h)) | (with_reducible (exact mn_trans (m_X7_put hv) (mb_X8_send_L_85  h))) | (with_reducible exact absurd (congrArg Prod.fst (Option.some.inj h)) (by simp)))
set_option maxHeartbeats 4000000 in
set_option maxRecDepth 100000 in
theorem lb_X8_send_L_51 {p : Program} {l : Launch} {e : Env} {s : State} {m : MethodId} {args : Array Value} {below : List Frame} {meth : Method} {c : Code} {D : va_G} {E : Nat → ClassId} {sz : Nat} {μ0 : MP} {ν0 : NC} {a : AS} {Ad0 : Nat → Nat → Nat} {w : Nat} {B : Nat × (Nat → Nat)} {r0 : (MP × NC) × Int32} (C : cx p s m args meth c D E (Aof (zS μ0 ν0 a Ad0) [] s.heap.size) cX8_send 6 "TradeLine") (hEv : eV (Ad0 30 0) (Ad0 31 0) B (Aof (zS μ0 ν0 a Ad0) [] s.heap.size) s s.heap) (hr : meth.sig.returnType = none) (hz : s.heap.size = sz) {μ : MP} {ν : NC} {Ad : Nat → Nat → Nat} (hm0 : mn ν0 ν) (hp0 : kp ν0 Ad0 Ad) {x1 : Int32} {p4 : Nat} {x5 : Int32} {s0 : Int32}   (h : b_X8_send_L_51  w μ ν x1 p4 x5 s0 = some r0) : G p l e ({ frames := 7, cells := kc r0.1.2 - kc ν0, slots := ks r0.1.2 - ks ν0, locals := 221 } : Room) s m args below meth c D E (Aof (zS μ0 ν0 a Ad0) [] s.heap.size) 6 (MQ below (cQ D E sz (zS μ0 ν0 a Ad0) [] (pV (fun u => ∃ A1, u = (zS r0.1.1 r0.1.2 a A1, []) ∧ kp ν0 Ad0 A1))) args s (kc r0.1.2 - kc ν0) (ks r0.1.2 - ks ν0) (Aof (zS μ0 ν0 a Ad0) [] s.heap.size)) (zS μ ν a Ad) [] (kc ν - kc ν0) (ks ν - ks ν0) 51 [(0, .ref (Ad 0 0)), (1, .int x1), (4, nv (Ad 1) p4), (5, .int x5)] [.int s0] := by
  have m0 := mb_X8_send_L_51  h
  have e1 := m0.2.1; have e2 := m0.2.2.1; have e3 := hm0.2.1; have e4 := hm0.2.2.1
  unfold b_X8_send_L_51 at h
  refine g_pop C dX8_send_51 rfl ?_
  refine z_aload C dX8_send_52 2 rfl (nv_or _ _) ?_
  refine g_aload_n C dX8_send_54 rfl 0 rfl ?_
  obtain ⟨g13, h⟩ := of_guard h
  refine g_get (k := 0) (i := 0) (ref := "TradeLine") (v := .int (μ.1 0 0 9)) C rfl (lvZ g13 rfl) rfl rfl inGX8 9 (by decide) gw_179 (fun _ h => h) rfl dX8_send_55 ?_
  obtain ⟨g14, h⟩ := of_guard h
  rw [nzB_e g14]
  obtain ⟨g15, h⟩ := of_guard h
  refine z_put (k := 1) (i := (p4 - 1)) (ref := "TradeLine$Party") C rfl g15 rfl rfl rfl inGX5 tyX5 tyX5_ok nmX5 7 (by decide) gw_124 (fun _ h => h) rfl (tyX5_ok 7 (by decide)) rfl rfl (by simp [fvs]) (by simp [fvs, up1]) dX8_send_58 (fun m16 em16 => ?_)
  replace h := yl_of h em16
  refine g_aload_n C dX8_send_61 rfl 0 rfl ?_
  refine g_get (k := 0) (i := 0) (ref := "TradeLine") (v := .int (m16.1 0 0 8)) C rfl (lvZ g13 rfl) rfl rfl inGX8 8 (by decide) gw_178 (fun _ h => h) rfl dX8_send_62 ?_
  refine g_if_eq (tgt := 85) C dX8_send_65 (by decide) (fun c65 => ?_) (fun c65 => ?_)
  · replace h := (if_pos c65).symm.trans h
    refine g_lv [0] rfl ?_
    exact lb_X8_send_L_85 C hEv hr hz hm0 hp0   h
  · replace h := (if_neg c65).symm.trans h
    refine g_aload_n C dX8_send_68 rfl 0 rfl ?_
    refine g_iload_n C dX8_send_69 rfl 1 rfl ?_
    obtain ⟨v17, hv17, h⟩ := bind_of h
    refine g_cSi (n := 1) (exc := []) (exr := []) C [_] _ rfl rfl [] [] rfl rfl rfl rfl (fun _ h => absurd h (by simp)) (fun _ h => absurd h (by simp)) (fun _ h => absurd h (by simp)) (fun sz => c_X8_otherSide l m16 ν a Ad w x1 _ hv17 D E sz) rfl gw_409 gw_1 gw_407 gw_408 ⟨by decide +kernel, by decide +kernel, by decide +kernel⟩ ⟨rfl, rfl⟩ ⟨Nat.le_of_ble_eq_true rfl, Nat.le_of_ble_eq_true rfl⟩ (by first | exact Nat.le_of_ble_eq_true rfl | simp [nv_cat, cat_i, cat_r, cat_n]) dX8_send_70 ⟨by show (kc ν - kc ν0) + 0 ≤ kc r0.1.2 - kc ν0; omega, by show (ks ν - ks ν0) + 0 ≤ ks r0.1.2 - ks ν0; omega⟩ (fun r u hp hx => ?_)
    obtain ⟨er, rfl⟩ := hp
    rw [er]
    try dsimp only [List.append_nil]
    obtain ⟨v18, hv18, h⟩ := bind_of h
    refine g_cVq (n := 1) (exc := []) (exr := []) C [_] _ rfl rfl [] [] rfl rfl rfl rfl (fun _ h => absurd h (by simp)) (fun _ h => absurd h (by simp)) (fun _ h => absurd h (by simp)) (fun sz => c_X8_party l m16 ν a Ad w v17 _ hv18 D E sz) rfl gw_304 gw_1 gw_301 gw_303 gs_2 ⟨by decide +kernel, by decide +kernel, by decide +kernel⟩ ⟨rfl, rfl⟩ ⟨Nat.le_of_ble_eq_true rfl, Nat.le_of_ble_eq_true rfl⟩ (rcvT (lvZ g13 rfl) rfl rfl rfl) (by first | exact Nat.le_of_ble_eq_true rfl | simp [nv_cat, cat_i, cat_r, cat_n]) dX8_send_73 ⟨by show (kc ν - kc ν0) + 0 ≤ kc r0.1.2 - kc ν0; omega, by show (ks ν - ks ν0) + 0 ≤ ks r0.1.2 - ks ν0; omega⟩ (fun r u hp hx => ?_)
    obtain ⟨er, rfl⟩ := hp
    rw [er]
    try dsimp only [List.append_nil]
    obtain ⟨g19, h⟩ := of_guard h
    rw [nzB_e g19]
    obtain ⟨g20, h⟩ := of_guard h
    refine g_get (k := 1) (i := (v18 - 1)) (ref := "TradeLine$Party") (v := .ref (Ad 2 (v18 - 1))) C rfl (lvZ g20 rfl) rfl rfl inGX5 1 (by decide) gw_114 (fun _ h => h) rfl dX8_send_76 ?_
    refine g_iload C dX8_send_79 3 rfl ?_
    refine g_iconst (v := (1 : Int32)) C dX8_send_81 (by decide) ?_
    obtain ⟨g21, h⟩ := of_guard h
    obtain ⟨v22, hv22, h⟩ := bind_of h
    have m2 := m_X7_put hv22
    have m3 := mb_X8_send_L_85  h
    have a1 := hm0.2.1; have a2 := hm0.2.2.1; have b1 := m2.2.1; have b2 := m2.2.2.1; have d1 := m3.2.1; have d2 := m3.2.2.1
    refine g_lv [0] rfl ?_
    refine g_cVve (n := 2) (exc := []) (exr := []) C hEv ⟨hp0.2.1 0, hp0.2.2 0⟩ [_, _] _ rfl rfl [] [] rfl rfl rfl rfl (fun _ h => absurd h (by simp)) (fun _ h => absurd h (by simp)) (fun _ h => absurd h (by simp)) (fun sz => c_X7_put l B m16 ν a Ad w (v18 - 1) x5 (1 : Int32) _ hv22 D E sz) rfl gw_413 gw_6 gw_410 gw_411 gw_412 ⟨by decide +kernel, by decide +kernel, by decide +kernel⟩ ⟨rfl, rfl⟩ ⟨Nat.le_of_ble_eq_true rfl, Nat.le_of_ble_eq_true rfl⟩ (rcvT (lvZ g21 rfl) rfl rfl rfl) (by first | exact Nat.le_of_ble_eq_true rfl | simp [nv_cat, cat_i, cat_r, cat_n]) dX8_send_82 ⟨by show (kc ν - kc ν0) + (kc v22.1.2 - kc ν) ≤ kc r0.1.2 - kc ν0; omega, by show (ks ν - ks ν0) + (ks v22.1.2 - ks ν) ≤ ks r0.1.2 - ks ν0; omega⟩ (fun u hp hx => ?_)
    obtain ⟨A1, rfl, hkp⟩ := hp
    try dsimp only [List.append_nil]
    refine g_widen (k := kc v22.1.2 - kc ν0) (n := ks v22.1.2 - ks ν0) (by omega) (by omega) ?_
    rw [show Ad 0 0 = A1 0 0 from (hkp.1 0 _ rfl (of_decide_eq_true g13)).symm]
    exact lb_X8_send_L_85 C hEv hr hz (mn_trans hm0 m2) (kp_trans hp0 hm0 hkp)   h
noncomputable def b_X8_send_L_48  (w : Nat) (μ : MP) (ν : NC) (x1 : Int32) (p4 : Nat) (x5 : Int32) (sp0 : Nat) (sp1 : Nat) : Option ((MP × NC) × Int32) := bif nzB sp1 then bif ltB (sp1 - 1) (ν.2 4) then bif eqB (eK 5 (sp1 - 1)) 6 then bif ltB 0 (ν.2 0) then bif decide (p4 ≤ ν.2 1) then (f_Jx4a65c_add_9ea2d w μ ν (sp1 - 1) sp0).bind (fun v10 => b_X8_send_L_51  w v10.1.1 v10.1.2 x1 p4 x5 v10.2) else none else none else none else none else none
theorem mb_X8_send_L_48 {w : Nat} {μ : MP} {ν : NC} {x1 : Int32} {p4 : Nat} {x5 : Int32} {sp0 : Nat} {sp1 : Nat} {r0 : (MP × NC) × Int32}   (h : b_X8_send_L_48  w μ ν x1 p4 x5 sp0 sp1 = some r0) : mn ν r0.1.2 := by
  unfold b_X8_send_L_48 at h
  iterate 40 (try first | (with_reducible replace h := (of_guard h).2) | (with_reducible (replace h := of_guardP h; obtain ⟨hg, h⟩ := h)) | (with_reducible replace h := yl_of h rfl) | (with_reducible replace h := (of_thr h).2) | (with_reducible (replace h := bind_of h; obtain ⟨v, hv, h⟩ := h)) | (with_reducible split at h) | (with_reducible (exact mn_trans (m_Jx4a65c_add_9ea2d hv) (mb_X8_send_L_51  h))) | (with_reducible exact absurd (congrArg Prod.fst (Option.some.inj h)) (by simp)))
set_option maxHeartbeats 4000000 in
set_option maxRecDepth 100000 in
theorem lb_X8_send_L_48 {p : Program} {l : Launch} {e : Env} {s : State} {m : MethodId} {args : Array Value} {below : List Frame} {meth : Method} {c : Code} {D : va_G} {E : Nat → ClassId} {sz : Nat} {μ0 : MP} {ν0 : NC} {a : AS} {Ad0 : Nat → Nat → Nat} {w : Nat} {B : Nat × (Nat → Nat)} {r0 : (MP × NC) × Int32} (C : cx p s m args meth c D E (Aof (zS μ0 ν0 a Ad0) [] s.heap.size) cX8_send 6 "TradeLine") (hEv : eV (Ad0 30 0) (Ad0 31 0) B (Aof (zS μ0 ν0 a Ad0) [] s.heap.size) s s.heap) (hr : meth.sig.returnType = none) (hz : s.heap.size = sz) {μ : MP} {ν : NC} {Ad : Nat → Nat → Nat} (hm0 : mn ν0 ν) (hp0 : kp ν0 Ad0 Ad) {x1 : Int32} {p4 : Nat} {x5 : Int32} {sp0 : Nat} {sp1 : Nat}   (h : b_X8_send_L_48  w μ ν x1 p4 x5 sp0 sp1 = some r0) : G p l e ({ frames := 7, cells := kc r0.1.2 - kc ν0, slots := ks r0.1.2 - ks ν0, locals := 221 } : Room) s m args below meth c D E (Aof (zS μ0 ν0 a Ad0) [] s.heap.size) 6 (MQ below (cQ D E sz (zS μ0 ν0 a Ad0) [] (pV (fun u => ∃ A1, u = (zS r0.1.1 r0.1.2 a A1, []) ∧ kp ν0 Ad0 A1))) args s (kc r0.1.2 - kc ν0) (ks r0.1.2 - ks ν0) (Aof (zS μ0 ν0 a Ad0) [] s.heap.size)) (zS μ ν a Ad) [] (kc ν - kc ν0) (ks ν - ks ν0) 48 [(0, .ref (Ad 0 0)), (1, .int x1), (4, nv (Ad 1) p4), (5, .int x5)] [nv (Ad 6) sp0, nv (Ad 4) sp1] := by
  have m0 := mb_X8_send_L_48  h
  have e1 := m0.2.1; have e2 := m0.2.2.1; have e3 := hm0.2.1; have e4 := hm0.2.2.1
  unfold b_X8_send_L_48 at h
  obtain ⟨g7, h⟩ := of_guard h
  rw [nzB_e g7]
  obtain ⟨g8, h⟩ := of_guard h
  obtain ⟨g9, h⟩ := of_guard h
  obtain ⟨g11, h⟩ := of_guard h
  obtain ⟨g12, h⟩ := of_guard h
  obtain ⟨v10, hv10, h⟩ := bind_of h
  have m2 := m_Jx4a65c_add_9ea2d hv10
  have m3 := mb_X8_send_L_51  h
  have a1 := hm0.2.1; have a2 := hm0.2.2.1; have b1 := m2.2.1; have b2 := m2.2.2.1; have d1 := m3.2.1; have d2 := m3.2.2.1
  refine g_lv [0, 1, 2, 3] rfl ?_
  rw [show nv (Ad 6) sp0 = nv (Ad (eK 5 (sp1 - 1))) sp0 from by rw [eqB_e g9]]
  refine g_cVie (n := 1) (exc := []) (exr := []) C hEv ⟨hp0.2.1 0, hp0.2.2 0⟩ [_] _ rfl rfl [] [] rfl rfl rfl rfl (fun _ h => absurd h (by simp)) (fun _ h => absurd h (by simp)) (fun _ h => absurd h (by simp)) (fun sz => c_Jx4a65c_add_9ea2d l B μ ν a Ad w (sp1 - 1) sp0 _ hv10 D E sz) rfl gw_354 gw_5 gw_351 gw_352 gw_353 ⟨by decide +kernel, by decide +kernel, by decide +kernel⟩ ⟨rfl, rfl⟩ ⟨Nat.le_of_ble_eq_true rfl, Nat.le_of_ble_eq_true rfl⟩ (rcvT (lvZ g8 rfl) rfl rfl rfl) (by first | exact Nat.le_of_ble_eq_true rfl | simp [nv_cat, cat_i, cat_r, cat_n]) dX8_send_48 ⟨by show (kc ν - kc ν0) + (kc v10.1.2 - kc ν) ≤ kc r0.1.2 - kc ν0; omega, by show (ks ν - ks ν0) + (ks v10.1.2 - ks ν) ≤ ks r0.1.2 - ks ν0; omega⟩ (fun r u hp hx => ?_)
  obtain ⟨er, A1, rfl, hkp⟩ := hp
  rw [er]
  try dsimp only [List.append_nil]
  refine g_widen (k := kc v10.1.2 - kc ν0) (n := ks v10.1.2 - ks ν0) (by omega) (by omega) ?_
  rw [show Ad 0 0 = A1 0 0 from (hkp.1 0 _ rfl (of_decide_eq_true g11)).symm]
  rw [show nv (Ad 1) p4 = nv (A1 1) p4 from (kp_nv hkp rfl g12).symm]
  exact lb_X8_send_L_51 C hEv hr hz (mn_trans hm0 m2) (kp_trans hp0 hm0 hkp)   h
noncomputable def f_X8_send_L  (w : Nat) (μ : MP) (ν : NC) (x1 : Int32) (x2 : Int32) (n0 : Nat) (f0 : Nat → Int32) : Option ((MP × NC) × Int32) := bif ltB 0 (ν.2 0) then (f_X8_party w μ ν x1).bind (fun v2 => bif nzB v2 then bif ltB (v2 - 1) (ν.2 1) then bif ltB (v2 - 1) (ν.2 4) then yl (((μ.1 4 (v2 - 1) 2) + (1 : Int32))) (fun t6 => (if t6 ≤ (1048576 : Int32) then (@ite _ (nwMsgOk μ ν n0) (Classical.propDecidable _) (b_X8_send_L_48  w (nwMsg μ ν x2 t6 (μ.1 0 0 9) n0 f0).1 (nwMsg μ ν x2 t6 (μ.1 0 0 9) n0 f0).2 x1 ((v2 - 1) + 1) t6 (ν.2 6 + 1) ((v2 - 1) + 1)) none) else (some ((μ, ν), (0 : Int32))))) else none else none else none) else none
theorem mb_X8_send_L_0 {w : Nat} {μ : MP} {ν : NC} {x1 : Int32} {x2 : Int32} {n0 : Nat} {f0 : Nat → Int32} {r0 : (MP × NC) × Int32}   (h : f_X8_send_L  w μ ν x1 x2 n0 f0 = some r0) : mn ν r0.1.2 := by
  unfold f_X8_send_L at h
  iterate 40 (try first | (with_reducible replace h := (of_guard h).2) | (with_reducible (replace h := of_guardP h; obtain ⟨hg, h⟩ := h)) | (with_reducible replace h := yl_of h rfl) | (with_reducible replace h := (of_thr h).2) | (with_reducible (replace h := bind_of h; obtain ⟨v, hv, h⟩ := h)) | (with_reducible split at h) | (with_reducible (exact mn_trans (mn_msg _ _ _ _ _ _ _) (mb_X8_send_L_48  h))) | (with_reducible (replace h := Option.some.inj h; obtain rfl := h; exact mn_rfl _)) | (with_reducible exact absurd (congrArg Prod.fst (Option.some.inj h)) (by simp)))
set_option maxHeartbeats 4000000 in
set_option maxRecDepth 100000 in
theorem lb_X8_send_L_0 {p : Program} {l : Launch} {e : Env} {s : State} {m : MethodId} {args : Array Value} {below : List Frame} {meth : Method} {c : Code} {D : va_G} {E : Nat → ClassId} {sz : Nat} {μ0 : MP} {ν0 : NC} {a : AS} {Ad0 : Nat → Nat → Nat} {w : Nat} {B : Nat × (Nat → Nat)} {r0 : (MP × NC) × Int32} (C : cx p s m args meth c D E (Aof (zS μ0 ν0 a Ad0) [] s.heap.size) cX8_send 6 "TradeLine") (hEv : eV (Ad0 30 0) (Ad0 31 0) B (Aof (zS μ0 ν0 a Ad0) [] s.heap.size) s s.heap) (hr : meth.sig.returnType = none) (hz : s.heap.size = sz) {μ : MP} {ν : NC} {Ad : Nat → Nat → Nat} (hm0 : mn ν0 ν) (hp0 : kp ν0 Ad0 Ad) {x1 : Int32} {x2 : Int32} {n0 : Nat} {f0 : Nat → Int32} {q0 : Nat}   (h : f_X8_send_L  w μ ν x1 x2 n0 f0 = some r0) : G p l e ({ frames := 7, cells := kc r0.1.2 - kc ν0, slots := ks r0.1.2 - ks ν0, locals := 221 } : Room) s m args below meth c D E (Aof (zS μ0 ν0 a Ad0) [] s.heap.size) 6 (MQ below (cQ D E sz (zS μ0 ν0 a Ad0) [] (pV (fun u => ∃ A1, u = (zS r0.1.1 r0.1.2 a A1, []) ∧ kp ν0 Ad0 A1))) args s (kc r0.1.2 - kc ν0) (ks r0.1.2 - ks ν0) (Aof (zS μ0 ν0 a Ad0) [] s.heap.size)) (zS μ ν a Ad) [(q0, .inl (E 0, n0, .inl f0))] (kc ν - kc ν0) (ks ν - ks ν0) 0 [(0, .ref (Ad 0 0)), (1, .int x1), (2, .int x2), (3, .ref q0)] [] := by
  have m0 := mb_X8_send_L_0  h
  have e1 := m0.2.1; have e2 := m0.2.2.1; have e3 := hm0.2.1; have e4 := hm0.2.2.1
  unfold f_X8_send_L at h
  refine g_aload_n C dX8_send_0 rfl 0 rfl ?_
  refine g_iload_n C dX8_send_1 rfl 1 rfl ?_
  obtain ⟨g1, h⟩ := of_guard h
  obtain ⟨v2, hv2, h⟩ := bind_of h
  refine g_cVq (n := 1) (exc := []) (exr := [(q0, .inl (E 0, n0, .inl f0))]) C [_] _ rfl rfl [] [0] rfl rfl rfl rfl (fun _ h => by simp) (fun _ h => absurd h (by simp)) (fun _ h => absurd h (by simp)) (fun sz => c_X8_party l μ ν a Ad w x1 _ hv2 D E sz) rfl gw_304 gw_1 gw_301 gw_303 gs_2 ⟨by decide +kernel, by decide +kernel, by decide +kernel⟩ ⟨rfl, rfl⟩ ⟨Nat.le_of_ble_eq_true rfl, Nat.le_of_ble_eq_true rfl⟩ (rcvT (lvZ g1 rfl) rfl rfl rfl) (by first | exact Nat.le_of_ble_eq_true rfl | simp [nv_cat, cat_i, cat_r, cat_n]) dX8_send_2 ⟨by show (kc ν - kc ν0) + 0 ≤ kc r0.1.2 - kc ν0; omega, by show (ks ν - ks ν0) + 0 ≤ ks r0.1.2 - ks ν0; omega⟩ (fun r u hp hx => ?_)
  obtain ⟨er, rfl⟩ := hp
  rw [er]
  try dsimp only [List.append_nil]
  refine z_astore (lv' := [(4, nv (Ad 1) v2), (0, .ref (Ad 0 0)), (1, .int x1), (2, .int x2), (3, .ref q0)]) C dX8_send_5 (nv_or _ _) (by decide) (by simp [nv_cat, cat_i, cat_r, cat_n]) ?_
  refine z_aload C dX8_send_7 0 rfl (nv_or _ _) ?_
  obtain ⟨g3, h⟩ := of_guard h
  rw [nzB_e g3]
  obtain ⟨g4, h⟩ := of_guard h
  refine g_get (k := 1) (i := (v2 - 1)) (ref := "TradeLine$Party") (v := .ref (Ad 4 (v2 - 1))) C rfl (lvZ g4 rfl) rfl rfl inGX5 0 (by decide) gw_112 (fun _ h => h) rfl dX8_send_9 ?_
  obtain ⟨g5, h⟩ := of_guard h
  refine g_cVi (n := 0) (exc := []) (exr := [(q0, .inl (E 0, n0, .inl f0))]) C [] _ rfl rfl [] [0] rfl rfl rfl rfl (fun _ h => by simp) (fun _ h => absurd h (by simp)) (fun _ h => absurd h (by simp)) (fun sz => c_Jx4a65c_size_8abf5 l μ ν a Ad _ g5 D E sz) rfl gw_308 gw_5 gw_305 gw_306 gw_307 ⟨by decide +kernel, by decide +kernel, by decide +kernel⟩ ⟨rfl, rfl⟩ ⟨Nat.le_of_ble_eq_true rfl, Nat.le_of_ble_eq_true rfl⟩ (rcvT (lvZ g5 rfl) rfl rfl rfl) (by first | exact Nat.le_of_ble_eq_true rfl | simp [nv_cat, cat_i, cat_r, cat_n]) dX8_send_12 ⟨by show (kc ν - kc ν0) + 0 ≤ kc r0.1.2 - kc ν0; omega, by show (ks ν - ks ν0) + 0 ≤ ks r0.1.2 - ks ν0; omega⟩ (fun r u hp hx => ?_)
  obtain ⟨er, rfl⟩ := hp
  rw [er]
  try dsimp only [List.append_nil]
  refine g_iconst (v := (1 : Int32)) C dX8_send_15 (by decide) ?_
  refine g_iadd C dX8_send_16 ?_
  refine q_topi (fun t6 et6 => ?_)
  replace h := yl_of h et6
  refine g_istore (lv' := [(5, .int t6), (4, .ref (Ad 1 (v2 - 1))), (0, .ref (Ad 0 0)), (1, .int x1), (2, .int x2), (3, .ref q0)]) C dX8_send_17 (by decide) rfl ?_
  refine g_iload C dX8_send_19 0 rfl ?_
  refine g_ldcw (v := (1048576 : Int32)) C gw_309 dX8_send_21 ?_
  refine g_icmp_le (tgt := 28) C dX8_send_24 (by decide) (fun c24 => ?_) (fun c24 => ?_)
  · replace h := (if_pos c24).symm.trans h
    refine g_aload C dX8_send_28 1 rfl ?_
    refine g_get (k := 1) (i := (v2 - 1)) (ref := "TradeLine$Party") (v := .ref (Ad 4 (v2 - 1))) C rfl (lvZ g4 rfl) rfl rfl inGX5 0 (by decide) gw_112 (fun _ h => h) rfl dX8_send_30 ?_
    obtain ⟨gm, h⟩ := of_guardP h
    have m2 := mn_msg μ ν x2 t6 (μ.1 0 0 9) n0 f0
    have m3 := mb_X8_send_L_48  h
    have a1 := hm0.2.1; have a2 := hm0.2.2.1; have b1 := m2.2.1; have b2 := m2.2.2.1; have d1 := m3.2.1; have d2 := m3.2.2.1
    have k1 := (kc_msg μ ν x2 t6 (μ.1 0 0 9) n0 f0).1; have k2 := (kc_msg μ ν x2 t6 (μ.1 0 0 9) n0 f0).2
    refine g_new (ci := 6) C inGX3 tyX3 tyX3_ok gw_310 gw_311 gw_18 rfl (fs := [.int 0, .int 0, .null, .int 0]) (fun j hj => match j, hj with | 0, _ => rfl | 1, _ => rfl | 2, _ => rfl | 3, _ => rfl) (by show (kc ν - kc ν0) + 1 ≤ kc r0.1.2 - kc ν0; omega) (by show (ks ν - ks ν0) + 4 ≤ ks r0.1.2 - ks ν0; omega) dX8_send_33 (fun qn hqn hqns => ?_)
    refine g_dup C dX8_send_36 rfl ?_
    refine g_iload_n C dX8_send_37 rfl 4 rfl ?_
    refine g_iload C dX8_send_38 0 rfl ?_
    refine g_aload_n C dX8_send_40 rfl 2 rfl ?_
    refine g_get (k := 0) (i := 0) (ref := "TradeLine") (v := .int (μ.1 0 0 9)) C rfl (lvZ g1 rfl) rfl rfl inGX8 9 (by decide) gw_179 (fun _ h => h) rfl dX8_send_41 ?_
    refine g_aload_n C dX8_send_44 rfl 5 rfl ?_
    refine g_lv [2, 3, 1, 0] rfl ?_
    refine g_cI (n := 4) (exc := [(qn, .inr (6, [.int 0, .int 0, .null, .int 0])), (q0, .inl (E 0, n0, .inl f0))]) (exr := []) C [_, _, _, _] _ rfl rfl [1, 0] [] rfl rfl rfl rfl (fun _ h => by simp at h) (fun q h => by simp at h; exact ⟨0, _, by rw [h]; rfl⟩) (fun q h => by simp at h; rw [h]; exact hqn) (fun sz => k_msg_L l (zS μ ν a Ad) qn q0 n0 f0 x2 t6 (μ.1 0 0 9) gm.2.2 D E sz) rfl gw_314 gw_18 gw_312 gw_313 rfl ⟨by decide +kernel, by decide +kernel, by decide +kernel⟩ ⟨rfl, rfl⟩ ⟨Nat.le_of_ble_eq_true rfl, Nat.le_of_ble_eq_true rfl⟩ (by first | exact Nat.le_of_ble_eq_true rfl | simp [nv_cat, cat_i, cat_r, cat_n]) dX8_send_45 ⟨by show (kc ν - kc ν0) + 1 + 2 ≤ kc r0.1.2 - kc ν0; omega, by show (ks ν - ks ν0) + 4 + (n0 + 10) ≤ ks r0.1.2 - ks ν0; omega⟩ (fun u hp hx => ?_)
    obtain ⟨qr, rfl⟩ := hp
    have hqr := (hx 1 _ rfl).1
    try dsimp only [List.append_nil]
    refine g_adM gm hqn hqr ?_
    have hkp : kp ν Ad (up2 (up2 Ad 8 (ν.2 8) qr) 6 (ν.2 6) qn) := kp_msg qr qn
    have hqe : up2 (up2 Ad 8 (ν.2 8) qr) 6 (ν.2 6) qn 6 (ν.2 6) = qn := up2_s _ _ _ _
    generalize up2 (up2 Ad 8 (ν.2 8) qr) 6 (ν.2 6) qn = A1 at hkp hqe ⊢
    rw [← hqe]
    refine g_widen (k := kc (nwMsg μ ν x2 t6 (μ.1 0 0 9) n0 f0).2 - kc ν0) (n := ks (nwMsg μ ν x2 t6 (μ.1 0 0 9) n0 f0).2 - ks ν0) (by show (kc ν - kc ν0) + 1 + 2 ≤ kc (nwMsg μ ν x2 t6 (μ.1 0 0 9) n0 f0).2 - kc ν0; omega) (by show (ks ν - ks ν0) + 4 + (n0 + 10) ≤ ks (nwMsg μ ν x2 t6 (μ.1 0 0 9) n0 f0).2 - ks ν0; omega) ?_
    rw [show Ad 0 0 = A1 0 0 from (hkp.1 0 _ rfl (of_decide_eq_true g1)).symm]
    rw [show Ad 1 (v2 - 1) = A1 1 (v2 - 1) from (hkp.1 1 _ rfl (of_decide_eq_true g4)).symm]
    rw [show Ad 4 (v2 - 1) = A1 4 (v2 - 1) from (hkp.1 4 _ rfl (of_decide_eq_true g5)).symm]
    exact lb_X8_send_L_48 C hEv hr hz (mn_trans hm0 m2) (kp_trans hp0 hm0 hkp)   h
  · replace h := (if_neg c24).symm.trans h
    refine g_ex (ex' := []) [] rfl rfl ?_
    obtain rfl := Option.some.inj h
    exact g_vret C hr hz ⟨(hm0.2.2.2 30 (by decide) (by decide)).1, (hm0.2.2.2 31 (by decide) (by decide)).1, hp0.2.1, hp0.2.2⟩ ⟨Ad, rfl, hp0⟩ (fun j x h => by simp at h) dX8_send_27
theorem m_X8_send_L {w : Nat} {μ : MP} {ν : NC} {x1 : Int32} {x2 : Int32} {n0 : Nat} {f0 : Nat → Int32} {r0 : (MP × NC) × Int32} (h : f_X8_send_L w μ ν x1 x2 n0 f0 = some r0) : mn ν r0.1.2 := mb_X8_send_L_0 h
theorem c_X8_send_L (l : Launch) (B : Nat × (Nat → Nat)) (μ : MP) (ν : NC) (a : AS) (Ad : Nat → Nat → Nat) (w : Nat) (x1 : Int32) (x2 : Int32) (q0 : Nat) (n0 : Nat) (f0 : Nat → Int32) (r0 : (MP × NC) × Int32) (h : f_X8_send_L w μ ν x1 x2 n0 f0 = some r0) : ∀ D E sz, Met l yX8_send gwX8_send ({ frames := 7, cells := kc r0.1.2 - kc ν, slots := ks r0.1.2 - ks ν, locals := 221 } : Room) (cPe D E sz B (zS μ ν a Ad) [(q0, .inl (E 0, n0, .inl f0))] [] [.ref (Ad 0 0), .int x1, .int x2, .ref q0]) (cQ D E sz (zS μ ν a Ad) [] (pV (fun u => ∃ A1, u = (zS r0.1.1 r0.1.2 a A1, []) ∧ kp ν Ad A1))) (kc r0.1.2 - kc ν) (ks r0.1.2 - ks ν) (Aof (zS μ ν a Ad) [] sz) := by
  intro D E sz
  refine g_ofe (cc := cX8_send) (maxL := 6) (ret := none) (own := "TradeLine") (by decide) rfl rfl (Nat.le_of_ble_eq_true rfl) ?_
  intro p e s m args below meth c C hr hin hz ha hwr hEv
  refine g_lv (lv' := [(0, .ref (Ad 0 0)), (1, .int x1), (2, .int x2), (3, .ref q0)]) [0, 1, 2, 3] rfl ?_
  refine g_widen (k := kc ν - kc ν) (n := ks ν - ks ν) (Nat.zero_le _) (Nat.zero_le _) ?_
  exact lb_X8_send_L_0 C hEv hr hz (mn_rfl _) (kp_rfl _ _) h
noncomputable def b_X8_send_N_85  (w : Nat) (μ : MP) (ν : NC) : Option ((MP × NC) × Int32) := some ((μ, ν), (0 : Int32))
theorem mb_X8_send_N_85 {w : Nat} {μ : MP} {ν : NC} {r0 : (MP × NC) × Int32}   (h : b_X8_send_N_85  w μ ν  = some r0) : mn ν r0.1.2 := by
  unfold b_X8_send_N_85 at h
  iterate 40 (try first | (with_reducible replace h := (of_guard h).2) | (with_reducible (replace h := of_guardP h; obtain ⟨hg, h⟩ := h)) | (with_reducible replace h := yl_of h rfl) | (with_reducible replace h := (of_thr h).2) | (with_reducible (replace h := bind_of h; obtain ⟨v, hv, h⟩ := h)) | (with_reducible split at h) | (with_reducible (replace h := Option.some.inj h; obtain rfl := h; exact mn_rfl _)) | (with_reducible exact absurd (congrArg Prod.fst (Option.some.inj h)) (by simp)))
set_option maxHeartbeats 4000000 in
set_option maxRecDepth 100000 in
theorem lb_X8_send_N_85 {p : Program} {l : Launch} {e : Env} {s : State} {m : MethodId} {args : Array Value} {below : List Frame} {meth : Method} {c : Code} {D : va_G} {E : Nat → ClassId} {sz : Nat} {μ0 : MP} {ν0 : NC} {a : AS} {Ad0 : Nat → Nat → Nat} {w : Nat} {B : Nat × (Nat → Nat)} {r0 : (MP × NC) × Int32} (C : cx p s m args meth c D E (Aof (zS μ0 ν0 a Ad0) [] s.heap.size) cX8_send 6 "TradeLine") (hEv : eV (Ad0 30 0) (Ad0 31 0) B (Aof (zS μ0 ν0 a Ad0) [] s.heap.size) s s.heap) (hr : meth.sig.returnType = none) (hz : s.heap.size = sz) {μ : MP} {ν : NC} {Ad : Nat → Nat → Nat} (hm0 : mn ν0 ν) (hp0 : kp ν0 Ad0 Ad)   (h : b_X8_send_N_85  w μ ν  = some r0) : G p l e ({ frames := 7, cells := kc r0.1.2 - kc ν0, slots := ks r0.1.2 - ks ν0, locals := 221 } : Room) s m args below meth c D E (Aof (zS μ0 ν0 a Ad0) [] s.heap.size) 6 (MQ below (cQ D E sz (zS μ0 ν0 a Ad0) [] (pV (fun u => ∃ A1, u = (zS r0.1.1 r0.1.2 a A1, []) ∧ kp ν0 Ad0 A1))) args s (kc r0.1.2 - kc ν0) (ks r0.1.2 - ks ν0) (Aof (zS μ0 ν0 a Ad0) [] s.heap.size)) (zS μ ν a Ad) [] (kc ν - kc ν0) (ks ν - ks ν0) 85 [(0, .ref (Ad 0 0))] [] := by
  have m0 := mb_X8_send_N_85  h
  have e1 := m0.2.1; have e2 := m0.2.2.1; have e3 := hm0.2.1; have e4 := hm0.2.2.1
  unfold b_X8_send_N_85 at h
  obtain rfl := Option.some.inj h
  exact g_vret C hr hz ⟨(hm0.2.2.2 30 (by decide) (by decide)).1, (hm0.2.2.2 31 (by decide) (by decide)).1, hp0.2.1, hp0.2.2⟩ ⟨Ad, rfl, hp0⟩ (fun j x h => by simp at h) dX8_send_85
noncomputable def b_X8_send_N_51  (w : Nat) (μ : MP) (ν : NC) (x1 : Int32) (p4 : Nat) (x5 : Int32) (s0 : Int32) : Option ((MP × NC) × Int32) := bif ltB 0 (ν.2 0) then bif nzB p4 then bif ltB (p4 - 1) (ν.2 1) then yl (uM μ 1 (p4 - 1) 7 (μ.1 0 0 9)) (fun m18 => (if (m18.1 0 0 8) = (0 : Int32) then (b_X8_send_N_85  w m18 ν ) else ((f_X8_otherSide w m18 ν x1).bind (fun v19 => (f_X8_party w m18 ν v19).bind (fun v20 => bif nzB v20 then bif ltB (v20 - 1) (ν.2 1) then bif ltB (v20 - 1) (ν.2 2) then (f_X7_put w m18 ν (v20 - 1) x5 (1 : Int32)).bind (fun v24 => b_X8_send_N_85  w v24.1.1 v24.1.2 ) else none else none else none))))) else none else none else none
theorem mb_X8_send_N_51 {w : Nat} {μ : MP} {ν : NC} {x1 : Int32} {p4 : Nat} {x5 : Int32} {s0 : Int32} {r0 : (MP × NC) × Int32}   (h : b_X8_send_N_51  w μ ν x1 p4 x5 s0 = some r0) : mn ν r0.1.2 := by
  unfold b_X8_send_N_51 at h
  iterate 40 (try first | (with_reducible replace h := (of_guard h).2) | (with_reducible (replace h := of_guardP h; obtain ⟨hg, h⟩ := h)) | (with_reducible replace h := yl_of h rfl) | (with_reducible replace h := (of_thr h).2) | (with_reducible (replace h := bind_of h; obtain ⟨v, hv, h⟩ := h)) | (with_reducible split at h) | (with_reducible (exact mb_X8_send_N_85  h)) | (with_reducible (exact mn_trans (m_X7_put hv) (mb_X8_send_N_85  h))) | (with_reducible exact absurd (congrArg Prod.fst (Option.some.inj h)) (by simp)))
set_option maxHeartbeats 4000000 in
set_option maxRecDepth 100000 in
theorem lb_X8_send_N_51 {p : Program} {l : Launch} {e : Env} {s : State} {m : MethodId} {args : Array Value} {below : List Frame} {meth : Method} {c : Code} {D : va_G} {E : Nat → ClassId} {sz : Nat} {μ0 : MP} {ν0 : NC} {a : AS} {Ad0 : Nat → Nat → Nat} {w : Nat} {B : Nat × (Nat → Nat)} {r0 : (MP × NC) × Int32} (C : cx p s m args meth c D E (Aof (zS μ0 ν0 a Ad0) [] s.heap.size) cX8_send 6 "TradeLine") (hEv : eV (Ad0 30 0) (Ad0 31 0) B (Aof (zS μ0 ν0 a Ad0) [] s.heap.size) s s.heap) (hr : meth.sig.returnType = none) (hz : s.heap.size = sz) {μ : MP} {ν : NC} {Ad : Nat → Nat → Nat} (hm0 : mn ν0 ν) (hp0 : kp ν0 Ad0 Ad) {x1 : Int32} {p4 : Nat} {x5 : Int32} {s0 : Int32}   (h : b_X8_send_N_51  w μ ν x1 p4 x5 s0 = some r0) : G p l e ({ frames := 7, cells := kc r0.1.2 - kc ν0, slots := ks r0.1.2 - ks ν0, locals := 221 } : Room) s m args below meth c D E (Aof (zS μ0 ν0 a Ad0) [] s.heap.size) 6 (MQ below (cQ D E sz (zS μ0 ν0 a Ad0) [] (pV (fun u => ∃ A1, u = (zS r0.1.1 r0.1.2 a A1, []) ∧ kp ν0 Ad0 A1))) args s (kc r0.1.2 - kc ν0) (ks r0.1.2 - ks ν0) (Aof (zS μ0 ν0 a Ad0) [] s.heap.size)) (zS μ ν a Ad) [] (kc ν - kc ν0) (ks ν - ks ν0) 51 [(0, .ref (Ad 0 0)), (1, .int x1), (4, nv (Ad 1) p4), (5, .int x5)] [.int s0] := by
  have m0 := mb_X8_send_N_51  h
  have e1 := m0.2.1; have e2 := m0.2.2.1; have e3 := hm0.2.1; have e4 := hm0.2.2.1
  unfold b_X8_send_N_51 at h
  refine g_pop C dX8_send_51 rfl ?_
  refine z_aload C dX8_send_52 2 rfl (nv_or _ _) ?_
  refine g_aload_n C dX8_send_54 rfl 0 rfl ?_
  obtain ⟨g15, h⟩ := of_guard h
  refine g_get (k := 0) (i := 0) (ref := "TradeLine") (v := .int (μ.1 0 0 9)) C rfl (lvZ g15 rfl) rfl rfl inGX8 9 (by decide) gw_179 (fun _ h => h) rfl dX8_send_55 ?_
  obtain ⟨g16, h⟩ := of_guard h
  rw [nzB_e g16]
  obtain ⟨g17, h⟩ := of_guard h
  refine z_put (k := 1) (i := (p4 - 1)) (ref := "TradeLine$Party") C rfl g17 rfl rfl rfl inGX5 tyX5 tyX5_ok nmX5 7 (by decide) gw_124 (fun _ h => h) rfl (tyX5_ok 7 (by decide)) rfl rfl (by simp [fvs]) (by simp [fvs, up1]) dX8_send_58 (fun m18 em18 => ?_)
  replace h := yl_of h em18
  refine g_aload_n C dX8_send_61 rfl 0 rfl ?_
  refine g_get (k := 0) (i := 0) (ref := "TradeLine") (v := .int (m18.1 0 0 8)) C rfl (lvZ g15 rfl) rfl rfl inGX8 8 (by decide) gw_178 (fun _ h => h) rfl dX8_send_62 ?_
  refine g_if_eq (tgt := 85) C dX8_send_65 (by decide) (fun c65 => ?_) (fun c65 => ?_)
  · replace h := (if_pos c65).symm.trans h
    refine g_lv [0] rfl ?_
    exact lb_X8_send_N_85 C hEv hr hz hm0 hp0   h
  · replace h := (if_neg c65).symm.trans h
    refine g_aload_n C dX8_send_68 rfl 0 rfl ?_
    refine g_iload_n C dX8_send_69 rfl 1 rfl ?_
    obtain ⟨v19, hv19, h⟩ := bind_of h
    refine g_cSi (n := 1) (exc := []) (exr := []) C [_] _ rfl rfl [] [] rfl rfl rfl rfl (fun _ h => absurd h (by simp)) (fun _ h => absurd h (by simp)) (fun _ h => absurd h (by simp)) (fun sz => c_X8_otherSide l m18 ν a Ad w x1 _ hv19 D E sz) rfl gw_409 gw_1 gw_407 gw_408 ⟨by decide +kernel, by decide +kernel, by decide +kernel⟩ ⟨rfl, rfl⟩ ⟨Nat.le_of_ble_eq_true rfl, Nat.le_of_ble_eq_true rfl⟩ (by first | exact Nat.le_of_ble_eq_true rfl | simp [nv_cat, cat_i, cat_r, cat_n]) dX8_send_70 ⟨by show (kc ν - kc ν0) + 0 ≤ kc r0.1.2 - kc ν0; omega, by show (ks ν - ks ν0) + 0 ≤ ks r0.1.2 - ks ν0; omega⟩ (fun r u hp hx => ?_)
    obtain ⟨er, rfl⟩ := hp
    rw [er]
    try dsimp only [List.append_nil]
    obtain ⟨v20, hv20, h⟩ := bind_of h
    refine g_cVq (n := 1) (exc := []) (exr := []) C [_] _ rfl rfl [] [] rfl rfl rfl rfl (fun _ h => absurd h (by simp)) (fun _ h => absurd h (by simp)) (fun _ h => absurd h (by simp)) (fun sz => c_X8_party l m18 ν a Ad w v19 _ hv20 D E sz) rfl gw_304 gw_1 gw_301 gw_303 gs_2 ⟨by decide +kernel, by decide +kernel, by decide +kernel⟩ ⟨rfl, rfl⟩ ⟨Nat.le_of_ble_eq_true rfl, Nat.le_of_ble_eq_true rfl⟩ (rcvT (lvZ g15 rfl) rfl rfl rfl) (by first | exact Nat.le_of_ble_eq_true rfl | simp [nv_cat, cat_i, cat_r, cat_n]) dX8_send_73 ⟨by show (kc ν - kc ν0) + 0 ≤ kc r0.1.2 - kc ν0; omega, by show (ks ν - ks ν0) + 0 ≤ ks r0.1.2 - ks ν0; omega⟩ (fun r u hp hx => ?_)
    obtain ⟨er, rfl⟩ := hp
    rw [er]
    try dsimp only [List.append_nil]
    obtain ⟨g21, h⟩ := of_guard h
    rw [nzB_e g21]
    obtain ⟨g22, h⟩ := of_guard h
    refine g_get (k := 1) (i := (v20 - 1)) (ref := "TradeLine$Party") (v := .ref (Ad 2 (v20 - 1))) C rfl (lvZ g22 rfl) rfl rfl inGX5 1 (by decide) gw_114 (fun _ h => h) rfl dX8_send_76 ?_
    refine g_iload C dX8_send_79 3 rfl ?_
    refine g_iconst (v := (1 : Int32)) C dX8_send_81 (by decide) ?_
    obtain ⟨g23, h⟩ := of_guard h
    obtain ⟨v24, hv24, h⟩ := bind_of h
    have m2 := m_X7_put hv24
    have m3 := mb_X8_send_N_85  h
    have a1 := hm0.2.1; have a2 := hm0.2.2.1; have b1 := m2.2.1; have b2 := m2.2.2.1; have d1 := m3.2.1; have d2 := m3.2.2.1
    refine g_lv [0] rfl ?_
    refine g_cVve (n := 2) (exc := []) (exr := []) C hEv ⟨hp0.2.1 0, hp0.2.2 0⟩ [_, _] _ rfl rfl [] [] rfl rfl rfl rfl (fun _ h => absurd h (by simp)) (fun _ h => absurd h (by simp)) (fun _ h => absurd h (by simp)) (fun sz => c_X7_put l B m18 ν a Ad w (v20 - 1) x5 (1 : Int32) _ hv24 D E sz) rfl gw_413 gw_6 gw_410 gw_411 gw_412 ⟨by decide +kernel, by decide +kernel, by decide +kernel⟩ ⟨rfl, rfl⟩ ⟨Nat.le_of_ble_eq_true rfl, Nat.le_of_ble_eq_true rfl⟩ (rcvT (lvZ g23 rfl) rfl rfl rfl) (by first | exact Nat.le_of_ble_eq_true rfl | simp [nv_cat, cat_i, cat_r, cat_n]) dX8_send_82 ⟨by show (kc ν - kc ν0) + (kc v24.1.2 - kc ν) ≤ kc r0.1.2 - kc ν0; omega, by show (ks ν - ks ν0) + (ks v24.1.2 - ks ν) ≤ ks r0.1.2 - ks ν0; omega⟩ (fun u hp hx => ?_)
    obtain ⟨A1, rfl, hkp⟩ := hp
    try dsimp only [List.append_nil]
    refine g_widen (k := kc v24.1.2 - kc ν0) (n := ks v24.1.2 - ks ν0) (by omega) (by omega) ?_
    rw [show Ad 0 0 = A1 0 0 from (hkp.1 0 _ rfl (of_decide_eq_true g15)).symm]
    exact lb_X8_send_N_85 C hEv hr hz (mn_trans hm0 m2) (kp_trans hp0 hm0 hkp)   h
noncomputable def b_X8_send_N_48  (w : Nat) (μ : MP) (ν : NC) (x1 : Int32) (p4 : Nat) (x5 : Int32) (sp0 : Nat) (sp1 : Nat) : Option ((MP × NC) × Int32) := bif nzB sp1 then bif ltB (sp1 - 1) (ν.2 4) then bif eqB (eK 5 (sp1 - 1)) 6 then bif ltB 0 (ν.2 0) then bif decide (p4 ≤ ν.2 1) then (f_Jx4a65c_add_9ea2d w μ ν (sp1 - 1) sp0).bind (fun v12 => b_X8_send_N_51  w v12.1.1 v12.1.2 x1 p4 x5 v12.2) else none else none else none else none else none
theorem mb_X8_send_N_48 {w : Nat} {μ : MP} {ν : NC} {x1 : Int32} {p4 : Nat} {x5 : Int32} {sp0 : Nat} {sp1 : Nat} {r0 : (MP × NC) × Int32}   (h : b_X8_send_N_48  w μ ν x1 p4 x5 sp0 sp1 = some r0) : mn ν r0.1.2 := by
  unfold b_X8_send_N_48 at h
  iterate 40 (try first | (with_reducible replace h := (of_guard h).2) | (with_reducible (replace h := of_guardP h; obtain ⟨hg, h⟩ := h)) | (with_reducible replace h := yl_of h rfl) | (with_reducible replace h := (of_thr h).2) | (with_reducible (replace h := bind_of h; obtain ⟨v, hv, h⟩ := h)) | (with_reducible split at h) | (with_reducible (exact mn_trans (m_Jx4a65c_add_9ea2d hv) (mb_X8_send_N_51  h))) | (with_reducible exact absurd (congrArg Prod.fst (Option.some.inj h)) (by simp)))
set_option maxHeartbeats 4000000 in
set_option maxRecDepth 100000 in
theorem lb_X8_send_N_48 {p : Program} {l : Launch} {e : Env} {s : State} {m : MethodId} {args : Array Value} {below : List Frame} {meth : Method} {c : Code} {D : va_G} {E : Nat → ClassId} {sz : Nat} {μ0 : MP} {ν0 : NC} {a : AS} {Ad0 : Nat → Nat → Nat} {w : Nat} {B : Nat × (Nat → Nat)} {r0 : (MP × NC) × Int32} (C : cx p s m args meth c D E (Aof (zS μ0 ν0 a Ad0) [] s.heap.size) cX8_send 6 "TradeLine") (hEv : eV (Ad0 30 0) (Ad0 31 0) B (Aof (zS μ0 ν0 a Ad0) [] s.heap.size) s s.heap) (hr : meth.sig.returnType = none) (hz : s.heap.size = sz) {μ : MP} {ν : NC} {Ad : Nat → Nat → Nat} (hm0 : mn ν0 ν) (hp0 : kp ν0 Ad0 Ad) {x1 : Int32} {p4 : Nat} {x5 : Int32} {sp0 : Nat} {sp1 : Nat}   (h : b_X8_send_N_48  w μ ν x1 p4 x5 sp0 sp1 = some r0) : G p l e ({ frames := 7, cells := kc r0.1.2 - kc ν0, slots := ks r0.1.2 - ks ν0, locals := 221 } : Room) s m args below meth c D E (Aof (zS μ0 ν0 a Ad0) [] s.heap.size) 6 (MQ below (cQ D E sz (zS μ0 ν0 a Ad0) [] (pV (fun u => ∃ A1, u = (zS r0.1.1 r0.1.2 a A1, []) ∧ kp ν0 Ad0 A1))) args s (kc r0.1.2 - kc ν0) (ks r0.1.2 - ks ν0) (Aof (zS μ0 ν0 a Ad0) [] s.heap.size)) (zS μ ν a Ad) [] (kc ν - kc ν0) (ks ν - ks ν0) 48 [(0, .ref (Ad 0 0)), (1, .int x1), (4, nv (Ad 1) p4), (5, .int x5)] [nv (Ad 6) sp0, nv (Ad 4) sp1] := by
  have m0 := mb_X8_send_N_48  h
  have e1 := m0.2.1; have e2 := m0.2.2.1; have e3 := hm0.2.1; have e4 := hm0.2.2.1
  unfold b_X8_send_N_48 at h
  obtain ⟨g9, h⟩ := of_guard h
  rw [nzB_e g9]
  obtain ⟨g10, h⟩ := of_guard h
  obtain ⟨g11, h⟩ := of_guard h
  obtain ⟨g13, h⟩ := of_guard h
  obtain ⟨g14, h⟩ := of_guard h
  obtain ⟨v12, hv12, h⟩ := bind_of h
  have m2 := m_Jx4a65c_add_9ea2d hv12
  have m3 := mb_X8_send_N_51  h
  have a1 := hm0.2.1; have a2 := hm0.2.2.1; have b1 := m2.2.1; have b2 := m2.2.2.1; have d1 := m3.2.1; have d2 := m3.2.2.1
  refine g_lv [0, 1, 2, 3] rfl ?_
  rw [show nv (Ad 6) sp0 = nv (Ad (eK 5 (sp1 - 1))) sp0 from by rw [eqB_e g11]]
  refine g_cVie (n := 1) (exc := []) (exr := []) C hEv ⟨hp0.2.1 0, hp0.2.2 0⟩ [_] _ rfl rfl [] [] rfl rfl rfl rfl (fun _ h => absurd h (by simp)) (fun _ h => absurd h (by simp)) (fun _ h => absurd h (by simp)) (fun sz => c_Jx4a65c_add_9ea2d l B μ ν a Ad w (sp1 - 1) sp0 _ hv12 D E sz) rfl gw_354 gw_5 gw_351 gw_352 gw_353 ⟨by decide +kernel, by decide +kernel, by decide +kernel⟩ ⟨rfl, rfl⟩ ⟨Nat.le_of_ble_eq_true rfl, Nat.le_of_ble_eq_true rfl⟩ (rcvT (lvZ g10 rfl) rfl rfl rfl) (by first | exact Nat.le_of_ble_eq_true rfl | simp [nv_cat, cat_i, cat_r, cat_n]) dX8_send_48 ⟨by show (kc ν - kc ν0) + (kc v12.1.2 - kc ν) ≤ kc r0.1.2 - kc ν0; omega, by show (ks ν - ks ν0) + (ks v12.1.2 - ks ν) ≤ ks r0.1.2 - ks ν0; omega⟩ (fun r u hp hx => ?_)
  obtain ⟨er, A1, rfl, hkp⟩ := hp
  rw [er]
  try dsimp only [List.append_nil]
  refine g_widen (k := kc v12.1.2 - kc ν0) (n := ks v12.1.2 - ks ν0) (by omega) (by omega) ?_
  rw [show Ad 0 0 = A1 0 0 from (hkp.1 0 _ rfl (of_decide_eq_true g13)).symm]
  rw [show nv (Ad 1) p4 = nv (A1 1) p4 from (kp_nv hkp rfl g14).symm]
  exact lb_X8_send_N_51 C hEv hr hz (mn_trans hm0 m2) (kp_trans hp0 hm0 hkp)   h
noncomputable def f_X8_send_N  (w : Nat) (μ : MP) (ν : NC) (x1 : Int32) (x2 : Int32) : Option ((MP × NC) × Int32) := bif ltB 0 (ν.2 0) then (f_X8_party w μ ν x1).bind (fun v2 => bif nzB v2 then bif ltB (v2 - 1) (ν.2 1) then bif ltB (v2 - 1) (ν.2 4) then yl (((μ.1 4 (v2 - 1) 2) + (1 : Int32))) (fun t6 => (if t6 ≤ (1048576 : Int32) then (bif ltB 0 (ν.2 30) then bif eqB (ν.1 30 0) 0 then @ite _ (nwMsgOk μ ν 0) (Classical.propDecidable _) (b_X8_send_N_48  w (nwMsg μ ν x2 t6 (μ.1 0 0 9) 0 (μ.1 30 0)).1 (nwMsg μ ν x2 t6 (μ.1 0 0 9) 0 (μ.1 30 0)).2 x1 ((v2 - 1) + 1) t6 (ν.2 6 + 1) ((v2 - 1) + 1)) none else none else none) else (some ((μ, ν), (0 : Int32))))) else none else none else none) else none
theorem mb_X8_send_N_0 {w : Nat} {μ : MP} {ν : NC} {x1 : Int32} {x2 : Int32} {r0 : (MP × NC) × Int32}   (h : f_X8_send_N  w μ ν x1 x2 = some r0) : mn ν r0.1.2 := by
  unfold f_X8_send_N at h
  iterate 40 (try first | (with_reducible replace h := (of_guard h).2) | (with_reducible (replace h := of_guardP h; obtain ⟨hg, h⟩ := h)) | (with_reducible replace h := yl_of h rfl) | (with_reducible replace h := (of_thr h).2) | (with_reducible (replace h := bind_of h; obtain ⟨v, hv, h⟩ := h)) | (with_reducible split at h) | (with_reducible (exact mn_trans (mn_msg _ _ _ _ _ _ _) (mb_X8_send_N_48  h))) | (with_reducible (replace h := Option.some.inj h; obtain rfl := h; exact mn_rfl _)) | (with_reducible exact absurd (congrArg Prod.fst (Option.some.inj h)) (by simp)))
set_option maxHeartbeats 4000000 in
set_option maxRecDepth 100000 in
theorem lb_X8_send_N_0 {p : Program} {l : Launch} {e : Env} {s : State} {m : MethodId} {args : Array Value} {below : List Frame} {meth : Method} {c : Code} {D : va_G} {E : Nat → ClassId} {sz : Nat} {μ0 : MP} {ν0 : NC} {a : AS} {Ad0 : Nat → Nat → Nat} {w : Nat} {B : Nat × (Nat → Nat)} {r0 : (MP × NC) × Int32} (C : cx p s m args meth c D E (Aof (zS μ0 ν0 a Ad0) [] s.heap.size) cX8_send 6 "TradeLine") (hEv : eV (Ad0 30 0) (Ad0 31 0) B (Aof (zS μ0 ν0 a Ad0) [] s.heap.size) s s.heap) (hr : meth.sig.returnType = none) (hz : s.heap.size = sz) {μ : MP} {ν : NC} {Ad : Nat → Nat → Nat} (hm0 : mn ν0 ν) (hp0 : kp ν0 Ad0 Ad) {x1 : Int32} {x2 : Int32}   (h : f_X8_send_N  w μ ν x1 x2 = some r0) : G p l e ({ frames := 7, cells := kc r0.1.2 - kc ν0, slots := ks r0.1.2 - ks ν0, locals := 221 } : Room) s m args below meth c D E (Aof (zS μ0 ν0 a Ad0) [] s.heap.size) 6 (MQ below (cQ D E sz (zS μ0 ν0 a Ad0) [] (pV (fun u => ∃ A1, u = (zS r0.1.1 r0.1.2 a A1, []) ∧ kp ν0 Ad0 A1))) args s (kc r0.1.2 - kc ν0) (ks r0.1.2 - ks ν0) (Aof (zS μ0 ν0 a Ad0) [] s.heap.size)) (zS μ ν a Ad) [] (kc ν - kc ν0) (ks ν - ks ν0) 0 [(0, .ref (Ad 0 0)), (1, .int x1), (2, .int x2), (3, .ref (Ad 30 0))] [] := by
  have m0 := mb_X8_send_N_0  h
  have e1 := m0.2.1; have e2 := m0.2.2.1; have e3 := hm0.2.1; have e4 := hm0.2.2.1
  unfold f_X8_send_N at h
  refine g_aload_n C dX8_send_0 rfl 0 rfl ?_
  refine g_iload_n C dX8_send_1 rfl 1 rfl ?_
  obtain ⟨g1, h⟩ := of_guard h
  obtain ⟨v2, hv2, h⟩ := bind_of h
  refine g_cVq (n := 1) (exc := []) (exr := []) C [_] _ rfl rfl [] [] rfl rfl rfl rfl (fun _ h => absurd h (by simp)) (fun _ h => absurd h (by simp)) (fun _ h => absurd h (by simp)) (fun sz => c_X8_party l μ ν a Ad w x1 _ hv2 D E sz) rfl gw_304 gw_1 gw_301 gw_303 gs_2 ⟨by decide +kernel, by decide +kernel, by decide +kernel⟩ ⟨rfl, rfl⟩ ⟨Nat.le_of_ble_eq_true rfl, Nat.le_of_ble_eq_true rfl⟩ (rcvT (lvZ g1 rfl) rfl rfl rfl) (by first | exact Nat.le_of_ble_eq_true rfl | simp [nv_cat, cat_i, cat_r, cat_n]) dX8_send_2 ⟨by show (kc ν - kc ν0) + 0 ≤ kc r0.1.2 - kc ν0; omega, by show (ks ν - ks ν0) + 0 ≤ ks r0.1.2 - ks ν0; omega⟩ (fun r u hp hx => ?_)
  obtain ⟨er, rfl⟩ := hp
  rw [er]
  try dsimp only [List.append_nil]
  refine z_astore (lv' := [(4, nv (Ad 1) v2), (0, .ref (Ad 0 0)), (1, .int x1), (2, .int x2), (3, .ref (Ad 30 0))]) C dX8_send_5 (nv_or _ _) (by decide) (by simp [nv_cat, cat_i, cat_r, cat_n]) ?_
  refine z_aload C dX8_send_7 0 rfl (nv_or _ _) ?_
  obtain ⟨g3, h⟩ := of_guard h
  rw [nzB_e g3]
  obtain ⟨g4, h⟩ := of_guard h
  refine g_get (k := 1) (i := (v2 - 1)) (ref := "TradeLine$Party") (v := .ref (Ad 4 (v2 - 1))) C rfl (lvZ g4 rfl) rfl rfl inGX5 0 (by decide) gw_112 (fun _ h => h) rfl dX8_send_9 ?_
  obtain ⟨g5, h⟩ := of_guard h
  refine g_cVi (n := 0) (exc := []) (exr := []) C [] _ rfl rfl [] [] rfl rfl rfl rfl (fun _ h => absurd h (by simp)) (fun _ h => absurd h (by simp)) (fun _ h => absurd h (by simp)) (fun sz => c_Jx4a65c_size_8abf5 l μ ν a Ad _ g5 D E sz) rfl gw_308 gw_5 gw_305 gw_306 gw_307 ⟨by decide +kernel, by decide +kernel, by decide +kernel⟩ ⟨rfl, rfl⟩ ⟨Nat.le_of_ble_eq_true rfl, Nat.le_of_ble_eq_true rfl⟩ (rcvT (lvZ g5 rfl) rfl rfl rfl) (by first | exact Nat.le_of_ble_eq_true rfl | simp [nv_cat, cat_i, cat_r, cat_n]) dX8_send_12 ⟨by show (kc ν - kc ν0) + 0 ≤ kc r0.1.2 - kc ν0; omega, by show (ks ν - ks ν0) + 0 ≤ ks r0.1.2 - ks ν0; omega⟩ (fun r u hp hx => ?_)
  obtain ⟨er, rfl⟩ := hp
  rw [er]
  try dsimp only [List.append_nil]
  refine g_iconst (v := (1 : Int32)) C dX8_send_15 (by decide) ?_
  refine g_iadd C dX8_send_16 ?_
  refine q_topi (fun t6 et6 => ?_)
  replace h := yl_of h et6
  refine g_istore (lv' := [(5, .int t6), (4, .ref (Ad 1 (v2 - 1))), (0, .ref (Ad 0 0)), (1, .int x1), (2, .int x2), (3, .ref (Ad 30 0))]) C dX8_send_17 (by decide) rfl ?_
  refine g_iload C dX8_send_19 0 rfl ?_
  refine g_ldcw (v := (1048576 : Int32)) C gw_309 dX8_send_21 ?_
  refine g_icmp_le (tgt := 28) C dX8_send_24 (by decide) (fun c24 => ?_) (fun c24 => ?_)
  · replace h := (if_pos c24).symm.trans h
    refine g_aload C dX8_send_28 1 rfl ?_
    refine g_get (k := 1) (i := (v2 - 1)) (ref := "TradeLine$Party") (v := .ref (Ad 4 (v2 - 1))) C rfl (lvZ g4 rfl) rfl rfl inGX5 0 (by decide) gw_112 (fun _ h => h) rfl dX8_send_30 ?_
    obtain ⟨g7, h⟩ := of_guard h
    obtain ⟨g8, h⟩ := of_guard h
    obtain ⟨gm, h⟩ := of_guardP h
    have m2 := mn_msg μ ν x2 t6 (μ.1 0 0 9) 0 (μ.1 30 0)
    have m3 := mb_X8_send_N_48  h
    have a1 := hm0.2.1; have a2 := hm0.2.2.1; have b1 := m2.2.1; have b2 := m2.2.2.1; have d1 := m3.2.1; have d2 := m3.2.2.1
    have k1 := (kc_msg μ ν x2 t6 (μ.1 0 0 9) 0 (μ.1 30 0)).1; have k2 := (kc_msg μ ν x2 t6 (μ.1 0 0 9) 0 (μ.1 30 0)).2
    refine g_new (ci := 6) C inGX3 tyX3 tyX3_ok gw_310 gw_311 gw_18 rfl (fs := [.int 0, .int 0, .null, .int 0]) (fun j hj => match j, hj with | 0, _ => rfl | 1, _ => rfl | 2, _ => rfl | 3, _ => rfl) (by show (kc ν - kc ν0) + 1 ≤ kc r0.1.2 - kc ν0; omega) (by show (ks ν - ks ν0) + 4 ≤ ks r0.1.2 - ks ν0; omega) dX8_send_33 (fun qn hqn hqns => ?_)
    refine g_dup C dX8_send_36 rfl ?_
    refine g_iload_n C dX8_send_37 rfl 4 rfl ?_
    refine g_iload C dX8_send_38 0 rfl ?_
    refine g_aload_n C dX8_send_40 rfl 2 rfl ?_
    refine g_get (k := 0) (i := 0) (ref := "TradeLine") (v := .int (μ.1 0 0 9)) C rfl (lvZ g1 rfl) rfl rfl inGX8 9 (by decide) gw_179 (fun _ h => h) rfl dX8_send_41 ?_
    refine g_aload_n C dX8_send_44 rfl 5 rfl ?_
    refine g_lv [2, 3, 1, 0] rfl ?_
    refine g_cI (n := 4) (exc := [(qn, .inr (6, [.int 0, .int 0, .null, .int 0]))]) (exr := []) C [_, _, _, _] _ rfl rfl [0] [] rfl rfl rfl rfl (fun _ h => by simp at h) (fun q h => by simp at h; exact ⟨0, _, by rw [h]; rfl⟩) (fun q h => by simp at h; rw [h]; exact hqn) (fun sz => k_msg_N l (zS μ ν a Ad) qn x2 t6 (μ.1 0 0 9) (lvZ g7 rfl) (eqB_e g8) D E sz) rfl gw_314 gw_18 gw_312 gw_313 rfl ⟨by decide +kernel, by decide +kernel, by decide +kernel⟩ ⟨rfl, rfl⟩ ⟨Nat.le_of_ble_eq_true rfl, Nat.le_of_ble_eq_true rfl⟩ (by first | exact Nat.le_of_ble_eq_true rfl | simp [nv_cat, cat_i, cat_r, cat_n]) dX8_send_45 ⟨by show (kc ν - kc ν0) + 1 + 2 ≤ kc r0.1.2 - kc ν0; omega, by show (ks ν - ks ν0) + 4 + (0 + 10) ≤ ks r0.1.2 - ks ν0; omega⟩ (fun u hp hx => ?_)
    obtain ⟨qr, rfl⟩ := hp
    have hqr := (hx 1 _ rfl).1
    try dsimp only [List.append_nil]
    rw [show rM (zS μ ν a Ad) 30 0 = μ.1 30 0 from mx_lo μ.1 a (k := 30) (i := 0) rfl]
    refine g_adM gm hqn hqr ?_
    have hkp : kp ν Ad (up2 (up2 Ad 8 (ν.2 8) qr) 6 (ν.2 6) qn) := kp_msg qr qn
    have hqe : up2 (up2 Ad 8 (ν.2 8) qr) 6 (ν.2 6) qn 6 (ν.2 6) = qn := up2_s _ _ _ _
    generalize up2 (up2 Ad 8 (ν.2 8) qr) 6 (ν.2 6) qn = A1 at hkp hqe ⊢
    rw [← hqe]
    refine g_widen (k := kc (nwMsg μ ν x2 t6 (μ.1 0 0 9) 0 (μ.1 30 0)).2 - kc ν0) (n := ks (nwMsg μ ν x2 t6 (μ.1 0 0 9) 0 (μ.1 30 0)).2 - ks ν0) (by show (kc ν - kc ν0) + 1 + 2 ≤ kc (nwMsg μ ν x2 t6 (μ.1 0 0 9) 0 (μ.1 30 0)).2 - kc ν0; omega) (by show (ks ν - ks ν0) + 4 + (0 + 10) ≤ ks (nwMsg μ ν x2 t6 (μ.1 0 0 9) 0 (μ.1 30 0)).2 - ks ν0; omega) ?_
    rw [show Ad 0 0 = A1 0 0 from (hkp.1 0 _ rfl (of_decide_eq_true g1)).symm]
    rw [show Ad 1 (v2 - 1) = A1 1 (v2 - 1) from (hkp.1 1 _ rfl (of_decide_eq_true g4)).symm]
    rw [show Ad 4 (v2 - 1) = A1 4 (v2 - 1) from (hkp.1 4 _ rfl (of_decide_eq_true g5)).symm]
    exact lb_X8_send_N_48 C hEv hr hz (mn_trans hm0 m2) (kp_trans hp0 hm0 hkp)   h
  · replace h := (if_neg c24).symm.trans h
    obtain rfl := Option.some.inj h
    exact g_vret C hr hz ⟨(hm0.2.2.2 30 (by decide) (by decide)).1, (hm0.2.2.2 31 (by decide) (by decide)).1, hp0.2.1, hp0.2.2⟩ ⟨Ad, rfl, hp0⟩ (fun j x h => by simp at h) dX8_send_27
theorem m_X8_send_N {w : Nat} {μ : MP} {ν : NC} {x1 : Int32} {x2 : Int32} {r0 : (MP × NC) × Int32} (h : f_X8_send_N w μ ν x1 x2 = some r0) : mn ν r0.1.2 := mb_X8_send_N_0 h
theorem c_X8_send_N (l : Launch) (B : Nat × (Nat → Nat)) (μ : MP) (ν : NC) (a : AS) (Ad : Nat → Nat → Nat) (w : Nat) (x1 : Int32) (x2 : Int32) (r0 : (MP × NC) × Int32) (h : f_X8_send_N w μ ν x1 x2 = some r0) : ∀ D E sz, Met l yX8_send gwX8_send ({ frames := 7, cells := kc r0.1.2 - kc ν, slots := ks r0.1.2 - ks ν, locals := 221 } : Room) (cPe D E sz B (zS μ ν a Ad) [] [] [.ref (Ad 0 0), .int x1, .int x2, .ref (Ad 30 0)]) (cQ D E sz (zS μ ν a Ad) [] (pV (fun u => ∃ A1, u = (zS r0.1.1 r0.1.2 a A1, []) ∧ kp ν Ad A1))) (kc r0.1.2 - kc ν) (ks r0.1.2 - ks ν) (Aof (zS μ ν a Ad) [] sz) := by
  intro D E sz
  refine g_ofe (cc := cX8_send) (maxL := 6) (ret := none) (own := "TradeLine") (by decide) rfl rfl (Nat.le_of_ble_eq_true rfl) ?_
  intro p e s m args below meth c C hr hin hz ha hwr hEv
  refine g_lv (lv' := [(0, .ref (Ad 0 0)), (1, .int x1), (2, .int x2), (3, .ref (Ad 30 0))]) [0, 1, 2, 3] rfl ?_
  refine g_widen (k := kc ν - kc ν) (n := ks ν - ks ν) (Nat.zero_le _) (Nat.zero_le _) ?_
  exact lb_X8_send_N_0 C hEv hr hz (mn_rfl _) (kp_rfl _ _) h
