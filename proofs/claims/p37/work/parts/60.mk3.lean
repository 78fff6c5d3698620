noncomputable def b_X8_connect_80  (w : Nat) (μ : MP) (ν : NC) : Option ((MP × NC) × Int32) := some ((μ, ν), (0 : Int32))
theorem mb_X8_connect_80 {w : Nat} {μ : MP} {ν : NC} {r0 : (MP × NC) × Int32}   (h : b_X8_connect_80  w μ ν  = some r0) : mn ν r0.1.2 := by
  unfold b_X8_connect_80 at h
  iterate 40 (try first | (with_reducible replace h := (of_guard h).2) | (with_reducible (replace h := of_guardP h; obtain ⟨hg, h⟩ := h)) | (with_reducible replace h := yl_of h rfl) | (with_reducible replace h := (of_thr h).2) | (with_reducible (replace h := bind_of h; obtain ⟨v, hv, h⟩ := h)) | (with_reducible split at h) | (with_reducible (replace h := Option.some.inj h; obtain rfl := h; exact mn_rfl _)) | (with_reducible exact absurd (congrArg Prod.fst (Option.some.inj h)) (by simp)))
set_option maxHeartbeats 4000000 in
set_option maxRecDepth 100000 in
theorem lb_X8_connect_80 {p : Program} {l : Launch} {e : Env} {s : State} {m : MethodId} {args : Array Value} {below : List Frame} {meth : Method} {c : Code} {D : va_G} {E : Nat → ClassId} {sz : Nat} {μ0 : MP} {ν0 : NC} {a : AS} {Ad0 : Nat → Nat → Nat} {w : Nat} {B : Nat × (Nat → Nat)} {r0 : (MP × NC) × Int32} (C : cx p s m args meth c D E (Aof (zS μ0 ν0 a Ad0) [] s.heap.size) cX8_connect 2 "TradeLine") (hEv : eV (Ad0 30 0) (Ad0 31 0) B (Aof (zS μ0 ν0 a Ad0) [] s.heap.size) s s.heap) (hr : meth.sig.returnType = none) (hz : s.heap.size = sz) {μ : MP} {ν : NC} {Ad : Nat → Nat → Nat} (hm0 : mn ν0 ν) (hp0 : kp ν0 Ad0 Ad)   (h : b_X8_connect_80  w μ ν  = some r0) : G p l e ({ frames := 8, cells := kc r0.1.2 - kc ν0, slots := ks r0.1.2 - ks ν0, locals := 246 } : Room) s m args below meth c D E (Aof (zS μ0 ν0 a Ad0) [] s.heap.size) 2 (MQ below (cQ D E sz (zS μ0 ν0 a Ad0) [] (pV (fun u => ∃ A1, u = (zS r0.1.1 r0.1.2 a A1, []) ∧ kp ν0 Ad0 A1))) args s (kc r0.1.2 - kc ν0) (ks r0.1.2 - ks ν0) (Aof (zS μ0 ν0 a Ad0) [] s.heap.size)) (zS μ ν a Ad) [] (kc ν - kc ν0) (ks ν - ks ν0) 80 [(0, .ref (Ad 0 0))] [] := by
  have m0 := mb_X8_connect_80  h
  have e1 := m0.2.1; have e2 := m0.2.2.1; have e3 := hm0.2.1; have e4 := hm0.2.2.1
  unfold b_X8_connect_80 at h
  obtain rfl := Option.some.inj h
  exact g_vret C hr hz ⟨(hm0.2.2.2 30 (by decide) (by decide)).1, (hm0.2.2.2 31 (by decide) (by decide)).1, hp0.2.1, hp0.2.2⟩ ⟨Ad, rfl, hp0⟩ (fun j x h => by simp at h) dX8_connect_80
noncomputable def b_X8_connect_71  (w : Nat) (μ : MP) (ν : NC) : Option ((MP × NC) × Int32) := bif ltB 0 (ν.2 0) then (f_X8_send_N w μ ν (1 : Int32) (0 : Int32)).bind (fun v10 => b_X8_connect_80  w v10.1.1 v10.1.2 ) else none
theorem mb_X8_connect_71 {w : Nat} {μ : MP} {ν : NC} {r0 : (MP × NC) × Int32}   (h : b_X8_connect_71  w μ ν  = some r0) : mn ν r0.1.2 := by
  unfold b_X8_connect_71 at h
  iterate 40 (try first | (with_reducible replace h := (of_guard h).2) | (with_reducible (replace h := of_guardP h; obtain ⟨hg, h⟩ := h)) | (with_reducible replace h := yl_of h rfl) | (with_reducible replace h := (of_thr h).2) | (with_reducible (replace h := bind_of h; obtain ⟨v, hv, h⟩ := h)) | (with_reducible split at h) | (with_reducible (exact mn_trans (m_X8_send_N hv) (mb_X8_connect_80  h))) | (with_reducible exact absurd (congrArg Prod.fst (Option.some.inj h)) (by simp)))
set_option maxHeartbeats 4000000 in
set_option maxRecDepth 100000 in
theorem lb_X8_connect_71 {p : Program} {l : Launch} {e : Env} {s : State} {m : MethodId} {args : Array Value} {below : List Frame} {meth : Method} {c : Code} {D : va_G} {E : Nat → ClassId} {sz : Nat} {μ0 : MP} {ν0 : NC} {a : AS} {Ad0 : Nat → Nat → Nat} {w : Nat} {B : Nat × (Nat → Nat)} {r0 : (MP × NC) × Int32} (C : cx p s m args meth c D E (Aof (zS μ0 ν0 a Ad0) [] s.heap.size) cX8_connect 2 "TradeLine") (hEv : eV (Ad0 30 0) (Ad0 31 0) B (Aof (zS μ0 ν0 a Ad0) [] s.heap.size) s s.heap) (hr : meth.sig.returnType = none) (hz : s.heap.size = sz) {μ : MP} {ν : NC} {Ad : Nat → Nat → Nat} (hm0 : mn ν0 ν) (hp0 : kp ν0 Ad0 Ad)   (h : b_X8_connect_71  w μ ν  = some r0) : G p l e ({ frames := 8, cells := kc r0.1.2 - kc ν0, slots := ks r0.1.2 - ks ν0, locals := 246 } : Room) s m args below meth c D E (Aof (zS μ0 ν0 a Ad0) [] s.heap.size) 2 (MQ below (cQ D E sz (zS μ0 ν0 a Ad0) [] (pV (fun u => ∃ A1, u = (zS r0.1.1 r0.1.2 a A1, []) ∧ kp ν0 Ad0 A1))) args s (kc r0.1.2 - kc ν0) (ks r0.1.2 - ks ν0) (Aof (zS μ0 ν0 a Ad0) [] s.heap.size)) (zS μ ν a Ad) [] (kc ν - kc ν0) (ks ν - ks ν0) 71 [(0, .ref (Ad 0 0))] [] := by
  have m0 := mb_X8_connect_71  h
  have e1 := m0.2.1; have e2 := m0.2.2.1; have e3 := hm0.2.1; have e4 := hm0.2.2.1
  unfold b_X8_connect_71 at h
  refine g_aload_n C dX8_connect_71 rfl 0 rfl ?_
  refine g_iconst (v := (1 : Int32)) C dX8_connect_72 (by decide) ?_
  refine g_iconst (v := (0 : Int32)) C dX8_connect_73 (by decide) ?_
  refine g_getsN C hEv gw_295 dX8_connect_74 ?_
  rw [show Ad0 30 0 = Ad 30 0 from (hp0.2.1 0).symm]
  obtain ⟨g9, h⟩ := of_guard h
  obtain ⟨v10, hv10, h⟩ := bind_of h
  have m2 := m_X8_send_N hv10
  have m3 := mb_X8_connect_80  h
  have a1 := hm0.2.1; have a2 := hm0.2.2.1; have b1 := m2.2.1; have b2 := m2.2.2.1; have d1 := m3.2.1; have d2 := m3.2.2.1
  refine g_lv [0] rfl ?_
  refine g_cVve (n := 3) (exc := []) (exr := []) C hEv ⟨hp0.2.1 0, hp0.2.2 0⟩ [_, _, _] _ rfl rfl [] [] rfl rfl rfl rfl (fun _ h => absurd h (by simp)) (fun _ h => absurd h (by simp)) (fun _ h => absurd h (by simp)) (fun sz => c_X8_send_N l B μ ν a Ad w (1 : Int32) (0 : Int32) _ hv10 D E sz) rfl gw_300 gw_1 gw_297 gw_299 gs_1 ⟨by decide +kernel, by decide +kernel, by decide +kernel⟩ ⟨rfl, rfl⟩ ⟨Nat.le_of_ble_eq_true rfl, Nat.le_of_ble_eq_true rfl⟩ (rcvT (lvZ g9 rfl) rfl rfl rfl) (by first | exact Nat.le_of_ble_eq_true rfl | simp [nv_cat, cat_i, cat_r, cat_n]) dX8_connect_77 ⟨by show (kc ν - kc ν0) + (kc v10.1.2 - kc ν) ≤ kc r0.1.2 - kc ν0; omega, by show (ks ν - ks ν0) + (ks v10.1.2 - ks ν) ≤ ks r0.1.2 - ks ν0; omega⟩ (fun u hp hx => ?_)
  obtain ⟨A1, rfl, hkp⟩ := hp
  try dsimp only [List.append_nil]
  refine g_widen (k := kc v10.1.2 - kc ν0) (n := ks v10.1.2 - ks ν0) (by omega) (by omega) ?_
  rw [show Ad 0 0 = A1 0 0 from (hkp.1 0 _ rfl (of_decide_eq_true g9)).symm]
  exact lb_X8_connect_80 C hEv hr hz (mn_trans hm0 m2) (kp_trans hp0 hm0 hkp)   h
noncomputable def b_X8_connect_35  (w : Nat) (μ : MP) (ν : NC) : Option ((MP × NC) × Int32) := bif ltB 0 (ν.2 0) then yl (uM μ 0 0 8 (1 : Int32)) (fun m3 => bif ltB 0 (ν.2 1) then yl (uM m3 1 0 8 (m3.1 0 0 9)) (fun m5 => bif ltB 1 (ν.2 1) then yl (uM m5 1 1 8 (m5.1 0 0 9)) (fun m7 => (f_X8_send_N w m7 ν (0 : Int32) (0 : Int32)).bind (fun v8 => b_X8_connect_71  w v8.1.1 v8.1.2 )) else none) else none) else none
theorem mb_X8_connect_35 {w : Nat} {μ : MP} {ν : NC} {r0 : (MP × NC) × Int32}   (h : b_X8_connect_35  w μ ν  = some r0) : mn ν r0.1.2 := by
  unfold b_X8_connect_35 at h
  iterate 40 (try first | (with_reducible replace h := (of_guard h).2) | (with_reducible (replace h := of_guardP h; obtain ⟨hg, h⟩ := h)) | (with_reducible replace h := yl_of h rfl) | (with_reducible replace h := (of_thr h).2) | (with_reducible (replace h := bind_of h; obtain ⟨v, hv, h⟩ := h)) | (with_reducible split at h) | (with_reducible (exact mn_trans (m_X8_send_N hv) (mb_X8_connect_71  h))) | (with_reducible exact absurd (congrArg Prod.fst (Option.some.inj h)) (by simp)))
set_option maxHeartbeats 4000000 in
set_option maxRecDepth 100000 in
theorem lb_X8_connect_35 {p : Program} {l : Launch} {e : Env} {s : State} {m : MethodId} {args : Array Value} {below : List Frame} {meth : Method} {c : Code} {D : va_G} {E : Nat → ClassId} {sz : Nat} {μ0 : MP} {ν0 : NC} {a : AS} {Ad0 : Nat → Nat → Nat} {w : Nat} {B : Nat × (Nat → Nat)} {r0 : (MP × NC) × Int32} (C : cx p s m args meth c D E (Aof (zS μ0 ν0 a Ad0) [] s.heap.size) cX8_connect 2 "TradeLine") (hEv : eV (Ad0 30 0) (Ad0 31 0) B (Aof (zS μ0 ν0 a Ad0) [] s.heap.size) s s.heap) (hr : meth.sig.returnType = none) (hz : s.heap.size = sz) {μ : MP} {ν : NC} {Ad : Nat → Nat → Nat} (hm0 : mn ν0 ν) (hp0 : kp ν0 Ad0 Ad)   (h : b_X8_connect_35  w μ ν  = some r0) : G p l e ({ frames := 8, cells := kc r0.1.2 - kc ν0, slots := ks r0.1.2 - ks ν0, locals := 246 } : Room) s m args below meth c D E (Aof (zS μ0 ν0 a Ad0) [] s.heap.size) 2 (MQ below (cQ D E sz (zS μ0 ν0 a Ad0) [] (pV (fun u => ∃ A1, u = (zS r0.1.1 r0.1.2 a A1, []) ∧ kp ν0 Ad0 A1))) args s (kc r0.1.2 - kc ν0) (ks r0.1.2 - ks ν0) (Aof (zS μ0 ν0 a Ad0) [] s.heap.size)) (zS μ ν a Ad) [] (kc ν - kc ν0) (ks ν - ks ν0) 35 [(0, .ref (Ad 0 0))] [] := by
  have m0 := mb_X8_connect_35  h
  have e1 := m0.2.1; have e2 := m0.2.2.1; have e3 := hm0.2.1; have e4 := hm0.2.2.1
  unfold b_X8_connect_35 at h
  refine g_aload_n C dX8_connect_35 rfl 0 rfl ?_
  refine g_iconst (v := (1 : Int32)) C dX8_connect_36 (by decide) ?_
  obtain ⟨g2, h⟩ := of_guard h
  refine z_put (k := 0) (i := 0) (ref := "TradeLine") C rfl g2 rfl rfl rfl inGX8 tyX8 tyX8_ok nmX8 8 (by decide) gw_178 (fun _ h => h) rfl (tyX8_ok 8 (by decide)) rfl rfl (by simp [fvs]) (by simp [fvs, up1]) dX8_connect_37 (fun m3 em3 => ?_)
  replace h := yl_of h em3
  refine g_aload_n C dX8_connect_40 rfl 0 rfl ?_
  refine g_get (k := 0) (i := 0) (ref := "TradeLine") (v := .ref (Ad 1 0)) C rfl (lvZ g2 rfl) rfl rfl inGX8 0 (by decide) gw_170 (fun _ h => h) rfl dX8_connect_41 ?_
  refine g_aload_n C dX8_connect_44 rfl 0 rfl ?_
  refine g_get (k := 0) (i := 0) (ref := "TradeLine") (v := .int (m3.1 0 0 9)) C rfl (lvZ g2 rfl) rfl rfl inGX8 9 (by decide) gw_179 (fun _ h => h) rfl dX8_connect_45 ?_
  obtain ⟨g4, h⟩ := of_guard h
  refine z_put (k := 1) (i := 0) (ref := "TradeLine$Party") C rfl g4 rfl rfl rfl inGX5 tyX5 tyX5_ok nmX5 8 (by decide) gw_125 (fun _ h => h) rfl (tyX5_ok 8 (by decide)) rfl rfl (by simp [fvs]) (by simp [fvs, up1]) dX8_connect_48 (fun m5 em5 => ?_)
  replace h := yl_of h em5
  refine g_aload_n C dX8_connect_51 rfl 0 rfl ?_
  refine g_get (k := 0) (i := 0) (ref := "TradeLine") (v := .ref (Ad 1 1)) C rfl (lvZ g2 rfl) rfl rfl inGX8 1 (by decide) gw_171 (fun _ h => h) rfl dX8_connect_52 ?_
  refine g_aload_n C dX8_connect_55 rfl 0 rfl ?_
  refine g_get (k := 0) (i := 0) (ref := "TradeLine") (v := .int (m5.1 0 0 9)) C rfl (lvZ g2 rfl) rfl rfl inGX8 9 (by decide) gw_179 (fun _ h => h) rfl dX8_connect_56 ?_
  obtain ⟨g6, h⟩ := of_guard h
  refine z_put (k := 1) (i := 1) (ref := "TradeLine$Party") C rfl g6 rfl rfl rfl inGX5 tyX5 tyX5_ok nmX5 8 (by decide) gw_125 (fun _ h => h) rfl (tyX5_ok 8 (by decide)) rfl rfl (by simp [fvs]) (by simp [fvs, up1]) dX8_connect_59 (fun m7 em7 => ?_)
  replace h := yl_of h em7
  refine g_aload_n C dX8_connect_62 rfl 0 rfl ?_
  refine g_iconst (v := (0 : Int32)) C dX8_connect_63 (by decide) ?_
  refine g_iconst (v := (0 : Int32)) C dX8_connect_64 (by decide) ?_
  refine g_getsN C hEv gw_295 dX8_connect_65 ?_
  rw [show Ad0 30 0 = Ad 30 0 from (hp0.2.1 0).symm]
  obtain ⟨v8, hv8, h⟩ := bind_of h
  have m2 := m_X8_send_N hv8
  have m3 := mb_X8_connect_71  h
  have a1 := hm0.2.1; have a2 := hm0.2.2.1; have b1 := m2.2.1; have b2 := m2.2.2.1; have d1 := m3.2.1; have d2 := m3.2.2.1
  refine g_lv [0] rfl ?_
  refine g_cVve (n := 3) (exc := []) (exr := []) C hEv ⟨hp0.2.1 0, hp0.2.2 0⟩ [_, _, _] _ rfl rfl [] [] rfl rfl rfl rfl (fun _ h => absurd h (by simp)) (fun _ h => absurd h (by simp)) (fun _ h => absurd h (by simp)) (fun sz => c_X8_send_N l B m7 ν a Ad w (0 : Int32) (0 : Int32) _ hv8 D E sz) rfl gw_300 gw_1 gw_297 gw_299 gs_1 ⟨by decide +kernel, by decide +kernel, by decide +kernel⟩ ⟨rfl, rfl⟩ ⟨Nat.le_of_ble_eq_true rfl, Nat.le_of_ble_eq_true rfl⟩ (rcvT (lvZ g2 rfl) rfl rfl rfl) (by first | exact Nat.le_of_ble_eq_true rfl | simp [nv_cat, cat_i, cat_r, cat_n]) dX8_connect_68 ⟨by show (kc ν - kc ν0) + (kc v8.1.2 - kc ν) ≤ kc r0.1.2 - kc ν0; omega, by show (ks ν - ks ν0) + (ks v8.1.2 - ks ν) ≤ ks r0.1.2 - ks ν0; omega⟩ (fun u hp hx => ?_)
  obtain ⟨A1, rfl, hkp⟩ := hp
  try dsimp only [List.append_nil]
  refine g_widen (k := kc v8.1.2 - kc ν0) (n := ks v8.1.2 - ks ν0) (by omega) (by omega) ?_
  rw [show Ad 0 0 = A1 0 0 from (hkp.1 0 _ rfl (of_decide_eq_true g2)).symm]
  exact lb_X8_connect_71 C hEv hr hz (mn_trans hm0 m2) (kp_trans hp0 hm0 hkp)   h
noncomputable def b_X8_connect_17  (w : Nat) (μ : MP) (ν : NC) (x1 : Int32) : Option ((MP × NC) × Int32) := (if x1 = (0 : Int32) then (b_X8_connect_35  w μ ν ) else (bif ltB 0 (ν.2 0) then bif ltB 0 (ν.2 1) then (f_X5_numberAnew w μ ν 0 ).bind (fun v13 => bif ltB 1 (ν.2 1) then (f_X5_numberAnew w v13.1 ν 1 ).bind (fun v15 => b_X8_connect_35  w v15.1 ν ) else none) else none else none))
theorem mb_X8_connect_17 {w : Nat} {μ : MP} {ν : NC} {x1 : Int32} {r0 : (MP × NC) × Int32}   (h : b_X8_connect_17  w μ ν x1 = some r0) : mn ν r0.1.2 := by
  unfold b_X8_connect_17 at h
  iterate 40 (try first | (with_reducible replace h := (of_guard h).2) | (with_reducible (replace h := of_guardP h; obtain ⟨hg, h⟩ := h)) | (with_reducible replace h := yl_of h rfl) | (with_reducible replace h := (of_thr h).2) | (with_reducible (replace h := bind_of h; obtain ⟨v, hv, h⟩ := h)) | (with_reducible split at h) | (with_reducible (exact mb_X8_connect_35  h)) | (with_reducible exact absurd (congrArg Prod.fst (Option.some.inj h)) (by simp)))
set_option maxHeartbeats 4000000 in
set_option maxRecDepth 100000 in
theorem lb_X8_connect_17 {p : Program} {l : Launch} {e : Env} {s : State} {m : MethodId} {args : Array Value} {below : List Frame} {meth : Method} {c : Code} {D : va_G} {E : Nat → ClassId} {sz : Nat} {μ0 : MP} {ν0 : NC} {a : AS} {Ad0 : Nat → Nat → Nat} {w : Nat} {B : Nat × (Nat → Nat)} {r0 : (MP × NC) × Int32} (C : cx p s m args meth c D E (Aof (zS μ0 ν0 a Ad0) [] s.heap.size) cX8_connect 2 "TradeLine") (hEv : eV (Ad0 30 0) (Ad0 31 0) B (Aof (zS μ0 ν0 a Ad0) [] s.heap.size) s s.heap) (hr : meth.sig.returnType = none) (hz : s.heap.size = sz) {μ : MP} {ν : NC} {Ad : Nat → Nat → Nat} (hm0 : mn ν0 ν) (hp0 : kp ν0 Ad0 Ad) {x1 : Int32}   (h : b_X8_connect_17  w μ ν x1 = some r0) : G p l e ({ frames := 8, cells := kc r0.1.2 - kc ν0, slots := ks r0.1.2 - ks ν0, locals := 246 } : Room) s m args below meth c D E (Aof (zS μ0 ν0 a Ad0) [] s.heap.size) 2 (MQ below (cQ D E sz (zS μ0 ν0 a Ad0) [] (pV (fun u => ∃ A1, u = (zS r0.1.1 r0.1.2 a A1, []) ∧ kp ν0 Ad0 A1))) args s (kc r0.1.2 - kc ν0) (ks r0.1.2 - ks ν0) (Aof (zS μ0 ν0 a Ad0) [] s.heap.size)) (zS μ ν a Ad) [] (kc ν - kc ν0) (ks ν - ks ν0) 17 [(0, .ref (Ad 0 0)), (1, .int x1)] [] := by
  have m0 := mb_X8_connect_17  h
  have e1 := m0.2.1; have e2 := m0.2.2.1; have e3 := hm0.2.1; have e4 := hm0.2.2.1
  unfold b_X8_connect_17 at h
  refine g_iload_n C dX8_connect_17 rfl 1 rfl ?_
  refine g_if_eq (tgt := 35) C dX8_connect_18 (by decide) (fun c18 => ?_) (fun c18 => ?_)
  · replace h := (if_pos c18).symm.trans h
    refine g_lv [0] rfl ?_
    exact lb_X8_connect_35 C hEv hr hz hm0 hp0   h
  · replace h := (if_neg c18).symm.trans h
    refine g_aload_n C dX8_connect_21 rfl 0 rfl ?_
    obtain ⟨g11, h⟩ := of_guard h
    refine g_get (k := 0) (i := 0) (ref := "TradeLine") (v := .ref (Ad 1 0)) C rfl (lvZ g11 rfl) rfl rfl inGX8 0 (by decide) gw_170 (fun _ h => h) rfl dX8_connect_22 ?_
    obtain ⟨g12, h⟩ := of_guard h
    obtain ⟨v13, hv13, h⟩ := bind_of h
    refine g_cVv (n := 0) (exc := []) (exr := []) C [] _ rfl rfl [] [] rfl rfl rfl rfl (fun _ h => absurd h (by simp)) (fun _ h => absurd h (by simp)) (fun _ h => absurd h (by simp)) (fun sz => c_X5_numberAnew l μ ν a Ad w 0  _ hv13 D E sz) rfl gw_290 gw_2 gw_287 gw_288 gw_289 ⟨by decide +kernel, by decide +kernel, by decide +kernel⟩ ⟨rfl, rfl⟩ ⟨Nat.le_of_ble_eq_true rfl, Nat.le_of_ble_eq_true rfl⟩ (rcvT (lvZ g12 rfl) rfl rfl rfl) (by first | exact Nat.le_of_ble_eq_true rfl | simp [nv_cat, cat_i, cat_r, cat_n]) dX8_connect_25 ⟨by show (kc ν - kc ν0) + 0 ≤ kc r0.1.2 - kc ν0; omega, by show (ks ν - ks ν0) + 0 ≤ ks r0.1.2 - ks ν0; omega⟩ (fun u hp hx => ?_)
    obtain rfl := hp
    try dsimp only [List.append_nil]
    refine g_aload_n C dX8_connect_28 rfl 0 rfl ?_
    refine g_get (k := 0) (i := 0) (ref := "TradeLine") (v := .ref (Ad 1 1)) C rfl (lvZ g11 rfl) rfl rfl inGX8 1 (by decide) gw_171 (fun _ h => h) rfl dX8_connect_29 ?_
    obtain ⟨g14, h⟩ := of_guard h
    obtain ⟨v15, hv15, h⟩ := bind_of h
    refine g_cVv (n := 0) (exc := []) (exr := []) C [] _ rfl rfl [] [] rfl rfl rfl rfl (fun _ h => absurd h (by simp)) (fun _ h => absurd h (by simp)) (fun _ h => absurd h (by simp)) (fun sz => c_X5_numberAnew l v13.1 ν a Ad w 1  _ hv15 D E sz) rfl gw_290 gw_2 gw_287 gw_288 gw_289 ⟨by decide +kernel, by decide +kernel, by decide +kernel⟩ ⟨rfl, rfl⟩ ⟨Nat.le_of_ble_eq_true rfl, Nat.le_of_ble_eq_true rfl⟩ (rcvT (lvZ g14 rfl) rfl rfl rfl) (by first | exact Nat.le_of_ble_eq_true rfl | simp [nv_cat, cat_i, cat_r, cat_n]) dX8_connect_32 ⟨by show (kc ν - kc ν0) + 0 ≤ kc r0.1.2 - kc ν0; omega, by show (ks ν - ks ν0) + 0 ≤ ks r0.1.2 - ks ν0; omega⟩ (fun u hp hx => ?_)
    obtain rfl := hp
    try dsimp only [List.append_nil]
    refine g_lv [0] rfl ?_
    exact lb_X8_connect_35 C hEv hr hz hm0 hp0   h
noncomputable def f_X8_connect  (w : Nat) (μ : MP) (ν : NC) (x1 : Int32) : Option (Nat × ((MP × NC) × Int32)) := bif ltB 0 (ν.2 0) then (if (μ.1 0 0 8) = (0 : Int32) then ((b_X8_connect_17  w μ ν x1).bind (fun r => some ((0 : Nat), r))) else (some ((3 : Nat), ((μ, ν), (0 : Int32))))) else none
theorem mb_X8_connect_0 {w : Nat} {μ : MP} {ν : NC} {x1 : Int32} {r0 : (MP × NC) × Int32}   (h : f_X8_connect  w μ ν x1 = some (0, r0)) : mn ν r0.1.2 := by
  unfold f_X8_connect at h
  iterate 40 (try first | (with_reducible (replace h := bind_of h; obtain ⟨rz, hrz, h⟩ := h; replace h := congrArg Prod.snd (Option.some.inj h); obtain rfl := h; exact mb_X8_connect_17  hrz)) | (with_reducible replace h := (of_guard h).2) | (with_reducible (replace h := of_guardP h; obtain ⟨hg, h⟩ := h)) | (with_reducible replace h := yl_of h rfl) | (with_reducible replace h := (of_thr h).2) | (with_reducible (replace h := bind_of h; obtain ⟨v, hv, h⟩ := h)) | (with_reducible split at h) | (with_reducible exact absurd (congrArg Prod.fst (Option.some.inj h)) (by simp)))
set_option maxHeartbeats 4000000 in
set_option maxRecDepth 100000 in
theorem lb_X8_connect_0 {p : Program} {l : Launch} {e : Env} {s : State} {m : MethodId} {args : Array Value} {below : List Frame} {meth : Method} {c : Code} {D : va_G} {E : Nat → ClassId} {sz : Nat} {μ0 : MP} {ν0 : NC} {a : AS} {Ad0 : Nat → Nat → Nat} {w : Nat} {B : Nat × (Nat → Nat)} {r0 : (MP × NC) × Int32} (C : cx p s m args meth c D E (Aof (zS μ0 ν0 a Ad0) [] s.heap.size) cX8_connect 2 "TradeLine") (hEv : eV (Ad0 30 0) (Ad0 31 0) B (Aof (zS μ0 ν0 a Ad0) [] s.heap.size) s s.heap) (hr : meth.sig.returnType = none) (hz : s.heap.size = sz) {μ : MP} {ν : NC} {Ad : Nat → Nat → Nat} (hm0 : mn ν0 ν) (hp0 : kp ν0 Ad0 Ad) {x1 : Int32}   (h : f_X8_connect  w μ ν x1 = some (0, r0)) : G p l e ({ frames := 8, cells := kc r0.1.2 - kc ν0, slots := ks r0.1.2 - ks ν0, locals := 246 } : Room) s m args below meth c D E (Aof (zS μ0 ν0 a Ad0) [] s.heap.size) 2 (MQ below (cQ D E sz (zS μ0 ν0 a Ad0) [] (pV (fun u => ∃ A1, u = (zS r0.1.1 r0.1.2 a A1, []) ∧ kp ν0 Ad0 A1))) args s (kc r0.1.2 - kc ν0) (ks r0.1.2 - ks ν0) (Aof (zS μ0 ν0 a Ad0) [] s.heap.size)) (zS μ ν a Ad) [] (kc ν - kc ν0) (ks ν - ks ν0) 0 [(0, .ref (Ad 0 0)), (1, .int x1)] [] := by
  have m0 := mb_X8_connect_0  h
  have e1 := m0.2.1; have e2 := m0.2.2.1; have e3 := hm0.2.1; have e4 := hm0.2.2.1
  unfold f_X8_connect at h
  refine g_aload_n C dX8_connect_0 rfl 0 rfl ?_
  obtain ⟨g1, h⟩ := of_guard h
  refine g_get (k := 0) (i := 0) (ref := "TradeLine") (v := .int (μ.1 0 0 8)) C rfl (lvZ g1 rfl) rfl rfl inGX8 8 (by decide) gw_178 (fun _ h => h) rfl dX8_connect_1 ?_
  refine g_if_eq (tgt := 17) C dX8_connect_4 (by decide) (fun c4 => ?_) (fun c4 => ?_)
  · replace h := (if_pos c4).symm.trans h
    refine g_lv [0, 1] rfl ?_
    obtain ⟨rz, hrz, h⟩ := bind_of h
    obtain rfl := congrArg Prod.snd (Option.some.inj h)
    exact lb_X8_connect_17 C hEv hr hz hm0 hp0   hrz
  · replace h := (if_neg c4).symm.trans h
    exact absurd (congrArg Prod.fst (Option.some.inj h)) (by simp)
theorem m_X8_connect {w : Nat} {μ : MP} {ν : NC} {x1 : Int32} {r0 : (MP × NC) × Int32} (h : f_X8_connect w μ ν x1 = some (0, r0)) : mn ν r0.1.2 := mb_X8_connect_0 h
theorem c_X8_connect (l : Launch) (B : Nat × (Nat → Nat)) (μ : MP) (ν : NC) (a : AS) (Ad : Nat → Nat → Nat) (w : Nat) (x1 : Int32) (r0 : (MP × NC) × Int32) (h : f_X8_connect w μ ν x1 = some (0, r0)) : ∀ D E sz, Met l yX8_connect gwX8_connect ({ frames := 8, cells := kc r0.1.2 - kc ν, slots := ks r0.1.2 - ks ν, locals := 246 } : Room) (cPe D E sz B (zS μ ν a Ad) [] [] [.ref (Ad 0 0), .int x1]) (cQ D E sz (zS μ ν a Ad) [] (pV (fun u => ∃ A1, u = (zS r0.1.1 r0.1.2 a A1, []) ∧ kp ν Ad A1))) (kc r0.1.2 - kc ν) (ks r0.1.2 - ks ν) (Aof (zS μ ν a Ad) [] sz) := by
  intro D E sz
  refine g_ofe (cc := cX8_connect) (maxL := 2) (ret := none) (own := "TradeLine") (by decide) rfl rfl (Nat.le_of_ble_eq_true rfl) ?_
  intro p e s m args below meth c C hr hin hz ha hwr hEv
  refine g_lv (lv' := [(0, .ref (Ad 0 0)), (1, .int x1)]) [0, 1] rfl ?_
  refine g_widen (k := kc ν - kc ν) (n := ks ν - ks ν) (Nat.zero_le _) (Nat.zero_le _) ?_
  exact lb_X8_connect_0 C hEv hr hz (mn_rfl _) (kp_rfl _ _) h
set_option maxHeartbeats 4000000 in
set_option maxRecDepth 100000 in
theorem lx_X8_connect_0 {p : Program} {l : Launch} {e : Env} {s : State} {m : MethodId} {args : Array Value} {below : List Frame} {meth : Method} {c : Code} {D : va_G} {E : Nat → ClassId} {sz : Nat} {μ : MP} {ν : NC} {a : AS} {Ad : Nat → Nat → Nat} {w nx : Nat} {B : Nat × (Nat → Nat)} {r0 : (MP × NC) × Int32} (C : cx p s m args meth c D E (Aof (zS μ ν a Ad) [] s.heap.size) cX8_connect 2 "TradeLine") (hEv : eV (Ad 30 0) (Ad 31 0) B (Aof (zS μ ν a Ad) [] s.heap.size) s s.heap) (hl : l.stackTraces = false) (hT : ∀ x ∈ c.exceptionTable.toList, False) (hz : s.heap.size = sz) {x1 : Int32} (h : f_X8_connect  w μ ν x1 = some (nx + 1, r0)) : G p l e ({ frames := 8, cells := 1, slots := 6, locals := 246 } : Room) s m args below meth c D E (Aof (zS μ ν a Ad) [] s.heap.size) 2 (vx_MQ below (fun _ _ _ _ => False) (cX D E sz (zS μ ν a Ad) (nx + 1)) args s 1 6 (Aof (zS μ ν a Ad) [] s.heap.size)) (zS μ ν a Ad) [] 0 0 0 [(0, .ref (Ad 0 0)), (1, .int x1)] [] := by
  unfold f_X8_connect at h
  refine g_aload_n C dX8_connect_0 rfl 0 rfl ?_
  obtain ⟨g1, h⟩ := of_guard h
  refine g_get (k := 0) (i := 0) (ref := "TradeLine") (v := .int (μ.1 0 0 8)) C rfl (lvZ g1 rfl) rfl rfl inGX8 8 (by decide) gw_178 (fun _ h => h) rfl dX8_connect_1 ?_
  refine g_if_eq (tgt := 17) C dX8_connect_4 (by decide) (fun c4 => ?_) (fun c4 => ?_)
  · replace h := (if_pos c4).symm.trans h
    obtain ⟨_, _, h⟩ := bind_of h
    exact absurd (congrArg Prod.fst (Option.some.inj h)) (by simp)
  · replace h := (if_neg c4).symm.trans h
    obtain rfl : nx = 2 := by have := congrArg Prod.fst (Option.some.inj h); simp at this; omega
    exact g_thS (n := 3) (ic := 55) (text := "the line is up") C hEv hl hT hz (by decide) gw_219 gw_16 (by decide +kernel) exA_3 (by decide) exG_3 dX8_connect_7 dX8_connect_10 dX8_connect_11 dX8_connect_13 dX8_connect_16 (by decide) (Nat.le_of_ble_eq_true rfl) (by decide) (by decide)
theorem x_X8_connect (l : Launch) (hl : l.stackTraces = false) (B : Nat × (Nat → Nat)) (μ : MP) (ν : NC) (a : AS) (Ad : Nat → Nat → Nat) (w : Nat) (x1 : Int32) (nx : Nat) (r0 : (MP × NC) × Int32) (h : f_X8_connect w μ ν x1 = some (nx + 1, r0)) : ∀ D E sz, vx_Met l yX8_connect gwX8_connect ({ frames := 8, cells := 1, slots := 6, locals := 246 } : Room) (cPe D E sz B (zS μ ν a Ad) [] [] [.ref (Ad 0 0), .int x1]) (fun _ _ _ _ => False) (cX D E sz (zS μ ν a Ad) (nx + 1)) 1 6 (Aof (zS μ ν a Ad) [] sz) := by
  intro D E sz
  refine g_ofx (cc := cX8_connect) (maxL := 2) (ret := none) (own := "TradeLine") (by decide) rfl rfl (Nat.le_of_ble_eq_true rfl) ?_
  intro p e s m args below meth c C hT hz ha hEv
  refine g_lv (lv' := [(0, .ref (Ad 0 0)), (1, .int x1)]) [0, 1] rfl ?_
  exact lx_X8_connect_0 C hEv hl hT hz h
noncomputable def b_X8_pass_11  (w : Nat) (μ : MP) (ν : NC) : Option (Nat × ((MP × NC) × Int32)) := some ((2 : Nat), ((μ, ν), (0 : Int32)))
theorem mb_X8_pass_11 {w : Nat} {μ : MP} {ν : NC} {r0 : (MP × NC) × Int32}   (h : b_X8_pass_11  w μ ν  = some (0, r0)) : mn ν r0.1.2 := by
  unfold b_X8_pass_11 at h
  iterate 40 (try first | (with_reducible replace h := (of_guard h).2) | (with_reducible (replace h := of_guardP h; obtain ⟨hg, h⟩ := h)) | (with_reducible replace h := yl_of h rfl) | (with_reducible replace h := (of_thr h).2) | (with_reducible (replace h := bind_of h; obtain ⟨v, hv, h⟩ := h)) | (with_reducible split at h) | (with_reducible exact absurd (congrArg Prod.fst (Option.some.inj h)) (by simp)))
set_option maxHeartbeats 4000000 in
set_option maxRecDepth 100000 in
theorem lb_X8_pass_11 {p : Program} {l : Launch} {e : Env} {s : State} {m : MethodId} {args : Array Value} {below : List Frame} {meth : Method} {c : Code} {D : va_G} {E : Nat → ClassId} {sz : Nat} {μ0 : MP} {ν0 : NC} {a : AS} {Ad0 : Nat → Nat → Nat} {w : Nat} {B : Nat × (Nat → Nat)} {r0 : (MP × NC) × Int32} (C : cx p s m args meth c D E (Aof (zS μ0 ν0 a Ad0) [] s.heap.size) cX8_pass 4 "TradeLine") (hEv : eV (Ad0 30 0) (Ad0 31 0) B (Aof (zS μ0 ν0 a Ad0) [] s.heap.size) s s.heap) (hr : meth.sig.returnType = (some .int)) (hz : s.heap.size = sz) {μ : MP} {ν : NC} {Ad : Nat → Nat → Nat} (hm0 : mn ν0 ν) (hp0 : kp ν0 Ad0 Ad)   (h : b_X8_pass_11  w μ ν  = some (0, r0)) : G p l e ({ frames := 9, cells := kc r0.1.2 - kc ν0, slots := ks r0.1.2 - ks ν0, locals := 269 } : Room) s m args below meth c D E (Aof (zS μ0 ν0 a Ad0) [] s.heap.size) 4 (MQ below (cQ D E sz (zS μ0 ν0 a Ad0) [] (pI (fun r u => r = r0.2 ∧ ∃ A1, u = (zS r0.1.1 r0.1.2 a A1, []) ∧ kp ν0 Ad0 A1))) args s (kc r0.1.2 - kc ν0) (ks r0.1.2 - ks ν0) (Aof (zS μ0 ν0 a Ad0) [] s.heap.size)) (zS μ ν a Ad) [] (kc ν - kc ν0) (ks ν - ks ν0) 11 [(0, .ref (Ad 0 0))] [] := by
  have m0 := mb_X8_pass_11  h
  have e1 := m0.2.1; have e2 := m0.2.2.1; have e3 := hm0.2.1; have e4 := hm0.2.2.1
  unfold b_X8_pass_11 at h
  exact absurd (congrArg Prod.fst (Option.some.inj h)) (by simp)
noncomputable def b_X8_pass_70 (k45 : MP → NC → Int32 → Int32 → Int32 → Option ((MP × NC) × Int32)) (w : Nat) (μ : MP) (ν : NC) (x1 : Int32) (x2 : Int32) (x3 : Int32) : Option ((MP × NC) × Int32) := yl (x3 + (1 : Int32)) (fun t17 => k45 μ ν x1 x2 t17)
theorem mb_X8_pass_70 {w : Nat} {μ : MP} {ν : NC} {x1 : Int32} {x2 : Int32} {x3 : Int32} {r0 : (MP × NC) × Int32} {k45 : MP → NC → Int32 → Int32 → Int32 → Option ((MP × NC) × Int32)} (hmk45 : ∀ (μ : MP) (ν : NC) (z1 : Int32) (z2 : Int32) (z3 : Int32), k45 μ ν z1 z2 z3 = some r0 → mn ν r0.1.2) (h : b_X8_pass_70 k45 w μ ν x1 x2 x3 = some r0) : mn ν r0.1.2 := by
  unfold b_X8_pass_70 at h
  iterate 40 (try first | (with_reducible replace h := (of_guard h).2) | (with_reducible (replace h := of_guardP h; obtain ⟨hg, h⟩ := h)) | (with_reducible replace h := yl_of h rfl) | (with_reducible replace h := (of_thr h).2) | (with_reducible (replace h := bind_of h; obtain ⟨v, hv, h⟩ := h)) | (with_reducible split at h) | (with_reducible (exact hmk45 _ _ _ _ _ h)) | (with_reducible exact absurd (congrArg Prod.fst (Option.some.inj h)) (by simp)))
set_option maxHeartbeats 4000000 in
set_option maxRecDepth 100000 in
theorem lb_X8_pass_70 {p : Program} {l : Launch} {e : Env} {s : State} {m : MethodId} {args : Array Value} {below : List Frame} {meth : Method} {c : Code} {D : va_G} {E : Nat → ClassId} {sz : Nat} {μ0 : MP} {ν0 : NC} {a : AS} {Ad0 : Nat → Nat → Nat} {w : Nat} {B : Nat × (Nat → Nat)} {r0 : (MP × NC) × Int32} (C : cx p s m args meth c D E (Aof (zS μ0 ν0 a Ad0) [] s.heap.size) cX8_pass 4 "TradeLine") (hEv : eV (Ad0 30 0) (Ad0 31 0) B (Aof (zS μ0 ν0 a Ad0) [] s.heap.size) s s.heap) (hr : meth.sig.returnType = (some .int)) (hz : s.heap.size = sz) {μ : MP} {ν : NC} {Ad : Nat → Nat → Nat} (hm0 : mn ν0 ν) (hp0 : kp ν0 Ad0 Ad) {x1 : Int32} {x2 : Int32} {x3 : Int32} {k45 : MP → NC → Int32 → Int32 → Int32 → Option ((MP × NC) × Int32)} (hmk45 : ∀ (μ : MP) (ν : NC) (z1 : Int32) (z2 : Int32) (z3 : Int32), k45 μ ν z1 z2 z3 = some r0 → mn ν r0.1.2) (hk45 : ∀ (μ : MP) (ν : NC) (Ad : Nat → Nat → Nat) (z1 : Int32) (z2 : Int32) (z3 : Int32), mn ν0 ν → kp ν0 Ad0 Ad → k45 μ ν z1 z2 z3 = some r0 → G p l e ({ frames := 9, cells := kc r0.1.2 - kc ν0, slots := ks r0.1.2 - ks ν0, locals := 269 } : Room) s m args below meth c D E (Aof (zS μ0 ν0 a Ad0) [] s.heap.size) 4 (MQ below (cQ D E sz (zS μ0 ν0 a Ad0) [] (pI (fun r u => r = r0.2 ∧ ∃ A1, u = (zS r0.1.1 r0.1.2 a A1, []) ∧ kp ν0 Ad0 A1))) args s (kc r0.1.2 - kc ν0) (ks r0.1.2 - ks ν0) (Aof (zS μ0 ν0 a Ad0) [] s.heap.size)) (zS μ ν a Ad) [] (kc ν - kc ν0) (ks ν - ks ν0) 45 [(0, .ref (Ad 0 0)), (1, .int z1), (2, .int z2), (3, .int z3)] []) (h : b_X8_pass_70 k45 w μ ν x1 x2 x3 = some r0) : G p l e ({ frames := 9, cells := kc r0.1.2 - kc ν0, slots := ks r0.1.2 - ks ν0, locals := 269 } : Room) s m args below meth c D E (Aof (zS μ0 ν0 a Ad0) [] s.heap.size) 4 (MQ below (cQ D E sz (zS μ0 ν0 a Ad0) [] (pI (fun r u => r = r0.2 ∧ ∃ A1, u = (zS r0.1.1 r0.1.2 a A1, []) ∧ kp ν0 Ad0 A1))) args s (kc r0.1.2 - kc ν0) (ks r0.1.2 - ks ν0) (Aof (zS μ0 ν0 a Ad0) [] s.heap.size)) (zS μ ν a Ad) [] (kc ν - kc ν0) (ks ν - ks ν0) 70 [(0, .ref (Ad 0 0)), (1, .int x1), (2, .int x2), (3, .int x3)] [] := by
  have m0 := mb_X8_pass_70 hmk45 h
  have e1 := m0.2.1; have e2 := m0.2.2.1; have e3 := hm0.2.1; have e4 := hm0.2.2.1
  unfold b_X8_pass_70 at h
  obtain ⟨t17, et17⟩ : ∃ y : Int32, x3 + (1 : Int32) = y := ⟨_, rfl⟩
  replace h := yl_of h et17
  refine g_iinc (v := t17) (lv' := [(3, .int t17), (0, .ref (Ad 0 0)), (1, .int x1), (2, .int x2)]) C dX8_pass_70 3 rfl (by rw [← et17]; rfl) (by decide) rfl ?_
  refine g_goto (tgt := 45) C dX8_pass_73 (by decide) ?_
  refine g_lv [1, 2, 3, 0] rfl ?_
  exact hk45 _ _ _ _ _ _ hm0 hp0 h
noncomputable def b_X8_pass_65 (k45 : MP → NC → Int32 → Int32 → Int32 → Option ((MP × NC) × Int32)) (w : Nat) (μ : MP) (ν : NC) (x1 : Int32) (x2 : Int32) (x3 : Int32) : Option ((MP × NC) × Int32) := bif ltB 0 (ν.2 0) then (f_X8_tick w μ ν (1 : Int32)).bind (fun v16 => b_X8_pass_70 k45 w v16.1.1 v16.1.2 x1 x2 x3) else none
theorem mb_X8_pass_65 {w : Nat} {μ : MP} {ν : NC} {x1 : Int32} {x2 : Int32} {x3 : Int32} {r0 : (MP × NC) × Int32} {k45 : MP → NC → Int32 → Int32 → Int32 → Option ((MP × NC) × Int32)} (hmk45 : ∀ (μ : MP) (ν : NC) (z1 : Int32) (z2 : Int32) (z3 : Int32), k45 μ ν z1 z2 z3 = some r0 → mn ν r0.1.2) (h : b_X8_pass_65 k45 w μ ν x1 x2 x3 = some r0) : mn ν r0.1.2 := by
  unfold b_X8_pass_65 at h
  iterate 40 (try first | (with_reducible replace h := (of_guard h).2) | (with_reducible (replace h := of_guardP h; obtain ⟨hg, h⟩ := h)) | (with_reducible replace h := yl_of h rfl) | (with_reducible replace h := (of_thr h).2) | (with_reducible (replace h := bind_of h; obtain ⟨v, hv, h⟩ := h)) | (with_reducible split at h) | (with_reducible (exact mn_trans (m_X8_tick hv) (mb_X8_pass_70 hmk45 h))) | (with_reducible exact absurd (congrArg Prod.fst (Option.some.inj h)) (by simp)))
set_option maxHeartbeats 4000000 in
set_option maxRecDepth 100000 in
theorem lb_X8_pass_65 {p : Program} {l : Launch} {e : Env} {s : State} {m : MethodId} {args : Array Value} {below : List Frame} {meth : Method} {c : Code} {D : va_G} {E : Nat → ClassId} {sz : Nat} {μ0 : MP} {ν0 : NC} {a : AS} {Ad0 : Nat → Nat → Nat} {w : Nat} {B : Nat × (Nat → Nat)} {r0 : (MP × NC) × Int32} (C : cx p s m args meth c D E (Aof (zS μ0 ν0 a Ad0) [] s.heap.size) cX8_pass 4 "TradeLine") (hEv : eV (Ad0 30 0) (Ad0 31 0) B (Aof (zS μ0 ν0 a Ad0) [] s.heap.size) s s.heap) (hr : meth.sig.returnType = (some .int)) (hz : s.heap.size = sz) {μ : MP} {ν : NC} {Ad : Nat → Nat → Nat} (hm0 : mn ν0 ν) (hp0 : kp ν0 Ad0 Ad) {x1 : Int32} {x2 : Int32} {x3 : Int32} {k45 : MP → NC → Int32 → Int32 → Int32 → Option ((MP × NC) × Int32)} (hmk45 : ∀ (μ : MP) (ν : NC) (z1 : Int32) (z2 : Int32) (z3 : Int32), k45 μ ν z1 z2 z3 = some r0 → mn ν r0.1.2) (hk45 : ∀ (μ : MP) (ν : NC) (Ad : Nat → Nat → Nat) (z1 : Int32) (z2 : Int32) (z3 : Int32), mn ν0 ν → kp ν0 Ad0 Ad → k45 μ ν z1 z2 z3 = some r0 → G p l e ({ frames := 9, cells := kc r0.1.2 - kc ν0, slots := ks r0.1.2 - ks ν0, locals := 269 } : Room) s m args below meth c D E (Aof (zS μ0 ν0 a Ad0) [] s.heap.size) 4 (MQ below (cQ D E sz (zS μ0 ν0 a Ad0) [] (pI (fun r u => r = r0.2 ∧ ∃ A1, u = (zS r0.1.1 r0.1.2 a A1, []) ∧ kp ν0 Ad0 A1))) args s (kc r0.1.2 - kc ν0) (ks r0.1.2 - ks ν0) (Aof (zS μ0 ν0 a Ad0) [] s.heap.size)) (zS μ ν a Ad) [] (kc ν - kc ν0) (ks ν - ks ν0) 45 [(0, .ref (Ad 0 0)), (1, .int z1), (2, .int z2), (3, .int z3)] []) (h : b_X8_pass_65 k45 w μ ν x1 x2 x3 = some r0) : G p l e ({ frames := 9, cells := kc r0.1.2 - kc ν0, slots := ks r0.1.2 - ks ν0, locals := 269 } : Room) s m args below meth c D E (Aof (zS μ0 ν0 a Ad0) [] s.heap.size) 4 (MQ below (cQ D E sz (zS μ0 ν0 a Ad0) [] (pI (fun r u => r = r0.2 ∧ ∃ A1, u = (zS r0.1.1 r0.1.2 a A1, []) ∧ kp ν0 Ad0 A1))) args s (kc r0.1.2 - kc ν0) (ks r0.1.2 - ks ν0) (Aof (zS μ0 ν0 a Ad0) [] s.heap.size)) (zS μ ν a Ad) [] (kc ν - kc ν0) (ks ν - ks ν0) 65 [(0, .ref (Ad 0 0)), (1, .int x1), (2, .int x2), (3, .int x3)] [] := by
  have m0 := mb_X8_pass_65 hmk45 h
  have e1 := m0.2.1; have e2 := m0.2.2.1; have e3 := hm0.2.1; have e4 := hm0.2.2.1
  unfold b_X8_pass_65 at h
  refine g_aload_n C dX8_pass_65 rfl 0 rfl ?_
  refine g_iconst (v := (1 : Int32)) C dX8_pass_66 (by decide) ?_
  obtain ⟨g15, h⟩ := of_guard h
  obtain ⟨v16, hv16, h⟩ := bind_of h
  have m2 := m_X8_tick hv16
  have m3 := mb_X8_pass_70 hmk45 h
  have a1 := hm0.2.1; have a2 := hm0.2.2.1; have b1 := m2.2.1; have b2 := m2.2.2.1; have d1 := m3.2.1; have d2 := m3.2.2.1
  refine g_lv [0, 1, 2, 3] rfl ?_
  refine g_cVve (n := 1) (exc := []) (exr := []) C hEv ⟨hp0.2.1 0, hp0.2.2 0⟩ [_] _ rfl rfl [] [] rfl rfl rfl rfl (fun _ h => absurd h (by simp)) (fun _ h => absurd h (by simp)) (fun _ h => absurd h (by simp)) (fun sz => c_X8_tick l B μ ν a Ad w (1 : Int32) _ hv16 D E sz) rfl gw_1061 gw_1 gw_1058 gw_1060 gs_34 ⟨by decide +kernel, by decide +kernel, by decide +kernel⟩ ⟨rfl, rfl⟩ ⟨Nat.le_of_ble_eq_true rfl, Nat.le_of_ble_eq_true rfl⟩ (rcvT (lvZ g15 rfl) rfl rfl rfl) (by first | exact Nat.le_of_ble_eq_true rfl | simp [nv_cat, cat_i, cat_r, cat_n]) dX8_pass_67 ⟨by show (kc ν - kc ν0) + (kc v16.1.2 - kc ν) ≤ kc r0.1.2 - kc ν0; omega, by show (ks ν - ks ν0) + (ks v16.1.2 - ks ν) ≤ ks r0.1.2 - ks ν0; omega⟩ (fun u hp hx => ?_)
  obtain ⟨A1, rfl, hkp⟩ := hp
  try dsimp only [List.append_nil]
  refine g_widen (k := kc v16.1.2 - kc ν0) (n := ks v16.1.2 - ks ν0) (by omega) (by omega) ?_
  rw [show Ad 0 0 = A1 0 0 from (hkp.1 0 _ rfl (of_decide_eq_true g15)).symm]
  exact lb_X8_pass_70 C hEv hr hz (mn_trans hm0 m2) (kp_trans hp0 hm0 hkp)  hmk45 hk45 h
noncomputable def b_X8_pass_45 (k45 : MP → NC → Int32 → Int32 → Int32 → Option ((MP × NC) × Int32)) (w : Nat) (μ : MP) (ν : NC) (x1 : Int32) (x2 : Int32) (x3 : Int32) : Option ((MP × NC) × Int32) := (if x1 ≤ x3 then (bif ltB 0 (ν.2 0) then bif ltB 0 (ν.2 1) then bif ltB 0 (ν.2 4) then bif ltB 1 (ν.2 1) then bif ltB 1 (ν.2 4) then some ((μ, ν), (((μ.1 4 0 2) + (μ.1 4 1 2)) - x2)) else none else none else none else none else none) else (bif ltB 0 (ν.2 0) then yl (uM μ 0 0 9 ((μ.1 0 0 9) + (1 : Int32))) (fun m13 => (f_X8_tick w m13 ν (0 : Int32)).bind (fun v14 => b_X8_pass_65 k45 w v14.1.1 v14.1.2 x1 x2 x3)) else none))
theorem mb_X8_pass_45 {w : Nat} {μ : MP} {ν : NC} {x1 : Int32} {x2 : Int32} {x3 : Int32} {r0 : (MP × NC) × Int32} {k45 : MP → NC → Int32 → Int32 → Int32 → Option ((MP × NC) × Int32)} (hmk45 : ∀ (μ : MP) (ν : NC) (z1 : Int32) (z2 : Int32) (z3 : Int32), k45 μ ν z1 z2 z3 = some r0 → mn ν r0.1.2) (h : b_X8_pass_45 k45 w μ ν x1 x2 x3 = some r0) : mn ν r0.1.2 := by
  unfold b_X8_pass_45 at h
  iterate 40 (try first | (with_reducible replace h := (of_guard h).2) | (with_reducible (replace h := of_guardP h; obtain ⟨hg, h⟩ := h)) | (with_reducible replace h := yl_of h rfl) | (with_reducible replace h := (of_thr h).2) | (with_reducible (replace h := bind_of h; obtain ⟨v, hv, h⟩ := h)) | (with_reducible split at h) | (with_reducible (replace h := Option.some.inj h; obtain rfl := h; exact mn_rfl _)) | (with_reducible (exact mn_trans (m_X8_tick hv) (mb_X8_pass_65 hmk45 h))) | (with_reducible exact absurd (congrArg Prod.fst (Option.some.inj h)) (by simp)))
set_option maxHeartbeats 4000000 in
set_option maxRecDepth 100000 in
theorem lb_X8_pass_45 {p : Program} {l : Launch} {e : Env} {s : State} {m : MethodId} {args : Array Value} {below : List Frame} {meth : Method} {c : Code} {D : va_G} {E : Nat → ClassId} {sz : Nat} {μ0 : MP} {ν0 : NC} {a : AS} {Ad0 : Nat → Nat → Nat} {w : Nat} {B : Nat × (Nat → Nat)} {r0 : (MP × NC) × Int32} (C : cx p s m args meth c D E (Aof (zS μ0 ν0 a Ad0) [] s.heap.size) cX8_pass 4 "TradeLine") (hEv : eV (Ad0 30 0) (Ad0 31 0) B (Aof (zS μ0 ν0 a Ad0) [] s.heap.size) s s.heap) (hr : meth.sig.returnType = (some .int)) (hz : s.heap.size = sz) {μ : MP} {ν : NC} {Ad : Nat → Nat → Nat} (hm0 : mn ν0 ν) (hp0 : kp ν0 Ad0 Ad) {x1 : Int32} {x2 : Int32} {x3 : Int32} {k45 : MP → NC → Int32 → Int32 → Int32 → Option ((MP × NC) × Int32)} (hmk45 : ∀ (μ : MP) (ν : NC) (z1 : Int32) (z2 : Int32) (z3 : Int32), k45 μ ν z1 z2 z3 = some r0 → mn ν r0.1.2) (hk45 : ∀ (μ : MP) (ν : NC) (Ad : Nat → Nat → Nat) (z1 : Int32) (z2 : Int32) (z3 : Int32), mn ν0 ν → kp ν0 Ad0 Ad → k45 μ ν z1 z2 z3 = some r0 → G p l e ({ frames := 9, cells := kc r0.1.2 - kc ν0, slots := ks r0.1.2 - ks ν0, locals := 269 } : Room) s m args below meth c D E (Aof (zS μ0 ν0 a Ad0) [] s.heap.size) 4 (MQ below (cQ D E sz (zS μ0 ν0 a Ad0) [] (pI (fun r u => r = r0.2 ∧ ∃ A1, u = (zS r0.1.1 r0.1.2 a A1, []) ∧ kp ν0 Ad0 A1))) args s (kc r0.1.2 - kc ν0) (ks r0.1.2 - ks ν0) (Aof (zS μ0 ν0 a Ad0) [] s.heap.size)) (zS μ ν a Ad) [] (kc ν - kc ν0) (ks ν - ks ν0) 45 [(0, .ref (Ad 0 0)), (1, .int z1), (2, .int z2), (3, .int z3)] []) (h : b_X8_pass_45 k45 w μ ν x1 x2 x3 = some r0) : G p l e ({ frames := 9, cells := kc r0.1.2 - kc ν0, slots := ks r0.1.2 - ks ν0, locals := 269 } : Room) s m args below meth c D E (Aof (zS μ0 ν0 a Ad0) [] s.heap.size) 4 (MQ below (cQ D E sz (zS μ0 ν0 a Ad0) [] (pI (fun r u => r = r0.2 ∧ ∃ A1, u = (zS r0.1.1 r0.1.2 a A1, []) ∧ kp ν0 Ad0 A1))) args s (kc r0.1.2 - kc ν0) (ks r0.1.2 - ks ν0) (Aof (zS μ0 ν0 a Ad0) [] s.heap.size)) (zS μ ν a Ad) [] (kc ν - kc ν0) (ks ν - ks ν0) 45 [(0, .ref (Ad 0 0)), (1, .int x1), (2, .int x2), (3, .int x3)] [] := by
  have m0 := mb_X8_pass_45 hmk45 h
  have e1 := m0.2.1; have e2 := m0.2.2.1; have e3 := hm0.2.1; have e4 := hm0.2.2.1
  unfold b_X8_pass_45 at h
  refine g_iload_n C dX8_pass_45 rfl 3 rfl ?_
  refine g_iload_n C dX8_pass_46 rfl 1 rfl ?_
  refine g_icmp_ge (tgt := 76) C dX8_pass_47 (by decide) (fun c47 => ?_) (fun c47 => ?_)
  · replace h := (if_pos c47).symm.trans h
    refine g_aload_n C dX8_pass_76 rfl 0 rfl ?_
    obtain ⟨g7, h⟩ := of_guard h
    refine g_get (k := 0) (i := 0) (ref := "TradeLine") (v := .ref (Ad 1 0)) C rfl (lvZ g7 rfl) rfl rfl inGX8 0 (by decide) gw_170 (fun _ h => h) rfl dX8_pass_77 ?_
    obtain ⟨g8, h⟩ := of_guard h
    refine g_get (k := 1) (i := 0) (ref := "TradeLine$Party") (v := .ref (Ad 4 0)) C rfl (lvZ g8 rfl) rfl rfl inGX5 0 (by decide) gw_112 (fun _ h => h) rfl dX8_pass_80 ?_
    obtain ⟨g9, h⟩ := of_guard h
    refine g_cVi (n := 0) (exc := []) (exr := []) C [] _ rfl rfl [] [] rfl rfl rfl rfl (fun _ h => absurd h (by simp)) (fun _ h => absurd h (by simp)) (fun _ h => absurd h (by simp)) (fun sz => c_Jx4a65c_size_8abf5 l μ ν a Ad _ g9 D E sz) rfl gw_308 gw_5 gw_305 gw_306 gw_307 ⟨by decide +kernel, by decide +kernel, by decide +kernel⟩ ⟨rfl, rfl⟩ ⟨Nat.le_of_ble_eq_true rfl, Nat.le_of_ble_eq_true rfl⟩ (rcvT (lvZ g9 rfl) rfl rfl rfl) (by first | exact Nat.le_of_ble_eq_true rfl | simp [nv_cat, cat_i, cat_r, cat_n]) dX8_pass_83 ⟨by show (kc ν - kc ν0) + 0 ≤ kc r0.1.2 - kc ν0; omega, by show (ks ν - ks ν0) + 0 ≤ ks r0.1.2 - ks ν0; omega⟩ (fun r u hp hx => ?_)
    obtain ⟨er, rfl⟩ := hp
    rw [er]
    try dsimp only [List.append_nil]
    refine g_aload_n C dX8_pass_86 rfl 0 rfl ?_
    refine g_get (k := 0) (i := 0) (ref := "TradeLine") (v := .ref (Ad 1 1)) C rfl (lvZ g7 rfl) rfl rfl inGX8 1 (by decide) gw_171 (fun _ h => h) rfl dX8_pass_87 ?_
    obtain ⟨g10, h⟩ := of_guard h
    refine g_get (k := 1) (i := 1) (ref := "TradeLine$Party") (v := .ref (Ad 4 1)) C rfl (lvZ g10 rfl) rfl rfl inGX5 0 (by decide) gw_112 (fun _ h => h) rfl dX8_pass_90 ?_
    obtain ⟨g11, h⟩ := of_guard h
    refine g_cVi (n := 0) (exc := []) (exr := []) C [] _ rfl rfl [] [] rfl rfl rfl rfl (fun _ h => absurd h (by simp)) (fun _ h => absurd h (by simp)) (fun _ h => absurd h (by simp)) (fun sz => c_Jx4a65c_size_8abf5 l μ ν a Ad _ g11 D E sz) rfl gw_308 gw_5 gw_305 gw_306 gw_307 ⟨by decide +kernel, by decide +kernel, by decide +kernel⟩ ⟨rfl, rfl⟩ ⟨Nat.le_of_ble_eq_true rfl, Nat.le_of_ble_eq_true rfl⟩ (rcvT (lvZ g11 rfl) rfl rfl rfl) (by first | exact Nat.le_of_ble_eq_true rfl | simp [nv_cat, cat_i, cat_r, cat_n]) dX8_pass_93 ⟨by show (kc ν - kc ν0) + 0 ≤ kc r0.1.2 - kc ν0; omega, by show (ks ν - ks ν0) + 0 ≤ ks r0.1.2 - ks ν0; omega⟩ (fun r u hp hx => ?_)
    obtain ⟨er, rfl⟩ := hp
    rw [er]
    try dsimp only [List.append_nil]
    refine g_iadd C dX8_pass_96 ?_
    refine g_iload_n C dX8_pass_97 rfl 2 rfl ?_
    refine g_isub C dX8_pass_98 ?_
    obtain rfl := Option.some.inj h
    exact g_iret C hr rfl hz ⟨(hm0.2.2.2 30 (by decide) (by decide)).1, (hm0.2.2.2 31 (by decide) (by decide)).1, hp0.2.1, hp0.2.2⟩ ⟨rfl, Ad, rfl, hp0⟩ (fun j x h => by simp at h) dX8_pass_99
  · replace h := (if_neg c47).symm.trans h
    refine g_aload_n C dX8_pass_50 rfl 0 rfl ?_
    refine g_dup C dX8_pass_51 rfl ?_
    obtain ⟨g12, h⟩ := of_guard h
    refine g_get (k := 0) (i := 0) (ref := "TradeLine") (v := .int (μ.1 0 0 9)) C rfl (lvZ g12 rfl) rfl rfl inGX8 9 (by decide) gw_179 (fun _ h => h) rfl dX8_pass_52 ?_
    refine g_iconst (v := (1 : Int32)) C dX8_pass_55 (by decide) ?_
    refine g_iadd C dX8_pass_56 ?_
    refine z_put (k := 0) (i := 0) (ref := "TradeLine") C rfl g12 rfl rfl rfl inGX8 tyX8 tyX8_ok nmX8 9 (by decide) gw_179 (fun _ h => h) rfl (tyX8_ok 9 (by decide)) rfl rfl (by simp [fvs]) (by simp [fvs, up1]) dX8_pass_57 (fun m13 em13 => ?_)
    replace h := yl_of h em13
    refine g_aload_n C dX8_pass_60 rfl 0 rfl ?_
    refine g_iconst (v := (0 : Int32)) C dX8_pass_61 (by decide) ?_
    obtain ⟨v14, hv14, h⟩ := bind_of h
    have m2 := m_X8_tick hv14
    have m3 := mb_X8_pass_65 hmk45 h
    have a1 := hm0.2.1; have a2 := hm0.2.2.1; have b1 := m2.2.1; have b2 := m2.2.2.1; have d1 := m3.2.1; have d2 := m3.2.2.1
    refine g_lv [0, 1, 2, 3] rfl ?_
    refine g_cVve (n := 1) (exc := []) (exr := []) C hEv ⟨hp0.2.1 0, hp0.2.2 0⟩ [_] _ rfl rfl [] [] rfl rfl rfl rfl (fun _ h => absurd h (by simp)) (fun _ h => absurd h (by simp)) (fun _ h => absurd h (by simp)) (fun sz => c_X8_tick l B m13 ν a Ad w (0 : Int32) _ hv14 D E sz) rfl gw_1061 gw_1 gw_1058 gw_1060 gs_34 ⟨by decide +kernel, by decide +kernel, by decide +kernel⟩ ⟨rfl, rfl⟩ ⟨Nat.le_of_ble_eq_true rfl, Nat.le_of_ble_eq_true rfl⟩ (rcvT (lvZ g12 rfl) rfl rfl rfl) (by first | exact Nat.le_of_ble_eq_true rfl | simp [nv_cat, cat_i, cat_r, cat_n]) dX8_pass_62 ⟨by show (kc ν - kc ν0) + (kc v14.1.2 - kc ν) ≤ kc r0.1.2 - kc ν0; omega, by show (ks ν - ks ν0) + (ks v14.1.2 - ks ν) ≤ ks r0.1.2 - ks ν0; omega⟩ (fun u hp hx => ?_)
    obtain ⟨A1, rfl, hkp⟩ := hp
    try dsimp only [List.append_nil]
    refine g_widen (k := kc v14.1.2 - kc ν0) (n := ks v14.1.2 - ks ν0) (by omega) (by omega) ?_
    rw [show Ad 0 0 = A1 0 0 from (hkp.1 0 _ rfl (of_decide_eq_true g12)).symm]
    exact lb_X8_pass_65 C hEv hr hz (mn_trans hm0 m2) (kp_trans hp0 hm0 hkp)  hmk45 hk45 h
noncomputable def l_X8_pass_45  (w : Nat) : Nat → MP → NC → Int32 → Int32 → Int32 → Option ((MP × NC) × Int32)
  | 0 => fun _ _ _ _ _ => none
  | n + 1 => fun μ ν x1 x2 x3 => b_X8_pass_45  (l_X8_pass_45  w n) w μ ν x1 x2 x3
theorem ml_X8_pass_45 {w : Nat} {r0 : (MP × NC) × Int32}   : ∀ (n : Nat) (μ : MP) (ν : NC) (x1 : Int32) (x2 : Int32) (x3 : Int32), l_X8_pass_45  w n μ ν x1 x2 x3 = some r0 → mn ν r0.1.2 := by
  intro n
  induction n with
  | zero => exact fun μ ν x1 x2 x3 h => absurd (show (none : Option ((MP × NC) × Int32)) = some r0 from h) (by simp)
  | succ n ih => exact fun μ ν x1 x2 x3 h => mb_X8_pass_45 (w := w)  ih h
theorem ll_X8_pass_45 {p : Program} {l : Launch} {e : Env} {s : State} {m : MethodId} {args : Array Value} {below : List Frame} {meth : Method} {c : Code} {D : va_G} {E : Nat → ClassId} {sz : Nat} {μ0 : MP} {ν0 : NC} {a : AS} {Ad0 : Nat → Nat → Nat} {w : Nat} {B : Nat × (Nat → Nat)} {r0 : (MP × NC) × Int32} (C : cx p s m args meth c D E (Aof (zS μ0 ν0 a Ad0) [] s.heap.size) cX8_pass 4 "TradeLine") (hEv : eV (Ad0 30 0) (Ad0 31 0) B (Aof (zS μ0 ν0 a Ad0) [] s.heap.size) s s.heap) (hr : meth.sig.returnType = (some .int)) (hz : s.heap.size = sz)    : ∀ (n : Nat) (μ : MP) (ν : NC) (Ad : Nat → Nat → Nat) (x1 : Int32) (x2 : Int32) (x3 : Int32), mn ν0 ν → kp ν0 Ad0 Ad → l_X8_pass_45  w n μ ν x1 x2 x3 = some r0 → G p l e ({ frames := 9, cells := kc r0.1.2 - kc ν0, slots := ks r0.1.2 - ks ν0, locals := 269 } : Room) s m args below meth c D E (Aof (zS μ0 ν0 a Ad0) [] s.heap.size) 4 (MQ below (cQ D E sz (zS μ0 ν0 a Ad0) [] (pI (fun r u => r = r0.2 ∧ ∃ A1, u = (zS r0.1.1 r0.1.2 a A1, []) ∧ kp ν0 Ad0 A1))) args s (kc r0.1.2 - kc ν0) (ks r0.1.2 - ks ν0) (Aof (zS μ0 ν0 a Ad0) [] s.heap.size)) (zS μ ν a Ad) [] (kc ν - kc ν0) (ks ν - ks ν0) 45 [(0, .ref (Ad 0 0)), (1, .int x1), (2, .int x2), (3, .int x3)] [] := by
  intro n
  induction n with
  | zero => exact fun μ ν Ad x1 x2 x3 hm0 hp0 h => absurd (show (none : Option ((MP × NC) × Int32)) = some r0 from h) (by simp)
  | succ n ih => exact fun μ ν Ad x1 x2 x3 hm0 hp0 h => lb_X8_pass_45 (w := w) C hEv hr hz hm0 hp0   (ml_X8_pass_45  n) ih h
noncomputable def b_X8_pass_21  (w : Nat) (μ : MP) (ν : NC) (x1 : Int32) : Option ((MP × NC) × Int32) := bif ltB 0 (ν.2 0) then bif ltB 0 (ν.2 1) then bif ltB 0 (ν.2 4) then bif ltB 1 (ν.2 1) then bif ltB 1 (ν.2 4) then yl (((μ.1 4 0 2) + (μ.1 4 1 2))) (fun t6 => l_X8_pass_45  w w μ ν x1 t6 (0 : Int32)) else none else none else none else none else none
theorem mb_X8_pass_21 {w : Nat} {μ : MP} {ν : NC} {x1 : Int32} {r0 : (MP × NC) × Int32}   (h : b_X8_pass_21  w μ ν x1 = some r0) : mn ν r0.1.2 := by
  unfold b_X8_pass_21 at h
  iterate 40 (try first | (with_reducible replace h := (of_guard h).2) | (with_reducible (replace h := of_guardP h; obtain ⟨hg, h⟩ := h)) | (with_reducible replace h := yl_of h rfl) | (with_reducible replace h := (of_thr h).2) | (with_reducible (replace h := bind_of h; obtain ⟨v, hv, h⟩ := h)) | (with_reducible split at h) | (with_reducible (exact ml_X8_pass_45  _ _ _ _ _ _ h)) | (with_reducible exact absurd (congrArg Prod.fst (Option.some.inj h)) (by simp)))
set_option maxHeartbeats 4000000 in
set_option maxRecDepth 100000 in
theorem lb_X8_pass_21 {p : Program} {l : Launch} {e : Env} {s : State} {m : MethodId} {args : Array Value} {below : List Frame} {meth : Method} {c : Code} {D : va_G} {E : Nat → ClassId} {sz : Nat} {μ0 : MP} {ν0 : NC} {a : AS} {Ad0 : Nat → Nat → Nat} {w : Nat} {B : Nat × (Nat → Nat)} {r0 : (MP × NC) × Int32} (C : cx p s m args meth c D E (Aof (zS μ0 ν0 a Ad0) [] s.heap.size) cX8_pass 4 "TradeLine") (hEv : eV (Ad0 30 0) (Ad0 31 0) B (Aof (zS μ0 ν0 a Ad0) [] s.heap.size) s s.heap) (hr : meth.sig.returnType = (some .int)) (hz : s.heap.size = sz) {μ : MP} {ν : NC} {Ad : Nat → Nat → Nat} (hm0 : mn ν0 ν) (hp0 : kp ν0 Ad0 Ad) {x1 : Int32}   (h : b_X8_pass_21  w μ ν x1 = some r0) : G p l e ({ frames := 9, cells := kc r0.1.2 - kc ν0, slots := ks r0.1.2 - ks ν0, locals := 269 } : Room) s m args below meth c D E (Aof (zS μ0 ν0 a Ad0) [] s.heap.size) 4 (MQ below (cQ D E sz (zS μ0 ν0 a Ad0) [] (pI (fun r u => r = r0.2 ∧ ∃ A1, u = (zS r0.1.1 r0.1.2 a A1, []) ∧ kp ν0 Ad0 A1))) args s (kc r0.1.2 - kc ν0) (ks r0.1.2 - ks ν0) (Aof (zS μ0 ν0 a Ad0) [] s.heap.size)) (zS μ ν a Ad) [] (kc ν - kc ν0) (ks ν - ks ν0) 21 [(0, .ref (Ad 0 0)), (1, .int x1)] [] := by
  have m0 := mb_X8_pass_21  h
  have e1 := m0.2.1; have e2 := m0.2.2.1; have e3 := hm0.2.1; have e4 := hm0.2.2.1
  unfold b_X8_pass_21 at h
  refine g_aload_n C dX8_pass_21 rfl 0 rfl ?_
  obtain ⟨g1, h⟩ := of_guard h
  refine g_get (k := 0) (i := 0) (ref := "TradeLine") (v := .ref (Ad 1 0)) C rfl (lvZ g1 rfl) rfl rfl inGX8 0 (by decide) gw_170 (fun _ h => h) rfl dX8_pass_22 ?_
  obtain ⟨g2, h⟩ := of_guard h
  refine g_get (k := 1) (i := 0) (ref := "TradeLine$Party") (v := .ref (Ad 4 0)) C rfl (lvZ g2 rfl) rfl rfl inGX5 0 (by decide) gw_112 (fun _ h => h) rfl dX8_pass_25 ?_
  obtain ⟨g3, h⟩ := of_guard h
  refine g_cVi (n := 0) (exc := []) (exr := []) C [] _ rfl rfl [] [] rfl rfl rfl rfl (fun _ h => absurd h (by simp)) (fun _ h => absurd h (by simp)) (fun _ h => absurd h (by simp)) (fun sz => c_Jx4a65c_size_8abf5 l μ ν a Ad _ g3 D E sz) rfl gw_308 gw_5 gw_305 gw_306 gw_307 ⟨by decide +kernel, by decide +kernel, by decide +kernel⟩ ⟨rfl, rfl⟩ ⟨Nat.le_of_ble_eq_true rfl, Nat.le_of_ble_eq_true rfl⟩ (rcvT (lvZ g3 rfl) rfl rfl rfl) (by first | exact Nat.le_of_ble_eq_true rfl | simp [nv_cat, cat_i, cat_r, cat_n]) dX8_pass_28 ⟨by show (kc ν - kc ν0) + 0 ≤ kc r0.1.2 - kc ν0; omega, by show (ks ν - ks ν0) + 0 ≤ ks r0.1.2 - ks ν0; omega⟩ (fun r u hp hx => ?_)
  obtain ⟨er, rfl⟩ := hp
  rw [er]
  try dsimp only [List.append_nil]
  refine g_aload_n C dX8_pass_31 rfl 0 rfl ?_
  refine g_get (k := 0) (i := 0) (ref := "TradeLine") (v := .ref (Ad 1 1)) C rfl (lvZ g1 rfl) rfl rfl inGX8 1 (by decide) gw_171 (fun _ h => h) rfl dX8_pass_32 ?_
  obtain ⟨g4, h⟩ := of_guard h
  refine g_get (k := 1) (i := 1) (ref := "TradeLine$Party") (v := .ref (Ad 4 1)) C rfl (lvZ g4 rfl) rfl rfl inGX5 0 (by decide) gw_112 (fun _ h => h) rfl dX8_pass_35 ?_
  obtain ⟨g5, h⟩ := of_guard h
  refine g_cVi (n := 0) (exc := []) (exr := []) C [] _ rfl rfl [] [] rfl rfl rfl rfl (fun _ h => absurd h (by simp)) (fun _ h => absurd h (by simp)) (fun _ h => absurd h (by simp)) (fun sz => c_Jx4a65c_size_8abf5 l μ ν a Ad _ g5 D E sz) rfl gw_308 gw_5 gw_305 gw_306 gw_307 ⟨by decide +kernel, by decide +kernel, by decide +kernel⟩ ⟨rfl, rfl⟩ ⟨Nat.le_of_ble_eq_true rfl, Nat.le_of_ble_eq_true rfl⟩ (rcvT (lvZ g5 rfl) rfl rfl rfl) (by first | exact Nat.le_of_ble_eq_true rfl | simp [nv_cat, cat_i, cat_r, cat_n]) dX8_pass_38 ⟨by show (kc ν - kc ν0) + 0 ≤ kc r0.1.2 - kc ν0; omega, by show (ks ν - ks ν0) + 0 ≤ ks r0.1.2 - ks ν0; omega⟩ (fun r u hp hx => ?_)
  obtain ⟨er, rfl⟩ := hp
  rw [er]
  try dsimp only [List.append_nil]
  refine g_iadd C dX8_pass_41 ?_
  refine q_topi (fun t6 et6 => ?_)
  replace h := yl_of h et6
  refine g_istore_n (i := 2) (lv' := [(2, .int t6), (0, .ref (Ad 0 0)), (1, .int x1)]) C dX8_pass_42 rfl (by decide) rfl ?_
  refine g_iconst (v := (0 : Int32)) C dX8_pass_43 (by decide) ?_
  refine g_istore_n (i := 3) (lv' := [(3, .int (0 : Int32)), (2, .int t6), (0, .ref (Ad 0 0)), (1, .int x1)]) C dX8_pass_44 rfl (by decide) rfl ?_
  refine g_lv [2, 3, 1, 0] rfl ?_
  exact ll_X8_pass_45 C hEv hr hz   w _ _ _ _ _ _ hm0 hp0 h
noncomputable def f_X8_pass  (w : Nat) (μ : MP) (ν : NC) (x1 : Int32) : Option (Nat × ((MP × NC) × Int32)) := (if x1 < (1 : Int32) then (b_X8_pass_11  w μ ν ) else ((if x1 ≤ (50 : Int32) then ((b_X8_pass_21  w μ ν x1).bind (fun r => some ((0 : Nat), r))) else (b_X8_pass_11  w μ ν ))))
theorem mb_X8_pass_0 {w : Nat} {μ : MP} {ν : NC} {x1 : Int32} {r0 : (MP × NC) × Int32}   (h : f_X8_pass  w μ ν x1 = some (0, r0)) : mn ν r0.1.2 := by
  unfold f_X8_pass at h
  iterate 40 (try first | (with_reducible (replace h := bind_of h; obtain ⟨rz, hrz, h⟩ := h; replace h := congrArg Prod.snd (Option.some.inj h); obtain rfl := h; exact mb_X8_pass_21  hrz)) | (with_reducible replace h := (of_guard h).2) | (with_reducible (replace h := of_guardP h; obtain ⟨hg, h⟩ := h)) | (with_reducible replace h := yl_of h rfl) | (with_reducible replace h := (of_thr h).2) | (with_reducible (replace h := bind_of h; obtain ⟨v, hv, h⟩ := h)) | (with_reducible split at h) | (with_reducible (exact mb_X8_pass_11  h)) | (with_reducible exact absurd (congrArg Prod.fst (Option.some.inj h)) (by simp)))
set_option maxHeartbeats 4000000 in
set_option maxRecDepth 100000 in
theorem lb_X8_pass_0 {p : Program} {l : Launch} {e : Env} {s : State} {m : MethodId} {args : Array Value} {below : List Frame} {meth : Method} {c : Code} {D : va_G} {E : Nat → ClassId} {sz : Nat} {μ0 : MP} {ν0 : NC} {a : AS} {Ad0 : Nat → Nat → Nat} {w : Nat} {B : Nat × (Nat → Nat)} {r0 : (MP × NC) × Int32} (C : cx p s m args meth c D E (Aof (zS μ0 ν0 a Ad0) [] s.heap.size) cX8_pass 4 "TradeLine") (hEv : eV (Ad0 30 0) (Ad0 31 0) B (Aof (zS μ0 ν0 a Ad0) [] s.heap.size) s s.heap) (hr : meth.sig.returnType = (some .int)) (hz : s.heap.size = sz) {μ : MP} {ν : NC} {Ad : Nat → Nat → Nat} (hm0 : mn ν0 ν) (hp0 : kp ν0 Ad0 Ad) {x1 : Int32}   (h : f_X8_pass  w μ ν x1 = some (0, r0)) : G p l e ({ frames := 9, cells := kc r0.1.2 - kc ν0, slots := ks r0.1.2 - ks ν0, locals := 269 } : Room) s m args below meth c D E (Aof (zS μ0 ν0 a Ad0) [] s.heap.size) 4 (MQ below (cQ D E sz (zS μ0 ν0 a Ad0) [] (pI (fun r u => r = r0.2 ∧ ∃ A1, u = (zS r0.1.1 r0.1.2 a A1, []) ∧ kp ν0 Ad0 A1))) args s (kc r0.1.2 - kc ν0) (ks r0.1.2 - ks ν0) (Aof (zS μ0 ν0 a Ad0) [] s.heap.size)) (zS μ ν a Ad) [] (kc ν - kc ν0) (ks ν - ks ν0) 0 [(0, .ref (Ad 0 0)), (1, .int x1)] [] := by
  have m0 := mb_X8_pass_0  h
  have e1 := m0.2.1; have e2 := m0.2.2.1; have e3 := hm0.2.1; have e4 := hm0.2.2.1
  unfold f_X8_pass at h
  refine g_iload_n C dX8_pass_0 rfl 1 rfl ?_
  refine g_iconst (v := (1 : Int32)) C dX8_pass_1 (by decide) ?_
  refine g_icmp_lt (tgt := 11) C dX8_pass_2 (by decide) (fun c2 => ?_) (fun c2 => ?_)
  · replace h := (if_pos c2).symm.trans h
    refine g_lv [0] rfl ?_
    exact lb_X8_pass_11 C hEv hr hz hm0 hp0   h
  · replace h := (if_neg c2).symm.trans h
    refine g_iload_n C dX8_pass_5 rfl 1 rfl ?_
    refine g_bipush (v := (50 : Int32)) C dX8_pass_6 (by decide) ?_
    refine g_icmp_le (tgt := 21) C dX8_pass_8 (by decide) (fun c8 => ?_) (fun c8 => ?_)
    · replace h := (if_pos c8).symm.trans h
      refine g_lv [0, 1] rfl ?_
      obtain ⟨rz, hrz, h⟩ := bind_of h
      obtain rfl := congrArg Prod.snd (Option.some.inj h)
      exact lb_X8_pass_21 C hEv hr hz hm0 hp0   hrz
    · replace h := (if_neg c8).symm.trans h
      refine g_lv [0] rfl ?_
      exact lb_X8_pass_11 C hEv hr hz hm0 hp0   h
theorem m_X8_pass {w : Nat} {μ : MP} {ν : NC} {x1 : Int32} {r0 : (MP × NC) × Int32} (h : f_X8_pass w μ ν x1 = some (0, r0)) : mn ν r0.1.2 := mb_X8_pass_0 h
theorem c_X8_pass (l : Launch) (B : Nat × (Nat → Nat)) (μ : MP) (ν : NC) (a : AS) (Ad : Nat → Nat → Nat) (w : Nat) (x1 : Int32) (r0 : (MP × NC) × Int32) (h : f_X8_pass w μ ν x1 = some (0, r0)) : ∀ D E sz, Met l yX8_pass gwX8_pass ({ frames := 9, cells := kc r0.1.2 - kc ν, slots := ks r0.1.2 - ks ν, locals := 269 } : Room) (cPe D E sz B (zS μ ν a Ad) [] [] [.ref (Ad 0 0), .int x1]) (cQ D E sz (zS μ ν a Ad) [] (pI (fun r u => r = r0.2 ∧ ∃ A1, u = (zS r0.1.1 r0.1.2 a A1, []) ∧ kp ν Ad A1))) (kc r0.1.2 - kc ν) (ks r0.1.2 - ks ν) (Aof (zS μ ν a Ad) [] sz) := by
  intro D E sz
  refine g_ofe (cc := cX8_pass) (maxL := 4) (ret := (some .int)) (own := "TradeLine") (by decide) rfl rfl (Nat.le_of_ble_eq_true rfl) ?_
  intro p e s m args below meth c C hr hin hz ha hwr hEv
  refine g_lv (lv' := [(0, .ref (Ad 0 0)), (1, .int x1)]) [0, 1] rfl ?_
  refine g_widen (k := kc ν - kc ν) (n := ks ν - ks ν) (Nat.zero_le _) (Nat.zero_le _) ?_
  exact lb_X8_pass_0 C hEv hr hz (mn_rfl _) (kp_rfl _ _) h
set_option maxHeartbeats 4000000 in
set_option maxRecDepth 100000 in
theorem lx_X8_pass_11 {p : Program} {l : Launch} {e : Env} {s : State} {m : MethodId} {args : Array Value} {below : List Frame} {meth : Method} {c : Code} {D : va_G} {E : Nat → ClassId} {sz : Nat} {μ : MP} {ν : NC} {a : AS} {Ad : Nat → Nat → Nat} {w nx : Nat} {B : Nat × (Nat → Nat)} {r0 : (MP × NC) × Int32} (C : cx p s m args meth c D E (Aof (zS μ ν a Ad) [] s.heap.size) cX8_pass 4 "TradeLine") (hEv : eV (Ad 30 0) (Ad 31 0) B (Aof (zS μ ν a Ad) [] s.heap.size) s s.heap) (hl : l.stackTraces = false) (hT : ∀ x ∈ c.exceptionTable.toList, False) (hz : s.heap.size = sz) (h : b_X8_pass_11  w μ ν  = some (nx + 1, r0)) : G p l e ({ frames := 9, cells := 1, slots := 6, locals := 269 } : Room) s m args below meth c D E (Aof (zS μ ν a Ad) [] s.heap.size) 4 (vx_MQ below (fun _ _ _ _ => False) (cX D E sz (zS μ ν a Ad) (nx + 1)) args s 1 6 (Aof (zS μ ν a Ad) [] s.heap.size)) (zS μ ν a Ad) [] 0 0 11 [(0, .ref (Ad 0 0))] [] := by
  unfold b_X8_pass_11 at h
  obtain rfl : nx = 1 := by have := congrArg Prod.fst (Option.some.inj h); simp at this; omega
  exact g_thS (n := 2) (ic := 97) (text := "ticks is out of range") C hEv hl hT hz (by decide) gw_498 gw_15 (by decide +kernel) exA_2 (by decide) exG_2 dX8_pass_11 dX8_pass_14 dX8_pass_15 dX8_pass_17 dX8_pass_20 (by decide) (Nat.le_of_ble_eq_true rfl) (by decide) (by decide)
set_option maxHeartbeats 4000000 in
set_option maxRecDepth 100000 in
theorem lx_X8_pass_0 {p : Program} {l : Launch} {e : Env} {s : State} {m : MethodId} {args : Array Value} {below : List Frame} {meth : Method} {c : Code} {D : va_G} {E : Nat → ClassId} {sz : Nat} {μ : MP} {ν : NC} {a : AS} {Ad : Nat → Nat → Nat} {w nx : Nat} {B : Nat × (Nat → Nat)} {r0 : (MP × NC) × Int32} (C : cx p s m args meth c D E (Aof (zS μ ν a Ad) [] s.heap.size) cX8_pass 4 "TradeLine") (hEv : eV (Ad 30 0) (Ad 31 0) B (Aof (zS μ ν a Ad) [] s.heap.size) s s.heap) (hl : l.stackTraces = false) (hT : ∀ x ∈ c.exceptionTable.toList, False) (hz : s.heap.size = sz) {x1 : Int32} (h : f_X8_pass  w μ ν x1 = some (nx + 1, r0)) : G p l e ({ frames := 9, cells := 1, slots := 6, locals := 269 } : Room) s m args below meth c D E (Aof (zS μ ν a Ad) [] s.heap.size) 4 (vx_MQ below (fun _ _ _ _ => False) (cX D E sz (zS μ ν a Ad) (nx + 1)) args s 1 6 (Aof (zS μ ν a Ad) [] s.heap.size)) (zS μ ν a Ad) [] 0 0 0 [(0, .ref (Ad 0 0)), (1, .int x1)] [] := by
  unfold f_X8_pass at h
  refine g_iload_n C dX8_pass_0 rfl 1 rfl ?_
  refine g_iconst (v := (1 : Int32)) C dX8_pass_1 (by decide) ?_
  refine g_icmp_lt (tgt := 11) C dX8_pass_2 (by decide) (fun c2 => ?_) (fun c2 => ?_)
  · replace h := (if_pos c2).symm.trans h
    refine g_lv [0] rfl ?_
    exact lx_X8_pass_11 C hEv hl hT hz h
  · replace h := (if_neg c2).symm.trans h
    refine g_iload_n C dX8_pass_5 rfl 1 rfl ?_
    refine g_bipush (v := (50 : Int32)) C dX8_pass_6 (by decide) ?_
    refine g_icmp_le (tgt := 21) C dX8_pass_8 (by decide) (fun c8 => ?_) (fun c8 => ?_)
    · replace h := (if_pos c8).symm.trans h
      obtain ⟨_, _, h⟩ := bind_of h
      exact absurd (congrArg Prod.fst (Option.some.inj h)) (by simp)
    · replace h := (if_neg c8).symm.trans h
      refine g_lv [0] rfl ?_
      exact lx_X8_pass_11 C hEv hl hT hz h
theorem x_X8_pass (l : Launch) (hl : l.stackTraces = false) (B : Nat × (Nat → Nat)) (μ : MP) (ν : NC) (a : AS) (Ad : Nat → Nat → Nat) (w : Nat) (x1 : Int32) (nx : Nat) (r0 : (MP × NC) × Int32) (h : f_X8_pass w μ ν x1 = some (nx + 1, r0)) : ∀ D E sz, vx_Met l yX8_pass gwX8_pass ({ frames := 9, cells := 1, slots := 6, locals := 269 } : Room) (cPe D E sz B (zS μ ν a Ad) [] [] [.ref (Ad 0 0), .int x1]) (fun _ _ _ _ => False) (cX D E sz (zS μ ν a Ad) (nx + 1)) 1 6 (Aof (zS μ ν a Ad) [] sz) := by
  intro D E sz
  refine g_ofx (cc := cX8_pass) (maxL := 4) (ret := (some .int)) (own := "TradeLine") (by decide) rfl rfl (Nat.le_of_ble_eq_true rfl) ?_
  intro p e s m args below meth c C hT hz ha hEv
  refine g_lv (lv' := [(0, .ref (Ad 0 0)), (1, .int x1)]) [0, 1] rfl ?_
  exact lx_X8_pass_0 C hEv hl hT hz h
noncomputable def b_X8_cancel_40  (w : Nat) (μ : MP) (ν : NC) (p2 : Nat) : Option ((MP × NC) × Int32) := bif nzB p2 then bif ltB (p2 - 1) (ν.2 20) then some ((μ, ν), (μ.1 20 (p2 - 1) 7)) else none else none
theorem mb_X8_cancel_40 {w : Nat} {μ : MP} {ν : NC} {p2 : Nat} {r0 : (MP × NC) × Int32}   (h : b_X8_cancel_40  w μ ν p2 = some r0) : mn ν r0.1.2 := by
  unfold b_X8_cancel_40 at h
  iterate 40 (try first | (with_reducible replace h := (of_guard h).2) | (with_reducible (replace h := of_guardP h; obtain ⟨hg, h⟩ := h)) | (with_reducible replace h := yl_of h rfl) | (with_reducible replace h := (of_thr h).2) | (with_reducible (replace h := bind_of h; obtain ⟨v, hv, h⟩ := h)) | (with_reducible split at h) | (with_reducible (replace h := Option.some.inj h; obtain rfl := h; exact mn_rfl _)) | (with_reducible exact absurd (congrArg Prod.fst (Option.some.inj h)) (by simp)))
set_option maxHeartbeats 4000000 in
set_option maxRecDepth 100000 in
theorem lb_X8_cancel_40 {p : Program} {l : Launch} {e : Env} {s : State} {m : MethodId} {args : Array Value} {below : List Frame} {meth : Method} {c : Code} {D : va_G} {E : Nat → ClassId} {sz : Nat} {μ0 : MP} {ν0 : NC} {a : AS} {Ad0 : Nat → Nat → Nat} {w : Nat} {B : Nat × (Nat → Nat)} {r0 : (MP × NC) × Int32} (C : cx p s m args meth c D E (Aof (zS μ0 ν0 a Ad0) [] s.heap.size) cX8_cancel 3 "TradeLine") (hEv : eV (Ad0 30 0) (Ad0 31 0) B (Aof (zS μ0 ν0 a Ad0) [] s.heap.size) s s.heap) (hr : meth.sig.returnType = (some .int)) (hz : s.heap.size = sz) {μ : MP} {ν : NC} {Ad : Nat → Nat → Nat} (hm0 : mn ν0 ν) (hp0 : kp ν0 Ad0 Ad) {p2 : Nat}   (h : b_X8_cancel_40  w μ ν p2 = some r0) : G p l e ({ frames := 8, cells := kc r0.1.2 - kc ν0, slots := ks r0.1.2 - ks ν0, locals := 246 } : Room) s m args below meth c D E (Aof (zS μ0 ν0 a Ad0) [] s.heap.size) 3 (MQ below (cQ D E sz (zS μ0 ν0 a Ad0) [] (pI (fun r u => r = r0.2 ∧ ∃ A1, u = (zS r0.1.1 r0.1.2 a A1, []) ∧ kp ν0 Ad0 A1))) args s (kc r0.1.2 - kc ν0) (ks r0.1.2 - ks ν0) (Aof (zS μ0 ν0 a Ad0) [] s.heap.size)) (zS μ ν a Ad) [] (kc ν - kc ν0) (ks ν - ks ν0) 40 [(0, .ref (Ad 0 0)), (2, nv (Ad 20) p2)] [] := by
  have m0 := mb_X8_cancel_40  h
  have e1 := m0.2.1; have e2 := m0.2.2.1; have e3 := hm0.2.1; have e4 := hm0.2.2.1
  unfold b_X8_cancel_40 at h
  refine z_aload_n C dX8_cancel_40 rfl 1 rfl (nv_or _ _) ?_
  obtain ⟨g10, h⟩ := of_guard h
  rw [nzB_e g10]
  obtain ⟨g11, h⟩ := of_guard h
  refine g_get (k := 20) (i := (p2 - 1)) (ref := "TradeLine$Order") (v := .int (μ.1 20 (p2 - 1) 7)) C rfl (lvZ g11 rfl) rfl rfl inGX4 7 (by decide) gw_1123 (fun _ h => h) rfl dX8_cancel_41 ?_
  obtain rfl := Option.some.inj h
  exact g_iret C hr rfl hz ⟨(hm0.2.2.2 30 (by decide) (by decide)).1, (hm0.2.2.2 31 (by decide) (by decide)).1, hp0.2.1, hp0.2.2⟩ ⟨rfl, Ad, rfl, hp0⟩ (fun j x h => by simp at h) dX8_cancel_44
noncomputable def b_X8_cancel_28  (w : Nat) (μ : MP) (ν : NC) (x1 : Int32) (p2 : Nat) (s1 : Int32) (s2 : Int32) (f0 : Nat → Int32) : Option ((MP × NC) × Int32) := bif ltB 0 (ν.2 0) then bif decide (p2 ≤ ν.2 20) then (f_X8_send_L w μ ν s2 s1 2 (up1 (up1 f0 0 (41 : Int32)) 1 x1)).bind (fun v8 => b_X8_cancel_40  w v8.1.1 v8.1.2 p2) else none else none
theorem mb_X8_cancel_28 {w : Nat} {μ : MP} {ν : NC} {x1 : Int32} {p2 : Nat} {s1 : Int32} {s2 : Int32} {f0 : Nat → Int32} {r0 : (MP × NC) × Int32}   (h : b_X8_cancel_28  w μ ν x1 p2 s1 s2 f0 = some r0) : mn ν r0.1.2 := by
  unfold b_X8_cancel_28 at h
  iterate 40 (try first | (with_reducible replace h := (of_guard h).2) | (with_reducible (replace h := of_guardP h; obtain ⟨hg, h⟩ := h)) | (with_reducible replace h := yl_of h rfl) | (with_reducible replace h := (of_thr h).2) | (with_reducible (replace h := bind_of h; obtain ⟨v, hv, h⟩ := h)) | (with_reducible split at h) | (with_reducible (exact mn_trans (m_X8_send_L hv) (mb_X8_cancel_40  h))) | (with_reducible exact absurd (congrArg Prod.fst (Option.some.inj h)) (by simp)))
set_option maxHeartbeats 4000000 in
set_option maxRecDepth 100000 in
theorem lb_X8_cancel_28 {p : Program} {l : Launch} {e : Env} {s : State} {m : MethodId} {args : Array Value} {below : List Frame} {meth : Method} {c : Code} {D : va_G} {E : Nat → ClassId} {sz : Nat} {μ0 : MP} {ν0 : NC} {a : AS} {Ad0 : Nat → Nat → Nat} {w : Nat} {B : Nat × (Nat → Nat)} {r0 : (MP × NC) × Int32} (C : cx p s m args meth c D E (Aof (zS μ0 ν0 a Ad0) [] s.heap.size) cX8_cancel 3 "TradeLine") (hEv : eV (Ad0 30 0) (Ad0 31 0) B (Aof (zS μ0 ν0 a Ad0) [] s.heap.size) s s.heap) (hr : meth.sig.returnType = (some .int)) (hz : s.heap.size = sz) {μ : MP} {ν : NC} {Ad : Nat → Nat → Nat} (hm0 : mn ν0 ν) (hp0 : kp ν0 Ad0 Ad) {x1 : Int32} {p2 : Nat} {s1 : Int32} {s2 : Int32} {f0 : Nat → Int32} {q0 : Nat} (hq0 : (Aof (zS μ0 ν0 a Ad0) [] s.heap.size) q0)   (h : b_X8_cancel_28  w μ ν x1 p2 s1 s2 f0 = some r0) : G p l e ({ frames := 8, cells := kc r0.1.2 - kc ν0, slots := ks r0.1.2 - ks ν0, locals := 246 } : Room) s m args below meth c D E (Aof (zS μ0 ν0 a Ad0) [] s.heap.size) 3 (MQ below (cQ D E sz (zS μ0 ν0 a Ad0) [] (pI (fun r u => r = r0.2 ∧ ∃ A1, u = (zS r0.1.1 r0.1.2 a A1, []) ∧ kp ν0 Ad0 A1))) args s (kc r0.1.2 - kc ν0) (ks r0.1.2 - ks ν0) (Aof (zS μ0 ν0 a Ad0) [] s.heap.size)) (zS μ ν a Ad) [(q0, .inl (E 0, 2, .inl f0))] (kc ν - kc ν0) (ks ν - ks ν0) 28 [(0, .ref (Ad 0 0)), (1, .int x1), (2, nv (Ad 20) p2)] [.ref q0, .int s1, .int s2, .ref (Ad 0 0)] := by
  have m0 := mb_X8_cancel_28  h
  have e1 := m0.2.1; have e2 := m0.2.2.1; have e3 := hm0.2.1; have e4 := hm0.2.2.1
  unfold b_X8_cancel_28 at h
  refine g_dup C dX8_cancel_28 rfl ?_
  refine g_iconst (v := (0 : Int32)) C dX8_cancel_29 (by decide) ?_
  refine g_bipush (v := (41 : Int32)) C dX8_cancel_30 (by decide) ?_
  refine g_iastL C 0 rfl hq0 (ixB_in rfl) (ex' := [(q0, .inl (E 0, 2, .inl (up1 f0 0 (41 : Int32))))]) rfl dX8_cancel_32 ?_
  refine g_dup C dX8_cancel_33 rfl ?_
  refine g_iconst (v := (1 : Int32)) C dX8_cancel_34 (by decide) ?_
  refine g_iload_n C dX8_cancel_35 rfl 1 rfl ?_
  refine g_iastL C 0 rfl hq0 (ixB_in rfl) (ex' := [(q0, .inl (E 0, 2, .inl (up1 (up1 f0 0 (41 : Int32)) 1 x1)))]) rfl dX8_cancel_36 ?_
  obtain ⟨g7, h⟩ := of_guard h
  obtain ⟨g9, h⟩ := of_guard h
  obtain ⟨v8, hv8, h⟩ := bind_of h
  have m2 := m_X8_send_L hv8
  have m3 := mb_X8_cancel_40  h
  have a1 := hm0.2.1; have a2 := hm0.2.2.1; have b1 := m2.2.1; have b2 := m2.2.2.1; have d1 := m3.2.1; have d2 := m3.2.2.1
  refine g_lv [0, 2] rfl ?_
  refine g_cVve (n := 3) (exc := [(q0, .inl (E 0, 2, .inl (up1 (up1 f0 0 (41 : Int32)) 1 x1)))]) (exr := []) C hEv ⟨hp0.2.1 0, hp0.2.2 0⟩ [_, _, _] _ rfl rfl [0] [] rfl rfl rfl rfl (fun _ h => by simp at h) (fun _ h => absurd h (by simp)) (fun _ h => absurd h (by simp)) (fun sz => c_X8_send_L l B μ ν a Ad w s2 s1 q0 2 (up1 (up1 f0 0 (41 : Int32)) 1 x1) _ hv8 D E sz) rfl gw_300 gw_1 gw_297 gw_299 gs_1 ⟨by decide +kernel, by decide +kernel, by decide +kernel⟩ ⟨rfl, rfl⟩ ⟨Nat.le_of_ble_eq_true rfl, Nat.le_of_ble_eq_true rfl⟩ (rcvT (lvZ g7 rfl) rfl rfl rfl) (by first | exact Nat.le_of_ble_eq_true rfl | simp [nv_cat, cat_i, cat_r, cat_n]) dX8_cancel_37 ⟨by show (kc ν - kc ν0) + (kc v8.1.2 - kc ν) ≤ kc r0.1.2 - kc ν0; omega, by show (ks ν - ks ν0) + (ks v8.1.2 - ks ν) ≤ ks r0.1.2 - ks ν0; omega⟩ (fun u hp hx => ?_)
  obtain ⟨A1, rfl, hkp⟩ := hp
  try dsimp only [List.append_nil]
  refine g_widen (k := kc v8.1.2 - kc ν0) (n := ks v8.1.2 - ks ν0) (by omega) (by omega) ?_
  rw [show Ad 0 0 = A1 0 0 from (hkp.1 0 _ rfl (of_decide_eq_true g7)).symm]
  rw [show nv (Ad 20) p2 = nv (A1 20) p2 from (kp_nv hkp rfl g9).symm]
  exact lb_X8_cancel_40 C hEv hr hz (mn_trans hm0 m2) (kp_trans hp0 hm0 hkp)   h
noncomputable def b_X8_cancel_11  (w : Nat) (μ : MP) (ν : NC) (x1 : Int32) (p2 : Nat) : Option ((MP × NC) × Int32) := bif nzB p2 then bif ltB (p2 - 1) (ν.2 20) then yl (uM μ 20 (p2 - 1) 7 ((μ.1 20 (p2 - 1) 7) + (1 : Int32))) (fun m6 => b_X8_cancel_28  w m6 (chg ν 1 2) x1 ((p2 - 1) + 1) (6 : Int32) (0 : Int32) (fun _ => 0)) else none else none
theorem mb_X8_cancel_11 {w : Nat} {μ : MP} {ν : NC} {x1 : Int32} {p2 : Nat} {r0 : (MP × NC) × Int32}   (h : b_X8_cancel_11  w μ ν x1 p2 = some r0) : mn ν r0.1.2 := by
  unfold b_X8_cancel_11 at h
  iterate 40 (try first | (with_reducible replace h := (of_guard h).2) | (with_reducible (replace h := of_guardP h; obtain ⟨hg, h⟩ := h)) | (with_reducible replace h := yl_of h rfl) | (with_reducible replace h := (of_thr h).2) | (with_reducible (replace h := bind_of h; obtain ⟨v, hv, h⟩ := h)) | (with_reducible split at h) | (with_reducible (exact mn_trans (mn_chg _ _ _) (mb_X8_cancel_28  h))) | (with_reducible exact absurd (congrArg Prod.fst (Option.some.inj h)) (by simp)))
set_option maxHeartbeats 4000000 in
set_option maxRecDepth 100000 in
theorem lb_X8_cancel_11 {p : Program} {l : Launch} {e : Env} {s : State} {m : MethodId} {args : Array Value} {below : List Frame} {meth : Method} {c : Code} {D : va_G} {E : Nat → ClassId} {sz : Nat} {μ0 : MP} {ν0 : NC} {a : AS} {Ad0 : Nat → Nat → Nat} {w : Nat} {B : Nat × (Nat → Nat)} {r0 : (MP × NC) × Int32} (C : cx p s m args meth c D E (Aof (zS μ0 ν0 a Ad0) [] s.heap.size) cX8_cancel 3 "TradeLine") (hEv : eV (Ad0 30 0) (Ad0 31 0) B (Aof (zS μ0 ν0 a Ad0) [] s.heap.size) s s.heap) (hr : meth.sig.returnType = (some .int)) (hz : s.heap.size = sz) {μ : MP} {ν : NC} {Ad : Nat → Nat → Nat} (hm0 : mn ν0 ν) (hp0 : kp ν0 Ad0 Ad) {x1 : Int32} {p2 : Nat}   (h : b_X8_cancel_11  w μ ν x1 p2 = some r0) : G p l e ({ frames := 8, cells := kc r0.1.2 - kc ν0, slots := ks r0.1.2 - ks ν0, locals := 246 } : Room) s m args below meth c D E (Aof (zS μ0 ν0 a Ad0) [] s.heap.size) 3 (MQ below (cQ D E sz (zS μ0 ν0 a Ad0) [] (pI (fun r u => r = r0.2 ∧ ∃ A1, u = (zS r0.1.1 r0.1.2 a A1, []) ∧ kp ν0 Ad0 A1))) args s (kc r0.1.2 - kc ν0) (ks r0.1.2 - ks ν0) (Aof (zS μ0 ν0 a Ad0) [] s.heap.size)) (zS μ ν a Ad) [] (kc ν - kc ν0) (ks ν - ks ν0) 11 [(0, .ref (Ad 0 0)), (1, .int x1), (2, nv (Ad 20) p2)] [] := by
  have m0 := mb_X8_cancel_11  h
  have e1 := m0.2.1; have e2 := m0.2.2.1; have e3 := hm0.2.1; have e4 := hm0.2.2.1
  unfold b_X8_cancel_11 at h
  refine z_aload_n C dX8_cancel_11 rfl 2 rfl (nv_or _ _) ?_
  refine g_dup C dX8_cancel_12 (nv_cat _ _) ?_
  obtain ⟨g4, h⟩ := of_guard h
  rw [nzB_e g4]
  obtain ⟨g5, h⟩ := of_guard h
  refine g_get (k := 20) (i := (p2 - 1)) (ref := "TradeLine$Order") (v := .int (μ.1 20 (p2 - 1) 7)) C rfl (lvZ g5 rfl) rfl rfl inGX4 7 (by decide) gw_1123 (fun _ h => h) rfl dX8_cancel_13 ?_
  refine g_iconst (v := (1 : Int32)) C dX8_cancel_16 (by decide) ?_
  refine g_iadd C dX8_cancel_17 ?_
  refine z_put (k := 20) (i := (p2 - 1)) (ref := "TradeLine$Order") C rfl g5 rfl rfl rfl inGX4 tyX4 tyX4_ok nmX4 7 (by decide) gw_1123 (fun _ h => h) rfl (tyX4_ok 7 (by decide)) rfl rfl (by simp [fvs]) (by simp [fvs, up1]) dX8_cancel_18 (fun m6 em6 => ?_)
  replace h := yl_of h em6
  refine g_aload_n C dX8_cancel_21 rfl 0 rfl ?_
  refine g_iconst (v := (0 : Int32)) C dX8_cancel_22 (by decide) ?_
  refine g_bipush (v := (6 : Int32)) C dX8_cancel_23 (by decide) ?_
  refine g_iconst (v := (2 : Int32)) C dX8_cancel_25 (by decide) ?_
  refine g_lv [0, 1, 2] rfl ?_
  have m2 := mn_chg ν 1 2
  have m3 := mb_X8_cancel_28  h
  have a1 := hm0.2.1; have a2 := hm0.2.2.1; have b1 := m2.2.1; have b2 := m2.2.2.1; have d1 := m3.2.1; have d2 := m3.2.2.1
  rw [kc_chg] at b1 d1
  rw [ks_chg] at b2 d2
  refine g_newa (atype := .int) (ty := .int) (t := 0) (N' := 2) (a0 := (2, .inl (fun _ => 0))) C gw_95 rfl rfl (fun _ h => by cases h) (fun _ => rfl) (by decide) (by decide) (by decide) (by show (kc ν - kc ν0) + 1 ≤ kc r0.1.2 - kc ν0; omega) (by show (ks ν - ks ν0) + 2 ≤ ks r0.1.2 - ks ν0; omega) dX8_cancel_26 (fun q0 hq0 hs0 => ?_)
  refine g_chg 1 2 ?_
  refine g_widen (k := kc (chg ν 1 2) - kc ν0) (n := ks (chg ν 1 2) - ks ν0) (by rw [kc_chg]; omega) (by rw [ks_chg]; omega) ?_
  exact lb_X8_cancel_28 C hEv hr hz (mn_trans hm0 m2) hp0 hq0  h
noncomputable def f_X8_cancel  (w : Nat) (μ : MP) (ν : NC) (x1 : Int32) : Option (Nat × ((MP × NC) × Int32)) := bif ltB 0 (ν.2 0) then (f_X8_requireOrder w μ ν x1).bind (fun v2 => bif eqB v2.1 0 then (f_X8_requireAskable w μ ν v2.2).bind (fun v3 => bif eqB v3.1 0 then (b_X8_cancel_11  w μ ν x1 v2.2).bind (fun r => some ((0 : Nat), r)) else some (v3.1, ((μ, ν), (0 : Int32)))) else some (v2.1, ((μ, ν), (0 : Int32)))) else none
theorem mb_X8_cancel_0 {w : Nat} {μ : MP} {ν : NC} {x1 : Int32} {r0 : (MP × NC) × Int32}   (h : f_X8_cancel  w μ ν x1 = some (0, r0)) : mn ν r0.1.2 := by
  unfold f_X8_cancel at h
  iterate 40 (try first | (with_reducible (replace h := bind_of h; obtain ⟨rz, hrz, h⟩ := h; replace h := congrArg Prod.snd (Option.some.inj h); obtain rfl := h; exact mb_X8_cancel_11  hrz)) | (with_reducible replace h := (of_guard h).2) | (with_reducible (replace h := of_guardP h; obtain ⟨hg, h⟩ := h)) | (with_reducible replace h := yl_of h rfl) | (with_reducible replace h := (of_thr h).2) | (with_reducible (replace h := bind_of h; obtain ⟨v, hv, h⟩ := h)) | (with_reducible split at h) | (with_reducible exact absurd (congrArg Prod.fst (Option.some.inj h)) (by simp)))
set_option maxHeartbeats 4000000 in
set_option maxRecDepth 100000 in
theorem lb_X8_cancel_0 {p : Program} {l : Launch} {e : Env} {s : State} {m : MethodId} {args : Array Value} {below : List Frame} {meth : Method} {c : Code} {D : va_G} {E : Nat → ClassId} {sz : Nat} {μ0 : MP} {ν0 : NC} {a : AS} {Ad0 : Nat → Nat → Nat} {w : Nat} {B : Nat × (Nat → Nat)} {r0 : (MP × NC) × Int32} (C : cx p s m args meth c D E (Aof (zS μ0 ν0 a Ad0) [] s.heap.size) cX8_cancel 3 "TradeLine") (hEv : eV (Ad0 30 0) (Ad0 31 0) B (Aof (zS μ0 ν0 a Ad0) [] s.heap.size) s s.heap) (hr : meth.sig.returnType = (some .int)) (hz : s.heap.size = sz) {μ : MP} {ν : NC} {Ad : Nat → Nat → Nat} (hm0 : mn ν0 ν) (hp0 : kp ν0 Ad0 Ad) {x1 : Int32}   (h : f_X8_cancel  w μ ν x1 = some (0, r0)) : G p l e ({ frames := 8, cells := kc r0.1.2 - kc ν0, slots := ks r0.1.2 - ks ν0, locals := 246 } : Room) s m args below meth c D E (Aof (zS μ0 ν0 a Ad0) [] s.heap.size) 3 (MQ below (cQ D E sz (zS μ0 ν0 a Ad0) [] (pI (fun r u => r = r0.2 ∧ ∃ A1, u = (zS r0.1.1 r0.1.2 a A1, []) ∧ kp ν0 Ad0 A1))) args s (kc r0.1.2 - kc ν0) (ks r0.1.2 - ks ν0) (Aof (zS μ0 ν0 a Ad0) [] s.heap.size)) (zS μ ν a Ad) [] (kc ν - kc ν0) (ks ν - ks ν0) 0 [(0, .ref (Ad 0 0)), (1, .int x1)] [] := by
  have m0 := mb_X8_cancel_0  h
  have e1 := m0.2.1; have e2 := m0.2.2.1; have e3 := hm0.2.1; have e4 := hm0.2.2.1
  unfold f_X8_cancel at h
  refine g_aload_n C dX8_cancel_0 rfl 0 rfl ?_
  refine g_iload_n C dX8_cancel_1 rfl 1 rfl ?_
  obtain ⟨g1, h⟩ := of_guard h
  obtain ⟨v2, hv2, h⟩ := bind_of h
  obtain ⟨nv2, h⟩ := of_thr h
  refine g_cVq (n := 1) (exc := []) (exr := []) C [_] _ rfl rfl [] [] rfl rfl rfl rfl (fun _ h => absurd h (by simp)) (fun _ h => absurd h (by simp)) (fun _ h => absurd h (by simp)) (fun sz => c_X8_requireOrder l μ ν a Ad w x1 _ (thr0 hv2 nv2) D E sz) rfl gw_1155 gw_1 gw_1152 gw_1154 gs_35 ⟨by decide +kernel, by decide +kernel, by decide +kernel⟩ ⟨rfl, rfl⟩ ⟨Nat.le_of_ble_eq_true rfl, Nat.le_of_ble_eq_true rfl⟩ (rcvT (lvZ g1 rfl) rfl rfl rfl) (by first | exact Nat.le_of_ble_eq_true rfl | simp [nv_cat, cat_i, cat_r, cat_n]) dX8_cancel_2 ⟨by show (kc ν - kc ν0) + 0 ≤ kc r0.1.2 - kc ν0; omega, by show (ks ν - ks ν0) + 0 ≤ ks r0.1.2 - ks ν0; omega⟩ (fun r u hp hx => ?_)
  obtain ⟨er, rfl⟩ := hp
  rw [er]
  try dsimp only [List.append_nil]
  refine z_astore_n (i := 2) (lv' := [(2, nv (Ad 20) v2.2), (0, .ref (Ad 0 0)), (1, .int x1)]) C dX8_cancel_5 (nv_or _ _) rfl (by decide) (by simp [nv_cat, cat_i, cat_r, cat_n]) ?_
  refine g_aload_n C dX8_cancel_6 rfl 1 rfl ?_
  refine z_aload_n C dX8_cancel_7 rfl 0 rfl (nv_or _ _) ?_
  obtain ⟨v3, hv3, h⟩ := bind_of h
  obtain ⟨nv3, h⟩ := of_thr h
  refine g_cVv (n := 1) (exc := []) (exr := []) C [_] _ rfl rfl [] [] rfl rfl rfl rfl (fun _ h => absurd h (by simp)) (fun _ h => absurd h (by simp)) (fun _ h => absurd h (by simp)) (fun sz => c_X8_requireAskable l μ ν a Ad w v2.2 _ (thr0 hv3 nv3) D E sz) rfl gw_1160 gw_1 gw_1157 gw_1159 gs_36 ⟨by decide +kernel, by decide +kernel, by decide +kernel⟩ ⟨rfl, rfl⟩ ⟨Nat.le_of_ble_eq_true rfl, Nat.le_of_ble_eq_true rfl⟩ (rcvT (lvZ g1 rfl) rfl rfl rfl) (by first | exact Nat.le_of_ble_eq_true rfl | simp [nv_cat, cat_i, cat_r, cat_n]) dX8_cancel_8 ⟨by show (kc ν - kc ν0) + 0 ≤ kc r0.1.2 - kc ν0; omega, by show (ks ν - ks ν0) + 0 ≤ ks r0.1.2 - ks ν0; omega⟩ (fun u hp hx => ?_)
  obtain rfl := hp
  try dsimp only [List.append_nil]
  refine g_lv [1, 2, 0] rfl ?_
  obtain ⟨rz, hrz, h⟩ := bind_of h
  obtain rfl := congrArg Prod.snd (Option.some.inj h)
  exact lb_X8_cancel_11 C hEv hr hz hm0 hp0   hrz
theorem m_X8_cancel {w : Nat} {μ : MP} {ν : NC} {x1 : Int32} {r0 : (MP × NC) × Int32} (h : f_X8_cancel w μ ν x1 = some (0, r0)) : mn ν r0.1.2 := mb_X8_cancel_0 h
theorem c_X8_cancel (l : Launch) (B : Nat × (Nat → Nat)) (μ : MP) (ν : NC) (a : AS) (Ad : Nat → Nat → Nat) (w : Nat) (x1 : Int32) (r0 : (MP × NC) × Int32) (h : f_X8_cancel w μ ν x1 = some (0, r0)) : ∀ D E sz, Met l yX8_cancel gwX8_cancel ({ frames := 8, cells := kc r0.1.2 - kc ν, slots := ks r0.1.2 - ks ν, locals := 246 } : Room) (cPe D E sz B (zS μ ν a Ad) [] [] [.ref (Ad 0 0), .int x1]) (cQ D E sz (zS μ ν a Ad) [] (pI (fun r u => r = r0.2 ∧ ∃ A1, u = (zS r0.1.1 r0.1.2 a A1, []) ∧ kp ν Ad A1))) (kc r0.1.2 - kc ν) (ks r0.1.2 - ks ν) (Aof (zS μ ν a Ad) [] sz) := by
  intro D E sz
  refine g_ofe (cc := cX8_cancel) (maxL := 3) (ret := (some .int)) (own := "TradeLine") (by decide) rfl rfl (Nat.le_of_ble_eq_true rfl) ?_
  intro p e s m args below meth c C hr hin hz ha hwr hEv
  refine g_lv (lv' := [(0, .ref (Ad 0 0)), (1, .int x1)]) [0, 1] rfl ?_
  refine g_widen (k := kc ν - kc ν) (n := ks ν - ks ν) (Nat.zero_le _) (Nat.zero_le _) ?_
  exact lb_X8_cancel_0 C hEv hr hz (mn_rfl _) (kp_rfl _ _) h
set_option maxHeartbeats 4000000 in
set_option maxRecDepth 100000 in
theorem lx_X8_cancel_0 {p : Program} {l : Launch} {e : Env} {s : State} {m : MethodId} {args : Array Value} {below : List Frame} {meth : Method} {c : Code} {D : va_G} {E : Nat → ClassId} {sz : Nat} {μ : MP} {ν : NC} {a : AS} {Ad : Nat → Nat → Nat} {w nx : Nat} {B : Nat × (Nat → Nat)} {r0 : (MP × NC) × Int32} (C : cx p s m args meth c D E (Aof (zS μ ν a Ad) [] s.heap.size) cX8_cancel 3 "TradeLine") (hEv : eV (Ad 30 0) (Ad 31 0) B (Aof (zS μ ν a Ad) [] s.heap.size) s s.heap) (hl : l.stackTraces = false) (hT : ∀ x ∈ c.exceptionTable.toList, False) (hz : s.heap.size = sz) {x1 : Int32} (h : f_X8_cancel  w μ ν x1 = some (nx + 1, r0)) : G p l e ({ frames := 8, cells := 1, slots := 6, locals := 246 } : Room) s m args below meth c D E (Aof (zS μ ν a Ad) [] s.heap.size) 3 (vx_MQ below (fun _ _ _ _ => False) (cX D E sz (zS μ ν a Ad) (nx + 1)) args s 1 6 (Aof (zS μ ν a Ad) [] s.heap.size)) (zS μ ν a Ad) [] 0 0 0 [(0, .ref (Ad 0 0)), (1, .int x1)] [] := by
  unfold f_X8_cancel at h
  refine g_aload_n C dX8_cancel_0 rfl 0 rfl ?_
  refine g_iload_n C dX8_cancel_1 rfl 1 rfl ?_
  obtain ⟨g1, h⟩ := of_guard h
  obtain ⟨v2, hv2, h⟩ := bind_of h
  rcases of_thx h with ⟨nv2, h⟩ | nv2
  · refine g_cVq (n := 1) (exc := []) (exr := []) C [_] _ rfl rfl [] [] rfl rfl rfl rfl (fun _ h => absurd h (by simp)) (fun _ h => absurd h (by simp)) (fun _ h => absurd h (by simp)) (fun sz => c_X8_requireOrder l μ ν a Ad w x1 _ (thr0 hv2 nv2) D E sz) rfl gw_1155 gw_1 gw_1152 gw_1154 gs_35 ⟨by decide +kernel, by decide +kernel, by decide +kernel⟩ ⟨rfl, rfl⟩ ⟨Nat.le_of_ble_eq_true rfl, Nat.le_of_ble_eq_true rfl⟩ (rcvT (lvZ g1 rfl) rfl rfl rfl) (by first | exact Nat.le_of_ble_eq_true rfl | simp [nv_cat, cat_i, cat_r, cat_n]) dX8_cancel_2 ⟨by decide, by decide⟩ (fun r u hp hx => ?_)
    obtain ⟨er, rfl⟩ := hp
    rw [er]
    try dsimp only [List.append_nil]
    refine z_astore_n (i := 2) (lv' := [(2, nv (Ad 20) v2.2), (0, .ref (Ad 0 0)), (1, .int x1)]) C dX8_cancel_5 (nv_or _ _) rfl (by decide) (by simp [nv_cat, cat_i, cat_r, cat_n]) ?_
    refine g_aload_n C dX8_cancel_6 rfl 1 rfl ?_
    refine z_aload_n C dX8_cancel_7 rfl 0 rfl (nv_or _ _) ?_
    obtain ⟨v3, hv3, h⟩ := bind_of h
    rcases of_thx h with ⟨nv3, h⟩ | nv3
    · refine g_cVv (n := 1) (exc := []) (exr := []) C [_] _ rfl rfl [] [] rfl rfl rfl rfl (fun _ h => absurd h (by simp)) (fun _ h => absurd h (by simp)) (fun _ h => absurd h (by simp)) (fun sz => c_X8_requireAskable l μ ν a Ad w v2.2 _ (thr0 hv3 nv3) D E sz) rfl gw_1160 gw_1 gw_1157 gw_1159 gs_36 ⟨by decide +kernel, by decide +kernel, by decide +kernel⟩ ⟨rfl, rfl⟩ ⟨Nat.le_of_ble_eq_true rfl, Nat.le_of_ble_eq_true rfl⟩ (rcvT (lvZ g1 rfl) rfl rfl rfl) (by first | exact Nat.le_of_ble_eq_true rfl | simp [nv_cat, cat_i, cat_r, cat_n]) dX8_cancel_8 ⟨by decide, by decide⟩ (fun u hp hx => ?_)
      obtain rfl := hp
      try dsimp only [List.append_nil]
      obtain ⟨_, _, h⟩ := bind_of h
      exact absurd (congrArg Prod.fst (Option.some.inj h)) (by simp)
    · exact g_xV (index := 1) C hEv ⟨rfl, rfl⟩ hT hz [_] _ rfl rfl (fun sz => x_X8_requireAskable l hl B μ ν a Ad w v2.2 _ _ (thrS hv3 nv3) D E sz) rfl gw_1160 gw_1 gw_1157 gw_1159 gs_36 ⟨by decide +kernel, by decide +kernel, by decide +kernel⟩ ⟨rfl, rfl⟩ ⟨Nat.le_of_ble_eq_true rfl, Nat.le_of_ble_eq_true rfl⟩ (rcvT (lvZ g1 rfl) rfl rfl rfl) (Nat.le_of_ble_eq_true rfl) dX8_cancel_8 ⟨by decide, by decide⟩
  · exact g_xV (index := 1) C hEv ⟨rfl, rfl⟩ hT hz [_] _ rfl rfl (fun sz => x_X8_requireOrder l hl B μ ν a Ad w x1 _ _ (thrS hv2 nv2) D E sz) rfl gw_1155 gw_1 gw_1152 gw_1154 gs_35 ⟨by decide +kernel, by decide +kernel, by decide +kernel⟩ ⟨rfl, rfl⟩ ⟨Nat.le_of_ble_eq_true rfl, Nat.le_of_ble_eq_true rfl⟩ (rcvT (lvZ g1 rfl) rfl rfl rfl) (Nat.le_of_ble_eq_true rfl) dX8_cancel_2 ⟨by decide, by decide⟩
theorem x_X8_cancel (l : Launch) (hl : l.stackTraces = false) (B : Nat × (Nat → Nat)) (μ : MP) (ν : NC) (a : AS) (Ad : Nat → Nat → Nat) (w : Nat) (x1 : Int32) (nx : Nat) (r0 : (MP × NC) × Int32) (h : f_X8_cancel w μ ν x1 = some (nx + 1, r0)) : ∀ D E sz, vx_Met l yX8_cancel gwX8_cancel ({ frames := 8, cells := 1, slots := 6, locals := 246 } : Room) (cPe D E sz B (zS μ ν a Ad) [] [] [.ref (Ad 0 0), .int x1]) (fun _ _ _ _ => False) (cX D E sz (zS μ ν a Ad) (nx + 1)) 1 6 (Aof (zS μ ν a Ad) [] sz) := by
  intro D E sz
  refine g_ofx (cc := cX8_cancel) (maxL := 3) (ret := (some .int)) (own := "TradeLine") (by decide) rfl rfl (Nat.le_of_ble_eq_true rfl) ?_
  intro p e s m args below meth c C hT hz ha hEv
  refine g_lv (lv' := [(0, .ref (Ad 0 0)), (1, .int x1)]) [0, 1] rfl ?_
  exact lx_X8_cancel_0 C hEv hl hT hz h
noncomputable def b_X8_replace_76  (w : Nat) (μ : MP) (ν : NC) (p4 : Nat) : Option ((MP × NC) × Int32) := bif nzB p4 then bif ltB (p4 - 1) (ν.2 20) then some ((μ, ν), (μ.1 20 (p4 - 1) 7)) else none else none
theorem mb_X8_replace_76 {w : Nat} {μ : MP} {ν : NC} {p4 : Nat} {r0 : (MP × NC) × Int32}   (h : b_X8_replace_76  w μ ν p4 = some r0) : mn ν r0.1.2 := by
  unfold b_X8_replace_76 at h
  iterate 40 (try first | (with_reducible replace h := (of_guard h).2) | (with_reducible (replace h := of_guardP h; obtain ⟨hg, h⟩ := h)) | (with_reducible replace h := yl_of h rfl) | (with_reducible replace h := (of_thr h).2) | (with_reducible (replace h := bind_of h; obtain ⟨v, hv, h⟩ := h)) | (with_reducible split at h) | (with_reducible (replace h := Option.some.inj h; obtain rfl := h; exact mn_rfl _)) | (with_reducible exact absurd (congrArg Prod.fst (Option.some.inj h)) (by simp)))
set_option maxHeartbeats 4000000 in
set_option maxRecDepth 100000 in
theorem lb_X8_replace_76 {p : Program} {l : Launch} {e : Env} {s : State} {m : MethodId} {args : Array Value} {below : List Frame} {meth : Method} {c : Code} {D : va_G} {E : Nat → ClassId} {sz : Nat} {μ0 : MP} {ν0 : NC} {a : AS} {Ad0 : Nat → Nat → Nat} {w : Nat} {B : Nat × (Nat → Nat)} {r0 : (MP × NC) × Int32} (C : cx p s m args meth c D E (Aof (zS μ0 ν0 a Ad0) [] s.heap.size) cX8_replace 5 "TradeLine") (hEv : eV (Ad0 30 0) (Ad0 31 0) B (Aof (zS μ0 ν0 a Ad0) [] s.heap.size) s s.heap) (hr : meth.sig.returnType = (some .int)) (hz : s.heap.size = sz) {μ : MP} {ν : NC} {Ad : Nat → Nat → Nat} (hm0 : mn ν0 ν) (hp0 : kp ν0 Ad0 Ad) {p4 : Nat}   (h : b_X8_replace_76  w μ ν p4 = some r0) : G p l e ({ frames := 8, cells := kc r0.1.2 - kc ν0, slots := ks r0.1.2 - ks ν0, locals := 246 } : Room) s m args below meth c D E (Aof (zS μ0 ν0 a Ad0) [] s.heap.size) 5 (MQ below (cQ D E sz (zS μ0 ν0 a Ad0) [] (pI (fun r u => r = r0.2 ∧ ∃ A1, u = (zS r0.1.1 r0.1.2 a A1, []) ∧ kp ν0 Ad0 A1))) args s (kc r0.1.2 - kc ν0) (ks r0.1.2 - ks ν0) (Aof (zS μ0 ν0 a Ad0) [] s.heap.size)) (zS μ ν a Ad) [] (kc ν - kc ν0) (ks ν - ks ν0) 76 [(0, .ref (Ad 0 0)), (4, nv (Ad 20) p4)] [] := by
  have m0 := mb_X8_replace_76  h
  have e1 := m0.2.1; have e2 := m0.2.2.1; have e3 := hm0.2.1; have e4 := hm0.2.2.1
  unfold b_X8_replace_76 at h
  refine z_aload C dX8_replace_76 1 rfl (nv_or _ _) ?_
  obtain ⟨g12, h⟩ := of_guard h
  rw [nzB_e g12]
  obtain ⟨g13, h⟩ := of_guard h
  refine g_get (k := 20) (i := (p4 - 1)) (ref := "TradeLine$Order") (v := .int (μ.1 20 (p4 - 1) 7)) C rfl (lvZ g13 rfl) rfl rfl inGX4 7 (by decide) gw_1123 (fun _ h => h) rfl dX8_replace_78 ?_
  obtain rfl := Option.some.inj h
  exact g_iret C hr rfl hz ⟨(hm0.2.2.2 30 (by decide) (by decide)).1, (hm0.2.2.2 31 (by decide) (by decide)).1, hp0.2.1, hp0.2.2⟩ ⟨rfl, Ad, rfl, hp0⟩ (fun j x h => by simp at h) dX8_replace_81
noncomputable def b_X8_replace_46  (w : Nat) (μ : MP) (ν : NC) (x1 : Int32) (x2 : Int32) (x3 : Int32) (p4 : Nat) (s1 : Int32) (s2 : Int32) (f0 : Nat → Int32) : Option ((MP × NC) × Int32) := bif ltB 0 (ν.2 0) then bif decide (p4 ≤ ν.2 20) then (f_X8_send_L w μ ν s2 s1 6 (up1 (up1 (up1 (up1 (up1 (up1 f0 0 (41 : Int32)) 1 x1) 2 (44 : Int32)) 3 x2) 4 (38 : Int32)) 5 x3)).bind (fun v10 => b_X8_replace_76  w v10.1.1 v10.1.2 p4) else none else none
theorem mb_X8_replace_46 {w : Nat} {μ : MP} {ν : NC} {x1 : Int32} {x2 : Int32} {x3 : Int32} {p4 : Nat} {s1 : Int32} {s2 : Int32} {f0 : Nat → Int32} {r0 : (MP × NC) × Int32}   (h : b_X8_replace_46  w μ ν x1 x2 x3 p4 s1 s2 f0 = some r0) : mn ν r0.1.2 := by
  unfold b_X8_replace_46 at h
  iterate 40 (try first | (with_reducible replace h := (of_guard h).2) | (with_reducible (replace h := of_guardP h; obtain ⟨hg, h⟩ := h)) | (with_reducible replace h := yl_of h rfl) | (with_reducible replace h := (of_thr h).2) | (with_reducible (replace h := bind_of h; obtain ⟨v, hv, h⟩ := h)) | (with_reducible split at h) | (with_reducible (exact mn_trans (m_X8_send_L hv) (mb_X8_replace_76  h))) | (with_reducible exact absurd (congrArg Prod.fst (Option.some.inj h)) (by simp)))
set_option maxHeartbeats 4000000 in
set_option maxRecDepth 100000 in
theorem lb_X8_replace_46 {p : Program} {l : Launch} {e : Env} {s : State} {m : MethodId} {args : Array Value} {below : List Frame} {meth : Method} {c : Code} {D : va_G} {E : Nat → ClassId} {sz : Nat} {μ0 : MP} {ν0 : NC} {a : AS} {Ad0 : Nat → Nat → Nat} {w : Nat} {B : Nat × (Nat → Nat)} {r0 : (MP × NC) × Int32} (C : cx p s m args meth c D E (Aof (zS μ0 ν0 a Ad0) [] s.heap.size) cX8_replace 5 "TradeLine") (hEv : eV (Ad0 30 0) (Ad0 31 0) B (Aof (zS μ0 ν0 a Ad0) [] s.heap.size) s s.heap) (hr : meth.sig.returnType = (some .int)) (hz : s.heap.size = sz) {μ : MP} {ν : NC} {Ad : Nat → Nat → Nat} (hm0 : mn ν0 ν) (hp0 : kp ν0 Ad0 Ad) {x1 : Int32} {x2 : Int32} {x3 : Int32} {p4 : Nat} {s1 : Int32} {s2 : Int32} {f0 : Nat → Int32} {q0 : Nat} (hq0 : (Aof (zS μ0 ν0 a Ad0) [] s.heap.size) q0)   (h : b_X8_replace_46  w μ ν x1 x2 x3 p4 s1 s2 f0 = some r0) : G p l e ({ frames := 8, cells := kc r0.1.2 - kc ν0, slots := ks r0.1.2 - ks ν0, locals := 246 } : Room) s m args below meth c D E (Aof (zS μ0 ν0 a Ad0) [] s.heap.size) 5 (MQ below (cQ D E sz (zS μ0 ν0 a Ad0) [] (pI (fun r u => r = r0.2 ∧ ∃ A1, u = (zS r0.1.1 r0.1.2 a A1, []) ∧ kp ν0 Ad0 A1))) args s (kc r0.1.2 - kc ν0) (ks r0.1.2 - ks ν0) (Aof (zS μ0 ν0 a Ad0) [] s.heap.size)) (zS μ ν a Ad) [(q0, .inl (E 0, 6, .inl f0))] (kc ν - kc ν0) (ks ν - ks ν0) 46 [(0, .ref (Ad 0 0)), (1, .int x1), (2, .int x2), (3, .int x3), (4, nv (Ad 20) p4)] [.ref q0, .int s1, .int s2, .ref (Ad 0 0)] := by
  have m0 := mb_X8_replace_46  h
  have e1 := m0.2.1; have e2 := m0.2.2.1; have e3 := hm0.2.1; have e4 := hm0.2.2.1
  unfold b_X8_replace_46 at h
  refine g_dup C dX8_replace_46 rfl ?_
  refine g_iconst (v := (0 : Int32)) C dX8_replace_47 (by decide) ?_
  refine g_bipush (v := (41 : Int32)) C dX8_replace_48 (by decide) ?_
  refine g_iastL C 0 rfl hq0 (ixB_in rfl) (ex' := [(q0, .inl (E 0, 6, .inl (up1 f0 0 (41 : Int32))))]) rfl dX8_replace_50 ?_
  refine g_dup C dX8_replace_51 rfl ?_
  refine g_iconst (v := (1 : Int32)) C dX8_replace_52 (by decide) ?_
  refine g_iload_n C dX8_replace_53 rfl 1 rfl ?_
  refine g_iastL C 0 rfl hq0 (ixB_in rfl) (ex' := [(q0, .inl (E 0, 6, .inl (up1 (up1 f0 0 (41 : Int32)) 1 x1)))]) rfl dX8_replace_54 ?_
  refine g_dup C dX8_replace_55 rfl ?_
  refine g_iconst (v := (2 : Int32)) C dX8_replace_56 (by decide) ?_
  refine g_bipush (v := (44 : Int32)) C dX8_replace_57 (by decide) ?_
  refine g_iastL C 0 rfl hq0 (ixB_in rfl) (ex' := [(q0, .inl (E 0, 6, .inl (up1 (up1 (up1 f0 0 (41 : Int32)) 1 x1) 2 (44 : Int32))))]) rfl dX8_replace_59 ?_
  refine g_dup C dX8_replace_60 rfl ?_
  refine g_iconst (v := (3 : Int32)) C dX8_replace_61 (by decide) ?_
  refine g_iload_n C dX8_replace_62 rfl 2 rfl ?_
  refine g_iastL C 0 rfl hq0 (ixB_in rfl) (ex' := [(q0, .inl (E 0, 6, .inl (up1 (up1 (up1 (up1 f0 0 (41 : Int32)) 1 x1) 2 (44 : Int32)) 3 x2)))]) rfl dX8_replace_63 ?_
  refine g_dup C dX8_replace_64 rfl ?_
  refine g_iconst (v := (4 : Int32)) C dX8_replace_65 (by decide) ?_
  refine g_bipush (v := (38 : Int32)) C dX8_replace_66 (by decide) ?_
  refine g_iastL C 0 rfl hq0 (ixB_in rfl) (ex' := [(q0, .inl (E 0, 6, .inl (up1 (up1 (up1 (up1 (up1 f0 0 (41 : Int32)) 1 x1) 2 (44 : Int32)) 3 x2) 4 (38 : Int32))))]) rfl dX8_replace_68 ?_
  refine g_dup C dX8_replace_69 rfl ?_
  refine g_iconst (v := (5 : Int32)) C dX8_replace_70 (by decide) ?_
  refine g_iload_n C dX8_replace_71 rfl 3 rfl ?_
  refine g_iastL C 0 rfl hq0 (ixB_in rfl) (ex' := [(q0, .inl (E 0, 6, .inl (up1 (up1 (up1 (up1 (up1 (up1 f0 0 (41 : Int32)) 1 x1) 2 (44 : Int32)) 3 x2) 4 (38 : Int32)) 5 x3)))]) rfl dX8_replace_72 ?_
  obtain ⟨g9, h⟩ := of_guard h
  obtain ⟨g11, h⟩ := of_guard h
  obtain ⟨v10, hv10, h⟩ := bind_of h
  have m2 := m_X8_send_L hv10
  have m3 := mb_X8_replace_76  h
  have a1 := hm0.2.1; have a2 := hm0.2.2.1; have b1 := m2.2.1; have b2 := m2.2.2.1; have d1 := m3.2.1; have d2 := m3.2.2.1
  refine g_lv [0, 4] rfl ?_
  refine g_cVve (n := 3) (exc := [(q0, .inl (E 0, 6, .inl (up1 (up1 (up1 (up1 (up1 (up1 f0 0 (41 : Int32)) 1 x1) 2 (44 : Int32)) 3 x2) 4 (38 : Int32)) 5 x3)))]) (exr := []) C hEv ⟨hp0.2.1 0, hp0.2.2 0⟩ [_, _, _] _ rfl rfl [0] [] rfl rfl rfl rfl (fun _ h => by simp at h) (fun _ h => absurd h (by simp)) (fun _ h => absurd h (by simp)) (fun sz => c_X8_send_L l B μ ν a Ad w s2 s1 q0 6 (up1 (up1 (up1 (up1 (up1 (up1 f0 0 (41 : Int32)) 1 x1) 2 (44 : Int32)) 3 x2) 4 (38 : Int32)) 5 x3) _ hv10 D E sz) rfl gw_300 gw_1 gw_297 gw_299 gs_1 ⟨by decide +kernel, by decide +kernel, by decide +kernel⟩ ⟨rfl, rfl⟩ ⟨Nat.le_of_ble_eq_true rfl, Nat.le_of_ble_eq_true rfl⟩ (rcvT (lvZ g9 rfl) rfl rfl rfl) (by first | exact Nat.le_of_ble_eq_true rfl | simp [nv_cat, cat_i, cat_r, cat_n]) dX8_replace_73 ⟨by show (kc ν - kc ν0) + (kc v10.1.2 - kc ν) ≤ kc r0.1.2 - kc ν0; omega, by show (ks ν - ks ν0) + (ks v10.1.2 - ks ν) ≤ ks r0.1.2 - ks ν0; omega⟩ (fun u hp hx => ?_)
  obtain ⟨A1, rfl, hkp⟩ := hp
  try dsimp only [List.append_nil]
  refine g_widen (k := kc v10.1.2 - kc ν0) (n := ks v10.1.2 - ks ν0) (by omega) (by omega) ?_
  rw [show Ad 0 0 = A1 0 0 from (hkp.1 0 _ rfl (of_decide_eq_true g9)).symm]
  rw [show nv (Ad 20) p4 = nv (A1 20) p4 from (kp_nv hkp rfl g11).symm]
  exact lb_X8_replace_76 C hEv hr hz (mn_trans hm0 m2) (kp_trans hp0 hm0 hkp)   h
noncomputable def b_X8_replace_27  (w : Nat) (μ : MP) (ν : NC) (x1 : Int32) (x2 : Int32) (x3 : Int32) (p4 : Nat) : Option ((MP × NC) × Int32) := bif nzB p4 then bif ltB (p4 - 1) (ν.2 20) then yl (uM μ 20 (p4 - 1) 7 ((μ.1 20 (p4 - 1) 7) + (1 : Int32))) (fun m8 => b_X8_replace_46  w m8 (chg ν 1 6) x1 x2 x3 ((p4 - 1) + 1) (7 : Int32) (0 : Int32) (fun _ => 0)) else none else none
theorem mb_X8_replace_27 {w : Nat} {μ : MP} {ν : NC} {x1 : Int32} {x2 : Int32} {x3 : Int32} {p4 : Nat} {r0 : (MP × NC) × Int32}   (h : b_X8_replace_27  w μ ν x1 x2 x3 p4 = some r0) : mn ν r0.1.2 := by
  unfold b_X8_replace_27 at h
  iterate 40 (try first | (with_reducible replace h := (of_guard h).2) | (with_reducible (replace h := of_guardP h; obtain ⟨hg, h⟩ := h)) | (with_reducible replace h := yl_of h rfl) | (with_reducible replace h := (of_thr h).2) | (with_reducible (replace h := bind_of h; obtain ⟨v, hv, h⟩ := h)) | (with_reducible split at h) | (with_reducible (exact mn_trans (mn_chg _ _ _) (mb_X8_replace_46  h))) | (with_reducible exact absurd (congrArg Prod.fst (Option.some.inj h)) (by simp)))
set_option maxHeartbeats 4000000 in
set_option maxRecDepth 100000 in
theorem lb_X8_replace_27 {p : Program} {l : Launch} {e : Env} {s : State} {m : MethodId} {args : Array Value} {below : List Frame} {meth : Method} {c : Code} {D : va_G} {E : Nat → ClassId} {sz : Nat} {μ0 : MP} {ν0 : NC} {a : AS} {Ad0 : Nat → Nat → Nat} {w : Nat} {B : Nat × (Nat → Nat)} {r0 : (MP × NC) × Int32} (C : cx p s m args meth c D E (Aof (zS μ0 ν0 a Ad0) [] s.heap.size) cX8_replace 5 "TradeLine") (hEv : eV (Ad0 30 0) (Ad0 31 0) B (Aof (zS μ0 ν0 a Ad0) [] s.heap.size) s s.heap) (hr : meth.sig.returnType = (some .int)) (hz : s.heap.size = sz) {μ : MP} {ν : NC} {Ad : Nat → Nat → Nat} (hm0 : mn ν0 ν) (hp0 : kp ν0 Ad0 Ad) {x1 : Int32} {x2 : Int32} {x3 : Int32} {p4 : Nat}   (h : b_X8_replace_27  w μ ν x1 x2 x3 p4 = some r0) : G p l e ({ frames := 8, cells := kc r0.1.2 - kc ν0, slots := ks r0.1.2 - ks ν0, locals := 246 } : Room) s m args below meth c D E (Aof (zS μ0 ν0 a Ad0) [] s.heap.size) 5 (MQ below (cQ D E sz (zS μ0 ν0 a Ad0) [] (pI (fun r u => r = r0.2 ∧ ∃ A1, u = (zS r0.1.1 r0.1.2 a A1, []) ∧ kp ν0 Ad0 A1))) args s (kc r0.1.2 - kc ν0) (ks r0.1.2 - ks ν0) (Aof (zS μ0 ν0 a Ad0) [] s.heap.size)) (zS μ ν a Ad) [] (kc ν - kc ν0) (ks ν - ks ν0) 27 [(0, .ref (Ad 0 0)), (1, .int x1), (2, .int x2), (3, .int x3), (4, nv (Ad 20) p4)] [] := by
  have m0 := mb_X8_replace_27  h
  have e1 := m0.2.1; have e2 := m0.2.2.1; have e3 := hm0.2.1; have e4 := hm0.2.2.1
  unfold b_X8_replace_27 at h
  refine z_aload C dX8_replace_27 4 rfl (nv_or _ _) ?_
  refine g_dup C dX8_replace_29 (nv_cat _ _) ?_
  obtain ⟨g6, h⟩ := of_guard h
  rw [nzB_e g6]
  obtain ⟨g7, h⟩ := of_guard h
  refine g_get (k := 20) (i := (p4 - 1)) (ref := "TradeLine$Order") (v := .int (μ.1 20 (p4 - 1) 7)) C rfl (lvZ g7 rfl) rfl rfl inGX4 7 (by decide) gw_1123 (fun _ h => h) rfl dX8_replace_30 ?_
  refine g_iconst (v := (1 : Int32)) C dX8_replace_33 (by decide) ?_
  refine g_iadd C dX8_replace_34 ?_
  refine z_put (k := 20) (i := (p4 - 1)) (ref := "TradeLine$Order") C rfl g7 rfl rfl rfl inGX4 tyX4 tyX4_ok nmX4 7 (by decide) gw_1123 (fun _ h => h) rfl (tyX4_ok 7 (by decide)) rfl rfl (by simp [fvs]) (by simp [fvs, up1]) dX8_replace_35 (fun m8 em8 => ?_)
  replace h := yl_of h em8
  refine g_aload_n C dX8_replace_38 rfl 0 rfl ?_
  refine g_iconst (v := (0 : Int32)) C dX8_replace_39 (by decide) ?_
  refine g_bipush (v := (7 : Int32)) C dX8_replace_40 (by decide) ?_
  refine g_bipush (v := (6 : Int32)) C dX8_replace_42 (by decide) ?_
  refine g_lv [0, 1, 2, 3, 4] rfl ?_
  have m2 := mn_chg ν 1 6
  have m3 := mb_X8_replace_46  h
  have a1 := hm0.2.1; have a2 := hm0.2.2.1; have b1 := m2.2.1; have b2 := m2.2.2.1; have d1 := m3.2.1; have d2 := m3.2.2.1
  rw [kc_chg] at b1 d1
  rw [ks_chg] at b2 d2
  refine g_newa (atype := .int) (ty := .int) (t := 0) (N' := 6) (a0 := (6, .inl (fun _ => 0))) C gw_95 rfl rfl (fun _ h => by cases h) (fun _ => rfl) (by decide) (by decide) (by decide) (by show (kc ν - kc ν0) + 1 ≤ kc r0.1.2 - kc ν0; omega) (by show (ks ν - ks ν0) + 6 ≤ ks r0.1.2 - ks ν0; omega) dX8_replace_44 (fun q0 hq0 hs0 => ?_)
  refine g_chg 1 6 ?_
  refine g_widen (k := kc (chg ν 1 6) - kc ν0) (n := ks (chg ν 1 6) - ks ν0) (by rw [kc_chg]; omega) (by rw [ks_chg]; omega) ?_
  exact lb_X8_replace_46 C hEv hr hz (mn_trans hm0 m2) hp0 hq0  h
noncomputable def f_X8_replace  (w : Nat) (μ : MP) (ν : NC) (x1 : Int32) (x2 : Int32) (x3 : Int32) : Option (Nat × ((MP × NC) × Int32)) := bif ltB 0 (ν.2 0) then (f_X8_requireOrder w μ ν x1).bind (fun v2 => bif eqB v2.1 0 then (f_X8_requireRange w μ ν x2 (1 : Int32) (100 : Int32)).bind (fun v3 => bif eqB v3.1 0 then (f_X8_requireRange w μ ν x3 (1 : Int32) (100 : Int32)).bind (fun v4 => bif eqB v4.1 0 then (f_X8_requireAskable w μ ν v2.2).bind (fun v5 => bif eqB v5.1 0 then (b_X8_replace_27  w μ ν x1 x2 x3 v2.2).bind (fun r => some ((0 : Nat), r)) else some (v5.1, ((μ, ν), (0 : Int32)))) else some (v4.1, ((μ, ν), (0 : Int32)))) else some (v3.1, ((μ, ν), (0 : Int32)))) else some (v2.1, ((μ, ν), (0 : Int32)))) else none
theorem mb_X8_replace_0 {w : Nat} {μ : MP} {ν : NC} {x1 : Int32} {x2 : Int32} {x3 : Int32} {r0 : (MP × NC) × Int32}   (h : f_X8_replace  w μ ν x1 x2 x3 = some (0, r0)) : mn ν r0.1.2 := by
  unfold f_X8_replace at h
  iterate 40 (try first | (with_reducible (replace h := bind_of h; obtain ⟨rz, hrz, h⟩ := h; replace h := congrArg Prod.snd (Option.some.inj h); obtain rfl := h; exact mb_X8_replace_27  hrz)) | (with_reducible replace h := (of_guard h).2) | (with_reducible (replace h := of_guardP h; obtain ⟨hg, h⟩ := h)) | (with_reducible replace h := yl_of h rfl) | (with_reducible replace h := (of_thr h).2) | (with_reducible (replace h := bind_of h; obtain ⟨v, hv, h⟩ := h)) | (with_reducible split at h) | (with_reducible exact absurd (congrArg Prod.fst (Option.some.inj h)) (by simp)))
set_option maxHeartbeats 4000000 in
set_option maxRecDepth 100000 in
theorem lb_X8_replace_0 {p : Program} {l : Launch} {e : Env} {s : State} {m : MethodId} {args : Array Value} {below : List Frame} {meth : Method} {c : Code} {D : va_G} {E : Nat → ClassId} {sz : Nat} {μ0 : MP} {ν0 : NC} {a : AS} {Ad0 : Nat → Nat → Nat} {w : Nat} {B : Nat × (Nat → Nat)} {r0 : (MP × NC) × Int32} (C : cx p s m args meth c D E (Aof (zS μ0 ν0 a Ad0) [] s.heap.size) cX8_replace 5 "TradeLine") (hEv : eV (Ad0 30 0) (Ad0 31 0) B (Aof (zS μ0 ν0 a Ad0) [] s.heap.size) s s.heap) (hr : meth.sig.returnType = (some .int)) (hz : s.heap.size = sz) {μ : MP} {ν : NC} {Ad : Nat → Nat → Nat} (hm0 : mn ν0 ν) (hp0 : kp ν0 Ad0 Ad) {x1 : Int32} {x2 : Int32} {x3 : Int32}   (h : f_X8_replace  w μ ν x1 x2 x3 = some (0, r0)) : G p l e ({ frames := 8, cells := kc r0.1.2 - kc ν0, slots := ks r0.1.2 - ks ν0, locals := 246 } : Room) s m args below meth c D E (Aof (zS μ0 ν0 a Ad0) [] s.heap.size) 5 (MQ below (cQ D E sz (zS μ0 ν0 a Ad0) [] (pI (fun r u => r = r0.2 ∧ ∃ A1, u = (zS r0.1.1 r0.1.2 a A1, []) ∧ kp ν0 Ad0 A1))) args s (kc r0.1.2 - kc ν0) (ks r0.1.2 - ks ν0) (Aof (zS μ0 ν0 a Ad0) [] s.heap.size)) (zS μ ν a Ad) [] (kc ν - kc ν0) (ks ν - ks ν0) 0 [(0, .ref (Ad 0 0)), (1, .int x1), (2, .int x2), (3, .int x3)] [] := by
  have m0 := mb_X8_replace_0  h
  have e1 := m0.2.1; have e2 := m0.2.2.1; have e3 := hm0.2.1; have e4 := hm0.2.2.1
  unfold f_X8_replace at h
  refine g_aload_n C dX8_replace_0 rfl 0 rfl ?_
  refine g_iload_n C dX8_replace_1 rfl 1 rfl ?_
  obtain ⟨g1, h⟩ := of_guard h
  obtain ⟨v2, hv2, h⟩ := bind_of h
  obtain ⟨nv2, h⟩ := of_thr h
  refine g_cVq (n := 1) (exc := []) (exr := []) C [_] _ rfl rfl [] [] rfl rfl rfl rfl (fun _ h => absurd h (by simp)) (fun _ h => absurd h (by simp)) (fun _ h => absurd h (by simp)) (fun sz => c_X8_requireOrder l μ ν a Ad w x1 _ (thr0 hv2 nv2) D E sz) rfl gw_1155 gw_1 gw_1152 gw_1154 gs_35 ⟨by decide +kernel, by decide +kernel, by decide +kernel⟩ ⟨rfl, rfl⟩ ⟨Nat.le_of_ble_eq_true rfl, Nat.le_of_ble_eq_true rfl⟩ (rcvT (lvZ g1 rfl) rfl rfl rfl) (by first | exact Nat.le_of_ble_eq_true rfl | simp [nv_cat, cat_i, cat_r, cat_n]) dX8_replace_2 ⟨by show (kc ν - kc ν0) + 0 ≤ kc r0.1.2 - kc ν0; omega, by show (ks ν - ks ν0) + 0 ≤ ks r0.1.2 - ks ν0; omega⟩ (fun r u hp hx => ?_)
  obtain ⟨er, rfl⟩ := hp
  rw [er]
  try dsimp only [List.append_nil]
  refine z_astore (lv' := [(4, nv (Ad 20) v2.2), (0, .ref (Ad 0 0)), (1, .int x1), (2, .int x2), (3, .int x3)]) C dX8_replace_5 (nv_or _ _) (by decide) (by simp [nv_cat, cat_i, cat_r, cat_n]) ?_
  refine g_iload_n C dX8_replace_7 rfl 3 rfl ?_
  refine g_iconst (v := (1 : Int32)) C dX8_replace_8 (by decide) ?_
  refine g_bipush (v := (100 : Int32)) C dX8_replace_9 (by decide) ?_
  obtain ⟨v3, hv3, h⟩ := bind_of h
  obtain ⟨nv3, h⟩ := of_thr h
  refine g_cSv (n := 3) (exc := []) (exr := []) C [_, _, _] _ rfl rfl [] [] rfl rfl rfl rfl (fun _ h => absurd h (by simp)) (fun _ h => absurd h (by simp)) (fun _ h => absurd h (by simp)) (fun sz => c_X8_requireRange l μ ν a Ad w x2 (1 : Int32) (100 : Int32) _ (thr0 hv3 nv3) D E sz) rfl gw_1075 gw_1 gw_1073 gw_1074 ⟨by decide +kernel, by decide +kernel, by decide +kernel⟩ ⟨rfl, rfl⟩ ⟨Nat.le_of_ble_eq_true rfl, Nat.le_of_ble_eq_true rfl⟩ (by first | exact Nat.le_of_ble_eq_true rfl | simp [nv_cat, cat_i, cat_r, cat_n]) dX8_replace_11 ⟨by show (kc ν - kc ν0) + 0 ≤ kc r0.1.2 - kc ν0; omega, by show (ks ν - ks ν0) + 0 ≤ ks r0.1.2 - ks ν0; omega⟩ (fun u hp hx => ?_)
  obtain rfl := hp
  try dsimp only [List.append_nil]
  refine g_iload_n C dX8_replace_14 rfl 4 rfl ?_
  refine g_iconst (v := (1 : Int32)) C dX8_replace_15 (by decide) ?_
  refine g_bipush (v := (100 : Int32)) C dX8_replace_16 (by decide) ?_
  obtain ⟨v4, hv4, h⟩ := bind_of h
  obtain ⟨nv4, h⟩ := of_thr h
  refine g_cSv (n := 3) (exc := []) (exr := []) C [_, _, _] _ rfl rfl [] [] rfl rfl rfl rfl (fun _ h => absurd h (by simp)) (fun _ h => absurd h (by simp)) (fun _ h => absurd h (by simp)) (fun sz => c_X8_requireRange l μ ν a Ad w x3 (1 : Int32) (100 : Int32) _ (thr0 hv4 nv4) D E sz) rfl gw_1075 gw_1 gw_1073 gw_1074 ⟨by decide +kernel, by decide +kernel, by decide +kernel⟩ ⟨rfl, rfl⟩ ⟨Nat.le_of_ble_eq_true rfl, Nat.le_of_ble_eq_true rfl⟩ (by first | exact Nat.le_of_ble_eq_true rfl | simp [nv_cat, cat_i, cat_r, cat_n]) dX8_replace_18 ⟨by show (kc ν - kc ν0) + 0 ≤ kc r0.1.2 - kc ν0; omega, by show (ks ν - ks ν0) + 0 ≤ ks r0.1.2 - ks ν0; omega⟩ (fun u hp hx => ?_)
  obtain rfl := hp
  try dsimp only [List.append_nil]
  refine g_aload_n C dX8_replace_21 rfl 1 rfl ?_
  refine z_aload C dX8_replace_22 0 rfl (nv_or _ _) ?_
  obtain ⟨v5, hv5, h⟩ := bind_of h
  obtain ⟨nv5, h⟩ := of_thr h
  refine g_cVv (n := 1) (exc := []) (exr := []) C [_] _ rfl rfl [] [] rfl rfl rfl rfl (fun _ h => absurd h (by simp)) (fun _ h => absurd h (by simp)) (fun _ h => absurd h (by simp)) (fun sz => c_X8_requireAskable l μ ν a Ad w v2.2 _ (thr0 hv5 nv5) D E sz) rfl gw_1160 gw_1 gw_1157 gw_1159 gs_36 ⟨by decide +kernel, by decide +kernel, by decide +kernel⟩ ⟨rfl, rfl⟩ ⟨Nat.le_of_ble_eq_true rfl, Nat.le_of_ble_eq_true rfl⟩ (rcvT (lvZ g1 rfl) rfl rfl rfl) (by first | exact Nat.le_of_ble_eq_true rfl | simp [nv_cat, cat_i, cat_r, cat_n]) dX8_replace_24 ⟨by show (kc ν - kc ν0) + 0 ≤ kc r0.1.2 - kc ν0; omega, by show (ks ν - ks ν0) + 0 ≤ ks r0.1.2 - ks ν0; omega⟩ (fun u hp hx => ?_)
  obtain rfl := hp
  try dsimp only [List.append_nil]
  refine g_lv [1, 2, 3, 4, 0] rfl ?_
  obtain ⟨rz, hrz, h⟩ := bind_of h
  obtain rfl := congrArg Prod.snd (Option.some.inj h)
  exact lb_X8_replace_27 C hEv hr hz hm0 hp0   hrz
theorem m_X8_replace {w : Nat} {μ : MP} {ν : NC} {x1 : Int32} {x2 : Int32} {x3 : Int32} {r0 : (MP × NC) × Int32} (h : f_X8_replace w μ ν x1 x2 x3 = some (0, r0)) : mn ν r0.1.2 := mb_X8_replace_0 h
theorem c_X8_replace (l : Launch) (B : Nat × (Nat → Nat)) (μ : MP) (ν : NC) (a : AS) (Ad : Nat → Nat → Nat) (w : Nat) (x1 : Int32) (x2 : Int32) (x3 : Int32) (r0 : (MP × NC) × Int32) (h : f_X8_replace w μ ν x1 x2 x3 = some (0, r0)) : ∀ D E sz, Met l yX8_replace gwX8_replace ({ frames := 8, cells := kc r0.1.2 - kc ν, slots := ks r0.1.2 - ks ν, locals := 246 } : Room) (cPe D E sz B (zS μ ν a Ad) [] [] [.ref (Ad 0 0), .int x1, .int x2, .int x3]) (cQ D E sz (zS μ ν a Ad) [] (pI (fun r u => r = r0.2 ∧ ∃ A1, u = (zS r0.1.1 r0.1.2 a A1, []) ∧ kp ν Ad A1))) (kc r0.1.2 - kc ν) (ks r0.1.2 - ks ν) (Aof (zS μ ν a Ad) [] sz) := by
  intro D E sz
  refine g_ofe (cc := cX8_replace) (maxL := 5) (ret := (some .int)) (own := "TradeLine") (by decide) rfl rfl (Nat.le_of_ble_eq_true rfl) ?_
  intro p e s m args below meth c C hr hin hz ha hwr hEv
  refine g_lv (lv' := [(0, .ref (Ad 0 0)), (1, .int x1), (2, .int x2), (3, .int x3)]) [0, 1, 2, 3] rfl ?_
  refine g_widen (k := kc ν - kc ν) (n := ks ν - ks ν) (Nat.zero_le _) (Nat.zero_le _) ?_
  exact lb_X8_replace_0 C hEv hr hz (mn_rfl _) (kp_rfl _ _) h
set_option maxHeartbeats 4000000 in
set_option maxRecDepth 100000 in
theorem lx_X8_replace_0 {p : Program} {l : Launch} {e : Env} {s : State} {m : MethodId} {args : Array Value} {below : List Frame} {meth : Method} {c : Code} {D : va_G} {E : Nat → ClassId} {sz : Nat} {μ : MP} {ν : NC} {a : AS} {Ad : Nat → Nat → Nat} {w nx : Nat} {B : Nat × (Nat → Nat)} {r0 : (MP × NC) × Int32} (C : cx p s m args meth c D E (Aof (zS μ ν a Ad) [] s.heap.size) cX8_replace 5 "TradeLine") (hEv : eV (Ad 30 0) (Ad 31 0) B (Aof (zS μ ν a Ad) [] s.heap.size) s s.heap) (hl : l.stackTraces = false) (hT : ∀ x ∈ c.exceptionTable.toList, False) (hz : s.heap.size = sz) {x1 : Int32} {x2 : Int32} {x3 : Int32} (h : f_X8_replace  w μ ν x1 x2 x3 = some (nx + 1, r0)) : G p l e ({ frames := 8, cells := 1, slots := 6, locals := 246 } : Room) s m args below meth c D E (Aof (zS μ ν a Ad) [] s.heap.size) 5 (vx_MQ below (fun _ _ _ _ => False) (cX D E sz (zS μ ν a Ad) (nx + 1)) args s 1 6 (Aof (zS μ ν a Ad) [] s.heap.size)) (zS μ ν a Ad) [] 0 0 0 [(0, .ref (Ad 0 0)), (1, .int x1), (2, .int x2), (3, .int x3)] [] := by
  unfold f_X8_replace at h
  refine g_aload_n C dX8_replace_0 rfl 0 rfl ?_
  refine g_iload_n C dX8_replace_1 rfl 1 rfl ?_
  obtain ⟨g1, h⟩ := of_guard h
  obtain ⟨v2, hv2, h⟩ := bind_of h
  rcases of_thx h with ⟨nv2, h⟩ | nv2
  · refine g_cVq (n := 1) (exc := []) (exr := []) C [_] _ rfl rfl [] [] rfl rfl rfl rfl (fun _ h => absurd h (by simp)) (fun _ h => absurd h (by simp)) (fun _ h => absurd h (by simp)) (fun sz => c_X8_requireOrder l μ ν a Ad w x1 _ (thr0 hv2 nv2) D E sz) rfl gw_1155 gw_1 gw_1152 gw_1154 gs_35 ⟨by decide +kernel, by decide +kernel, by decide +kernel⟩ ⟨rfl, rfl⟩ ⟨Nat.le_of_ble_eq_true rfl, Nat.le_of_ble_eq_true rfl⟩ (rcvT (lvZ g1 rfl) rfl rfl rfl) (by first | exact Nat.le_of_ble_eq_true rfl | simp [nv_cat, cat_i, cat_r, cat_n]) dX8_replace_2 ⟨by decide, by decide⟩ (fun r u hp hx => ?_)
    obtain ⟨er, rfl⟩ := hp
    rw [er]
    try dsimp only [List.append_nil]
    refine z_astore (lv' := [(4, nv (Ad 20) v2.2), (0, .ref (Ad 0 0)), (1, .int x1), (2, .int x2), (3, .int x3)]) C dX8_replace_5 (nv_or _ _) (by decide) (by simp [nv_cat, cat_i, cat_r, cat_n]) ?_
    refine g_iload_n C dX8_replace_7 rfl 3 rfl ?_
    refine g_iconst (v := (1 : Int32)) C dX8_replace_8 (by decide) ?_
    refine g_bipush (v := (100 : Int32)) C dX8_replace_9 (by decide) ?_
    obtain ⟨v3, hv3, h⟩ := bind_of h
    rcases of_thx h with ⟨nv3, h⟩ | nv3
    · refine g_cSv (n := 3) (exc := []) (exr := []) C [_, _, _] _ rfl rfl [] [] rfl rfl rfl rfl (fun _ h => absurd h (by simp)) (fun _ h => absurd h (by simp)) (fun _ h => absurd h (by simp)) (fun sz => c_X8_requireRange l μ ν a Ad w x2 (1 : Int32) (100 : Int32) _ (thr0 hv3 nv3) D E sz) rfl gw_1075 gw_1 gw_1073 gw_1074 ⟨by decide +kernel, by decide +kernel, by decide +kernel⟩ ⟨rfl, rfl⟩ ⟨Nat.le_of_ble_eq_true rfl, Nat.le_of_ble_eq_true rfl⟩ (by first | exact Nat.le_of_ble_eq_true rfl | simp [nv_cat, cat_i, cat_r, cat_n]) dX8_replace_11 ⟨by decide, by decide⟩ (fun u hp hx => ?_)
      obtain rfl := hp
      try dsimp only [List.append_nil]
      refine g_iload_n C dX8_replace_14 rfl 4 rfl ?_
      refine g_iconst (v := (1 : Int32)) C dX8_replace_15 (by decide) ?_
      refine g_bipush (v := (100 : Int32)) C dX8_replace_16 (by decide) ?_
      obtain ⟨v4, hv4, h⟩ := bind_of h
      rcases of_thx h with ⟨nv4, h⟩ | nv4
      · refine g_cSv (n := 3) (exc := []) (exr := []) C [_, _, _] _ rfl rfl [] [] rfl rfl rfl rfl (fun _ h => absurd h (by simp)) (fun _ h => absurd h (by simp)) (fun _ h => absurd h (by simp)) (fun sz => c_X8_requireRange l μ ν a Ad w x3 (1 : Int32) (100 : Int32) _ (thr0 hv4 nv4) D E sz) rfl gw_1075 gw_1 gw_1073 gw_1074 ⟨by decide +kernel, by decide +kernel, by decide +kernel⟩ ⟨rfl, rfl⟩ ⟨Nat.le_of_ble_eq_true rfl, Nat.le_of_ble_eq_true rfl⟩ (by first | exact Nat.le_of_ble_eq_true rfl | simp [nv_cat, cat_i, cat_r, cat_n]) dX8_replace_18 ⟨by decide, by decide⟩ (fun u hp hx => ?_)
        obtain rfl := hp
        try dsimp only [List.append_nil]
        refine g_aload_n C dX8_replace_21 rfl 1 rfl ?_
        refine z_aload C dX8_replace_22 0 rfl (nv_or _ _) ?_
        obtain ⟨v5, hv5, h⟩ := bind_of h
        rcases of_thx h with ⟨nv5, h⟩ | nv5
        · refine g_cVv (n := 1) (exc := []) (exr := []) C [_] _ rfl rfl [] [] rfl rfl rfl rfl (fun _ h => absurd h (by simp)) (fun _ h => absurd h (by simp)) (fun _ h => absurd h (by simp)) (fun sz => c_X8_requireAskable l μ ν a Ad w v2.2 _ (thr0 hv5 nv5) D E sz) rfl gw_1160 gw_1 gw_1157 gw_1159 gs_36 ⟨by decide +kernel, by decide +kernel, by decide +kernel⟩ ⟨rfl, rfl⟩ ⟨Nat.le_of_ble_eq_true rfl, Nat.le_of_ble_eq_true rfl⟩ (rcvT (lvZ g1 rfl) rfl rfl rfl) (by first | exact Nat.le_of_ble_eq_true rfl | simp [nv_cat, cat_i, cat_r, cat_n]) dX8_replace_24 ⟨by decide, by decide⟩ (fun u hp hx => ?_)
          obtain rfl := hp
          try dsimp only [List.append_nil]
          obtain ⟨_, _, h⟩ := bind_of h
          exact absurd (congrArg Prod.fst (Option.some.inj h)) (by simp)
        · exact g_xV (index := 1) C hEv ⟨rfl, rfl⟩ hT hz [_] _ rfl rfl (fun sz => x_X8_requireAskable l hl B μ ν a Ad w v2.2 _ _ (thrS hv5 nv5) D E sz) rfl gw_1160 gw_1 gw_1157 gw_1159 gs_36 ⟨by decide +kernel, by decide +kernel, by decide +kernel⟩ ⟨rfl, rfl⟩ ⟨Nat.le_of_ble_eq_true rfl, Nat.le_of_ble_eq_true rfl⟩ (rcvT (lvZ g1 rfl) rfl rfl rfl) (Nat.le_of_ble_eq_true rfl) dX8_replace_24 ⟨by decide, by decide⟩
      · exact g_xS (index := 3) C hEv ⟨rfl, rfl⟩ hT hz [_, _, _] _ rfl rfl (fun sz => x_X8_requireRange l hl B μ ν a Ad w x3 (1 : Int32) (100 : Int32) _ _ (thrS hv4 nv4) D E sz) rfl gw_1075 gw_1 gw_1073 gw_1074 ⟨by decide +kernel, by decide +kernel, by decide +kernel⟩ ⟨rfl, rfl⟩ ⟨Nat.le_of_ble_eq_true rfl, Nat.le_of_ble_eq_true rfl⟩ (Nat.le_of_ble_eq_true rfl) dX8_replace_18 ⟨by decide, by decide⟩
    · exact g_xS (index := 3) C hEv ⟨rfl, rfl⟩ hT hz [_, _, _] _ rfl rfl (fun sz => x_X8_requireRange l hl B μ ν a Ad w x2 (1 : Int32) (100 : Int32) _ _ (thrS hv3 nv3) D E sz) rfl gw_1075 gw_1 gw_1073 gw_1074 ⟨by decide +kernel, by decide +kernel, by decide +kernel⟩ ⟨rfl, rfl⟩ ⟨Nat.le_of_ble_eq_true rfl, Nat.le_of_ble_eq_true rfl⟩ (Nat.le_of_ble_eq_true rfl) dX8_replace_11 ⟨by decide, by decide⟩
  · exact g_xV (index := 1) C hEv ⟨rfl, rfl⟩ hT hz [_] _ rfl rfl (fun sz => x_X8_requireOrder l hl B μ ν a Ad w x1 _ _ (thrS hv2 nv2) D E sz) rfl gw_1155 gw_1 gw_1152 gw_1154 gs_35 ⟨by decide +kernel, by decide +kernel, by decide +kernel⟩ ⟨rfl, rfl⟩ ⟨Nat.le_of_ble_eq_true rfl, Nat.le_of_ble_eq_true rfl⟩ (rcvT (lvZ g1 rfl) rfl rfl rfl) (Nat.le_of_ble_eq_true rfl) dX8_replace_2 ⟨by decide, by decide⟩
theorem x_X8_replace (l : Launch) (hl : l.stackTraces = false) (B : Nat × (Nat → Nat)) (μ : MP) (ν : NC) (a : AS) (Ad : Nat → Nat → Nat) (w : Nat) (x1 : Int32) (x2 : Int32) (x3 : Int32) (nx : Nat) (r0 : (MP × NC) × Int32) (h : f_X8_replace w μ ν x1 x2 x3 = some (nx + 1, r0)) : ∀ D E sz, vx_Met l yX8_replace gwX8_replace ({ frames := 8, cells := 1, slots := 6, locals := 246 } : Room) (cPe D E sz B (zS μ ν a Ad) [] [] [.ref (Ad 0 0), .int x1, .int x2, .int x3]) (fun _ _ _ _ => False) (cX D E sz (zS μ ν a Ad) (nx + 1)) 1 6 (Aof (zS μ ν a Ad) [] sz) := by
  intro D E sz
  refine g_ofx (cc := cX8_replace) (maxL := 5) (ret := (some .int)) (own := "TradeLine") (by decide) rfl rfl (Nat.le_of_ble_eq_true rfl) ?_
  intro p e s m args below meth c C hT hz ha hEv
  refine g_lv (lv' := [(0, .ref (Ad 0 0)), (1, .int x1), (2, .int x2), (3, .int x3)]) [0, 1, 2, 3] rfl ?_
  exact lx_X8_replace_0 C hEv hl hT hz h
noncomputable def b_X8_bust_76  (w : Nat) (μ : MP) (ν : NC) (p3 : Nat) : Option ((MP × NC) × Int32) := bif nzB p3 then bif ltB (p3 - 1) (ν.2 21) then some ((μ, ν), (μ.1 21 (p3 - 1) 2)) else none else none
theorem mb_X8_bust_76 {w : Nat} {μ : MP} {ν : NC} {p3 : Nat} {r0 : (MP × NC) × Int32}   (h : b_X8_bust_76  w μ ν p3 = some r0) : mn ν r0.1.2 := by
  unfold b_X8_bust_76 at h
  iterate 40 (try first | (with_reducible replace h := (of_guard h).2) | (with_reducible (replace h := of_guardP h; obtain ⟨hg, h⟩ := h)) | (with_reducible replace h := yl_of h rfl) | (with_reducible replace h := (of_thr h).2) | (with_reducible (replace h := bind_of h; obtain ⟨v, hv, h⟩ := h)) | (with_reducible split at h) | (with_reducible (replace h := Option.some.inj h; obtain rfl := h; exact mn_rfl _)) | (with_reducible exact absurd (congrArg Prod.fst (Option.some.inj h)) (by simp)))
set_option maxHeartbeats 4000000 in
set_option maxRecDepth 100000 in
theorem lb_X8_bust_76 {p : Program} {l : Launch} {e : Env} {s : State} {m : MethodId} {args : Array Value} {below : List Frame} {meth : Method} {c : Code} {D : va_G} {E : Nat → ClassId} {sz : Nat} {μ0 : MP} {ν0 : NC} {a : AS} {Ad0 : Nat → Nat → Nat} {w : Nat} {B : Nat × (Nat → Nat)} {r0 : (MP × NC) × Int32} (C : cx p s m args meth c D E (Aof (zS μ0 ν0 a Ad0) [] s.heap.size) cX8_bust 4 "TradeLine") (hEv : eV (Ad0 30 0) (Ad0 31 0) B (Aof (zS μ0 ν0 a Ad0) [] s.heap.size) s s.heap) (hr : meth.sig.returnType = (some .int)) (hz : s.heap.size = sz) {μ : MP} {ν : NC} {Ad : Nat → Nat → Nat} (hm0 : mn ν0 ν) (hp0 : kp ν0 Ad0 Ad) {p3 : Nat}   (h : b_X8_bust_76  w μ ν p3 = some r0) : G p l e ({ frames := 8, cells := kc r0.1.2 - kc ν0, slots := ks r0.1.2 - ks ν0, locals := 246 } : Room) s m args below meth c D E (Aof (zS μ0 ν0 a Ad0) [] s.heap.size) 4 (MQ below (cQ D E sz (zS μ0 ν0 a Ad0) [] (pI (fun r u => r = r0.2 ∧ ∃ A1, u = (zS r0.1.1 r0.1.2 a A1, []) ∧ kp ν0 Ad0 A1))) args s (kc r0.1.2 - kc ν0) (ks r0.1.2 - ks ν0) (Aof (zS μ0 ν0 a Ad0) [] s.heap.size)) (zS μ ν a Ad) [] (kc ν - kc ν0) (ks ν - ks ν0) 76 [(0, .ref (Ad 0 0)), (3, nv (Ad 21) p3)] [] := by
  have m0 := mb_X8_bust_76  h
  have e1 := m0.2.1; have e2 := m0.2.2.1; have e3 := hm0.2.1; have e4 := hm0.2.2.1
  unfold b_X8_bust_76 at h
  refine z_aload_n C dX8_bust_76 rfl 1 rfl (nv_or _ _) ?_
  obtain ⟨g16, h⟩ := of_guard h
  rw [nzB_e g16]
  obtain ⟨g17, h⟩ := of_guard h
  refine g_get (k := 21) (i := (p3 - 1)) (ref := "TradeLine$Book") (v := .int (μ.1 21 (p3 - 1) 2)) C rfl (lvZ g17 rfl) rfl rfl inGX1 2 (by decide) gw_1096 (fun _ h => h) rfl dX8_bust_77 ?_
  obtain rfl := Option.some.inj h
  exact g_iret C hr rfl hz ⟨(hm0.2.2.2 30 (by decide) (by decide)).1, (hm0.2.2.2 31 (by decide) (by decide)).1, hp0.2.1, hp0.2.2⟩ ⟨rfl, Ad, rfl, hp0⟩ (fun j x h => by simp at h) dX8_bust_80
noncomputable def b_X8_bust_39  (w : Nat) (μ : MP) (ν : NC) (x1 : Int32) (p2 : Nat) (p3 : Nat) (s1 : Int32) (s2 : Int32) (f0 : Nat → Int32) : Option ((MP × NC) × Int32) := bif nzB p2 then bif ltB (p2 - 1) (ν.2 23) then bif ltB (μ.2 23 (p2 - 1) 0) (ν.2 20) then bif ltB 0 (ν.2 0) then bif decide (p3 ≤ ν.2 21) then (f_X8_send_L w μ ν s2 s1 6 (up1 (up1 (up1 (up1 (up1 (up1 f0 0 (150 : Int32)) 1 (5 : Int32)) 2 (37 : Int32)) 3 (μ.1 20 (μ.2 23 (p2 - 1) 0) 0)) 4 (17 : Int32)) 5 x1)).bind (fun v14 => b_X8_bust_76  w v14.1.1 v14.1.2 p3) else none else none else none else none else none
theorem mb_X8_bust_39 {w : Nat} {μ : MP} {ν : NC} {x1 : Int32} {p2 : Nat} {p3 : Nat} {s1 : Int32} {s2 : Int32} {f0 : Nat → Int32} {r0 : (MP × NC) × Int32}   (h : b_X8_bust_39  w μ ν x1 p2 p3 s1 s2 f0 = some r0) : mn ν r0.1.2 := by
  unfold b_X8_bust_39 at h
  iterate 40 (try first | (with_reducible replace h := (of_guard h).2) | (with_reducible (replace h := of_guardP h; obtain ⟨hg, h⟩ := h)) | (with_reducible replace h := yl_of h rfl) | (with_reducible replace h := (of_thr h).2) | (with_reducible (replace h := bind_of h; obtain ⟨v, hv, h⟩ := h)) | (with_reducible split at h) | (with_reducible (exact mn_trans (m_X8_send_L hv) (mb_X8_bust_76  h))) | (with_reducible exact absurd (congrArg Prod.fst (Option.some.inj h)) (by simp)))
set_option maxHeartbeats 4000000 in
set_option maxRecDepth 100000 in
theorem lb_X8_bust_39 {p : Program} {l : Launch} {e : Env} {s : State} {m : MethodId} {args : Array Value} {below : List Frame} {meth : Method} {c : Code} {D : va_G} {E : Nat → ClassId} {sz : Nat} {μ0 : MP} {ν0 : NC} {a : AS} {Ad0 : Nat → Nat → Nat} {w : Nat} {B : Nat × (Nat → Nat)} {r0 : (MP × NC) × Int32} (C : cx p s m args meth c D E (Aof (zS μ0 ν0 a Ad0) [] s.heap.size) cX8_bust 4 "TradeLine") (hEv : eV (Ad0 30 0) (Ad0 31 0) B (Aof (zS μ0 ν0 a Ad0) [] s.heap.size) s s.heap) (hr : meth.sig.returnType = (some .int)) (hz : s.heap.size = sz) {μ : MP} {ν : NC} {Ad : Nat → Nat → Nat} (hm0 : mn ν0 ν) (hp0 : kp ν0 Ad0 Ad) {x1 : Int32} {p2 : Nat} {p3 : Nat} {s1 : Int32} {s2 : Int32} {f0 : Nat → Int32} {q0 : Nat} (hq0 : (Aof (zS μ0 ν0 a Ad0) [] s.heap.size) q0)   (h : b_X8_bust_39  w μ ν x1 p2 p3 s1 s2 f0 = some r0) : G p l e ({ frames := 8, cells := kc r0.1.2 - kc ν0, slots := ks r0.1.2 - ks ν0, locals := 246 } : Room) s m args below meth c D E (Aof (zS μ0 ν0 a Ad0) [] s.heap.size) 4 (MQ below (cQ D E sz (zS μ0 ν0 a Ad0) [] (pI (fun r u => r = r0.2 ∧ ∃ A1, u = (zS r0.1.1 r0.1.2 a A1, []) ∧ kp ν0 Ad0 A1))) args s (kc r0.1.2 - kc ν0) (ks r0.1.2 - ks ν0) (Aof (zS μ0 ν0 a Ad0) [] s.heap.size)) (zS μ ν a Ad) [(q0, .inl (E 0, 6, .inl f0))] (kc ν - kc ν0) (ks ν - ks ν0) 39 [(0, .ref (Ad 0 0)), (1, .int x1), (2, nv (Ad 23) p2), (3, nv (Ad 21) p3)] [.ref q0, .int s1, .int s2, .ref (Ad 0 0)] := by
  have m0 := mb_X8_bust_39  h
  have e1 := m0.2.1; have e2 := m0.2.2.1; have e3 := hm0.2.1; have e4 := hm0.2.2.1
  unfold b_X8_bust_39 at h
  refine g_dup C dX8_bust_39 rfl ?_
  refine g_iconst (v := (0 : Int32)) C dX8_bust_40 (by decide) ?_
  refine g_sipush (v := (150 : Int32)) C dX8_bust_41 (by decide) ?_
  refine g_iastL C 0 rfl hq0 (ixB_in rfl) (ex' := [(q0, .inl (E 0, 6, .inl (up1 f0 0 (150 : Int32))))]) rfl dX8_bust_44 ?_
  refine g_dup C dX8_bust_45 rfl ?_
  refine g_iconst (v := (1 : Int32)) C dX8_bust_46 (by decide) ?_
  refine g_iconst (v := (5 : Int32)) C dX8_bust_47 (by decide) ?_
  refine g_iastL C 0 rfl hq0 (ixB_in rfl) (ex' := [(q0, .inl (E 0, 6, .inl (up1 (up1 f0 0 (150 : Int32)) 1 (5 : Int32))))]) rfl dX8_bust_48 ?_
  refine g_dup C dX8_bust_49 rfl ?_
  refine g_iconst (v := (2 : Int32)) C dX8_bust_50 (by decide) ?_
  refine g_bipush (v := (37 : Int32)) C dX8_bust_51 (by decide) ?_
  refine g_iastL C 0 rfl hq0 (ixB_in rfl) (ex' := [(q0, .inl (E 0, 6, .inl (up1 (up1 (up1 f0 0 (150 : Int32)) 1 (5 : Int32)) 2 (37 : Int32))))]) rfl dX8_bust_53 ?_
  refine g_dup C dX8_bust_54 rfl ?_
  refine g_iconst (v := (3 : Int32)) C dX8_bust_55 (by decide) ?_
  refine z_aload_n C dX8_bust_56 rfl 2 rfl (nv_or _ _) ?_
  obtain ⟨g10, h⟩ := of_guard h
  rw [nzB_e g10]
  obtain ⟨g11, h⟩ := of_guard h
  refine g_get (k := 23) (i := (p2 - 1)) (ref := "TradeLine$Execution") (v := .ref (Ad 20 (μ.2 23 (p2 - 1) 0))) C rfl (lvZ g11 rfl) rfl rfl inGX2 0 (by decide) gw_900 (fun _ h => h) rfl dX8_bust_57 ?_
  obtain ⟨g12, h⟩ := of_guard h
  refine g_get (k := 20) (i := (μ.2 23 (p2 - 1) 0)) (ref := "TradeLine$Order") (v := .int (μ.1 20 (μ.2 23 (p2 - 1) 0) 0)) C rfl (lvZ g12 rfl) rfl rfl inGX4 0 (by decide) gw_1110 (fun _ h => h) rfl dX8_bust_60 ?_
  refine g_iastL C 0 rfl hq0 (ixB_in rfl) (ex' := [(q0, .inl (E 0, 6, .inl (up1 (up1 (up1 (up1 f0 0 (150 : Int32)) 1 (5 : Int32)) 2 (37 : Int32)) 3 (μ.1 20 (μ.2 23 (p2 - 1) 0) 0))))]) rfl dX8_bust_63 ?_
  refine g_dup C dX8_bust_64 rfl ?_
  refine g_iconst (v := (4 : Int32)) C dX8_bust_65 (by decide) ?_
  refine g_bipush (v := (17 : Int32)) C dX8_bust_66 (by decide) ?_
  refine g_iastL C 0 rfl hq0 (ixB_in rfl) (ex' := [(q0, .inl (E 0, 6, .inl (up1 (up1 (up1 (up1 (up1 f0 0 (150 : Int32)) 1 (5 : Int32)) 2 (37 : Int32)) 3 (μ.1 20 (μ.2 23 (p2 - 1) 0) 0)) 4 (17 : Int32))))]) rfl dX8_bust_68 ?_
  refine g_dup C dX8_bust_69 rfl ?_
  refine g_iconst (v := (5 : Int32)) C dX8_bust_70 (by decide) ?_
  refine g_iload_n C dX8_bust_71 rfl 1 rfl ?_
  refine g_iastL C 0 rfl hq0 (ixB_in rfl) (ex' := [(q0, .inl (E 0, 6, .inl (up1 (up1 (up1 (up1 (up1 (up1 f0 0 (150 : Int32)) 1 (5 : Int32)) 2 (37 : Int32)) 3 (μ.1 20 (μ.2 23 (p2 - 1) 0) 0)) 4 (17 : Int32)) 5 x1)))]) rfl dX8_bust_72 ?_
  obtain ⟨g13, h⟩ := of_guard h
  obtain ⟨g15, h⟩ := of_guard h
  obtain ⟨v14, hv14, h⟩ := bind_of h
  have m2 := m_X8_send_L hv14
  have m3 := mb_X8_bust_76  h
  have a1 := hm0.2.1; have a2 := hm0.2.2.1; have b1 := m2.2.1; have b2 := m2.2.2.1; have d1 := m3.2.1; have d2 := m3.2.2.1
  refine g_lv [0, 3] rfl ?_
  refine g_cVve (n := 3) (exc := [(q0, .inl (E 0, 6, .inl (up1 (up1 (up1 (up1 (up1 (up1 f0 0 (150 : Int32)) 1 (5 : Int32)) 2 (37 : Int32)) 3 (μ.1 20 (μ.2 23 (p2 - 1) 0) 0)) 4 (17 : Int32)) 5 x1)))]) (exr := []) C hEv ⟨hp0.2.1 0, hp0.2.2 0⟩ [_, _, _] _ rfl rfl [0] [] rfl rfl rfl rfl (fun _ h => by simp at h) (fun _ h => absurd h (by simp)) (fun _ h => absurd h (by simp)) (fun sz => c_X8_send_L l B μ ν a Ad w s2 s1 q0 6 (up1 (up1 (up1 (up1 (up1 (up1 f0 0 (150 : Int32)) 1 (5 : Int32)) 2 (37 : Int32)) 3 (μ.1 20 (μ.2 23 (p2 - 1) 0) 0)) 4 (17 : Int32)) 5 x1) _ hv14 D E sz) rfl gw_300 gw_1 gw_297 gw_299 gs_1 ⟨by decide +kernel, by decide +kernel, by decide +kernel⟩ ⟨rfl, rfl⟩ ⟨Nat.le_of_ble_eq_true rfl, Nat.le_of_ble_eq_true rfl⟩ (rcvT (lvZ g13 rfl) rfl rfl rfl) (by first | exact Nat.le_of_ble_eq_true rfl | simp [nv_cat, cat_i, cat_r, cat_n]) dX8_bust_73 ⟨by show (kc ν - kc ν0) + (kc v14.1.2 - kc ν) ≤ kc r0.1.2 - kc ν0; omega, by show (ks ν - ks ν0) + (ks v14.1.2 - ks ν) ≤ ks r0.1.2 - ks ν0; omega⟩ (fun u hp hx => ?_)
  obtain ⟨A1, rfl, hkp⟩ := hp
  try dsimp only [List.append_nil]
  refine g_widen (k := kc v14.1.2 - kc ν0) (n := ks v14.1.2 - ks ν0) (by omega) (by omega) ?_
  rw [show Ad 0 0 = A1 0 0 from (hkp.1 0 _ rfl (of_decide_eq_true g13)).symm]
  rw [show nv (Ad 21) p3 = nv (A1 21) p3 from (kp_nv hkp rfl g15).symm]
  exact lb_X8_bust_76 C hEv hr hz (mn_trans hm0 m2) (kp_trans hp0 hm0 hkp)   h
noncomputable def b_X8_bust_10  (w : Nat) (μ : MP) (ν : NC) (x1 : Int32) (p2 : Nat) : Option ((MP × NC) × Int32) := bif nzB p2 then bif ltB (p2 - 1) (ν.2 23) then yl (uM μ 23 (p2 - 1) 5 (1 : Int32)) (fun m6 => bif ltB (m6.2 23 (p2 - 1) 0) (ν.2 20) then bif ltB (2 * (m6.2 23 (p2 - 1) 0) + 1) (ν.2 21) then (f_X1_takeBack w m6 ν (2 * (m6.2 23 (p2 - 1) 0) + 1) (m6.1 23 (p2 - 1) 2)).bind (fun v9 => b_X8_bust_39  w v9.1 (chg ν 1 6) x1 ((p2 - 1) + 1) ((2 * (m6.2 23 (p2 - 1) 0) + 1) + 1) (8 : Int32) (1 : Int32) (fun _ => 0)) else none else none) else none else none
theorem mb_X8_bust_10 {w : Nat} {μ : MP} {ν : NC} {x1 : Int32} {p2 : Nat} {r0 : (MP × NC) × Int32}   (h : b_X8_bust_10  w μ ν x1 p2 = some r0) : mn ν r0.1.2 := by
  unfold b_X8_bust_10 at h
  iterate 40 (try first | (with_reducible replace h := (of_guard h).2) | (with_reducible (replace h := of_guardP h; obtain ⟨hg, h⟩ := h)) | (with_reducible replace h := yl_of h rfl) | (with_reducible replace h := (of_thr h).2) | (with_reducible (replace h := bind_of h; obtain ⟨v, hv, h⟩ := h)) | (with_reducible split at h) | (with_reducible (exact mn_trans (mn_chg _ _ _) (mb_X8_bust_39  h))) | (with_reducible exact absurd (congrArg Prod.fst (Option.some.inj h)) (by simp)))
set_option maxHeartbeats 4000000 in
set_option maxRecDepth 100000 in
theorem lb_X8_bust_10 {p : Program} {l : Launch} {e : Env} {s : State} {m : MethodId} {args : Array Value} {below : List Frame} {meth : Method} {c : Code} {D : va_G} {E : Nat → ClassId} {sz : Nat} {μ0 : MP} {ν0 : NC} {a : AS} {Ad0 : Nat → Nat → Nat} {w : Nat} {B : Nat × (Nat → Nat)} {r0 : (MP × NC) × Int32} (C : cx p s m args meth c D E (Aof (zS μ0 ν0 a Ad0) [] s.heap.size) cX8_bust 4 "TradeLine") (hEv : eV (Ad0 30 0) (Ad0 31 0) B (Aof (zS μ0 ν0 a Ad0) [] s.heap.size) s s.heap) (hr : meth.sig.returnType = (some .int)) (hz : s.heap.size = sz) {μ : MP} {ν : NC} {Ad : Nat → Nat → Nat} (hm0 : mn ν0 ν) (hp0 : kp ν0 Ad0 Ad) {x1 : Int32} {p2 : Nat}   (h : b_X8_bust_10  w μ ν x1 p2 = some r0) : G p l e ({ frames := 8, cells := kc r0.1.2 - kc ν0, slots := ks r0.1.2 - ks ν0, locals := 246 } : Room) s m args below meth c D E (Aof (zS μ0 ν0 a Ad0) [] s.heap.size) 4 (MQ below (cQ D E sz (zS μ0 ν0 a Ad0) [] (pI (fun r u => r = r0.2 ∧ ∃ A1, u = (zS r0.1.1 r0.1.2 a A1, []) ∧ kp ν0 Ad0 A1))) args s (kc r0.1.2 - kc ν0) (ks r0.1.2 - ks ν0) (Aof (zS μ0 ν0 a Ad0) [] s.heap.size)) (zS μ ν a Ad) [] (kc ν - kc ν0) (ks ν - ks ν0) 10 [(0, .ref (Ad 0 0)), (1, .int x1), (2, nv (Ad 23) p2)] [] := by
  have m0 := mb_X8_bust_10  h
  have e1 := m0.2.1; have e2 := m0.2.2.1; have e3 := hm0.2.1; have e4 := hm0.2.2.1
  unfold b_X8_bust_10 at h
  refine z_aload_n C dX8_bust_10 rfl 2 rfl (nv_or _ _) ?_
  refine g_iconst (v := (1 : Int32)) C dX8_bust_11 (by decide) ?_
  obtain ⟨g4, h⟩ := of_guard h
  rw [nzB_e g4]
  obtain ⟨g5, h⟩ := of_guard h
  refine z_put (k := 23) (i := (p2 - 1)) (ref := "TradeLine$Execution") C rfl g5 rfl rfl rfl inGX2 tyX2 tyX2_ok nmX2 5 (by decide) gw_910 (fun _ h => h) rfl (tyX2_ok 5 (by decide)) rfl rfl (by simp [fvs]) (by simp [fvs, up1]) dX8_bust_12 (fun m6 em6 => ?_)
  replace h := yl_of h em6
  refine g_aload_n C dX8_bust_15 rfl 2 rfl ?_
  refine g_get (k := 23) (i := (p2 - 1)) (ref := "TradeLine$Execution") (v := .ref (Ad 20 (m6.2 23 (p2 - 1) 0))) C rfl (lvZ g5 rfl) rfl rfl inGX2 0 (by decide) gw_900 (fun _ h => h) rfl dX8_bust_16 ?_
  obtain ⟨g7, h⟩ := of_guard h
  refine g_get (k := 20) (i := (m6.2 23 (p2 - 1) 0)) (ref := "TradeLine$Order") (v := .ref (Ad 21 (2 * (m6.2 23 (p2 - 1) 0) + 1))) C rfl (lvZ g7 rfl) rfl rfl inGX4 3 (by decide) gw_1116 (fun _ h => h) rfl dX8_bust_19 ?_
  refine z_astore_n (i := 3) (lv' := [(3, .ref (Ad 21 (2 * (m6.2 23 (p2 - 1) 0) + 1))), (0, .ref (Ad 0 0)), (1, .int x1), (2, .ref (Ad 23 (p2 - 1)))]) C dX8_bust_22 (Or.inr ⟨_, rfl⟩) rfl (by decide) rfl ?_
  refine g_aload_n C dX8_bust_23 rfl 0 rfl ?_
  refine g_aload_n C dX8_bust_24 rfl 3 rfl ?_
  refine g_get (k := 23) (i := (p2 - 1)) (ref := "TradeLine$Execution") (v := .int (m6.1 23 (p2 - 1) 2)) C rfl (lvZ g5 rfl) rfl rfl inGX2 2 (by decide) gw_904 (fun _ h => h) rfl dX8_bust_25 ?_
  obtain ⟨g8, h⟩ := of_guard h
  obtain ⟨v9, hv9, h⟩ := bind_of h
  refine g_cVv (n := 1) (exc := []) (exr := []) C [_] _ rfl rfl [] [] rfl rfl rfl rfl (fun _ h => absurd h (by simp)) (fun _ h => absurd h (by simp)) (fun _ h => absurd h (by simp)) (fun sz => c_X1_takeBack l m6 ν a Ad w (2 * (m6.2 23 (p2 - 1) 0) + 1) (m6.1 23 (p2 - 1) 2) _ hv9 D E sz) rfl gw_979 gw_31 gw_976 gw_977 gw_978 ⟨by decide +kernel, by decide +kernel, by decide +kernel⟩ ⟨rfl, rfl⟩ ⟨Nat.le_of_ble_eq_true rfl, Nat.le_of_ble_eq_true rfl⟩ (rcvT (lvZ g8 rfl) rfl rfl rfl) (by first | exact Nat.le_of_ble_eq_true rfl | simp [nv_cat, cat_i, cat_r, cat_n]) dX8_bust_28 ⟨by show (kc ν - kc ν0) + 0 ≤ kc r0.1.2 - kc ν0; omega, by show (ks ν - ks ν0) + 0 ≤ ks r0.1.2 - ks ν0; omega⟩ (fun u hp hx => ?_)
  obtain rfl := hp
  try dsimp only [List.append_nil]
  refine g_aload_n C dX8_bust_31 rfl 1 rfl ?_
  refine g_iconst (v := (1 : Int32)) C dX8_bust_32 (by decide) ?_
  refine g_bipush (v := (8 : Int32)) C dX8_bust_33 (by decide) ?_
  refine g_bipush (v := (6 : Int32)) C dX8_bust_35 (by decide) ?_
  refine g_lv [1, 2, 3, 0] rfl ?_
  have m2 := mn_chg ν 1 6
  have m3 := mb_X8_bust_39  h
  have a1 := hm0.2.1; have a2 := hm0.2.2.1; have b1 := m2.2.1; have b2 := m2.2.2.1; have d1 := m3.2.1; have d2 := m3.2.2.1
  rw [kc_chg] at b1 d1
  rw [ks_chg] at b2 d2
  refine g_newa (atype := .int) (ty := .int) (t := 0) (N' := 6) (a0 := (6, .inl (fun _ => 0))) C gw_95 rfl rfl (fun _ h => by cases h) (fun _ => rfl) (by decide) (by decide) (by decide) (by show (kc ν - kc ν0) + 1 ≤ kc r0.1.2 - kc ν0; omega) (by show (ks ν - ks ν0) + 6 ≤ ks r0.1.2 - ks ν0; omega) dX8_bust_37 (fun q0 hq0 hs0 => ?_)
  refine g_chg 1 6 ?_
  refine g_widen (k := kc (chg ν 1 6) - kc ν0) (n := ks (chg ν 1 6) - ks ν0) (by rw [kc_chg]; omega) (by rw [ks_chg]; omega) ?_
  exact lb_X8_bust_39 C hEv hr hz (mn_trans hm0 m2) hp0 hq0  h
noncomputable def f_X8_bust  (w : Nat) (μ : MP) (ν : NC) (x1 : Int32) : Option (Nat × ((MP × NC) × Int32)) := bif ltB 0 (ν.2 0) then (f_X8_requireExecution w μ ν x1).bind (fun v2 => bif eqB v2.1 0 then (f_X8_requireUnbusted w μ ν v2.2).bind (fun v3 => bif eqB v3.1 0 then (b_X8_bust_10  w μ ν x1 v2.2).bind (fun r => some ((0 : Nat), r)) else some (v3.1, ((μ, ν), (0 : Int32)))) else some (v2.1, ((μ, ν), (0 : Int32)))) else none
theorem mb_X8_bust_0 {w : Nat} {μ : MP} {ν : NC} {x1 : Int32} {r0 : (MP × NC) × Int32}   (h : f_X8_bust  w μ ν x1 = some (0, r0)) : mn ν r0.1.2 := by
  unfold f_X8_bust at h
  iterate 40 (try first | (with_reducible (replace h := bind_of h; obtain ⟨rz, hrz, h⟩ := h; replace h := congrArg Prod.snd (Option.some.inj h); obtain rfl := h; exact mb_X8_bust_10  hrz)) | (with_reducible replace h := (of_guard h).2) | (with_reducible (replace h := of_guardP h; obtain ⟨hg, h⟩ := h)) | (with_reducible replace h := yl_of h rfl) | (with_reducible replace h := (of_thr h).2) | (with_reducible (replace h := bind_of h; obtain ⟨v, hv, h⟩ := h)) | (with_reducible split at h) | (with_reducible exact absurd (congrArg Prod.fst (Option.some.inj h)) (by simp)))
set_option maxHeartbeats 4000000 in
set_option maxRecDepth 100000 in
theorem lb_X8_bust_0 {p : Program} {l : Launch} {e : Env} {s : State} {m : MethodId} {args : Array Value} {below : List Frame} {meth : Method} {c : Code} {D : va_G} {E : Nat → ClassId} {sz : Nat} {μ0 : MP} {ν0 : NC} {a : AS} {Ad0 : Nat → Nat → Nat} {w : Nat} {B : Nat × (Nat → Nat)} {r0 : (MP × NC) × Int32} (C : cx p s m args meth c D E (Aof (zS μ0 ν0 a Ad0) [] s.heap.size) cX8_bust 4 "TradeLine") (hEv : eV (Ad0 30 0) (Ad0 31 0) B (Aof (zS μ0 ν0 a Ad0) [] s.heap.size) s s.heap) (hr : meth.sig.returnType = (some .int)) (hz : s.heap.size = sz) {μ : MP} {ν : NC} {Ad : Nat → Nat → Nat} (hm0 : mn ν0 ν) (hp0 : kp ν0 Ad0 Ad) {x1 : Int32}   (h : f_X8_bust  w μ ν x1 = some (0, r0)) : G p l e ({ frames := 8, cells := kc r0.1.2 - kc ν0, slots := ks r0.1.2 - ks ν0, locals := 246 } : Room) s m args below meth c D E (Aof (zS μ0 ν0 a Ad0) [] s.heap.size) 4 (MQ below (cQ D E sz (zS μ0 ν0 a Ad0) [] (pI (fun r u => r = r0.2 ∧ ∃ A1, u = (zS r0.1.1 r0.1.2 a A1, []) ∧ kp ν0 Ad0 A1))) args s (kc r0.1.2 - kc ν0) (ks r0.1.2 - ks ν0) (Aof (zS μ0 ν0 a Ad0) [] s.heap.size)) (zS μ ν a Ad) [] (kc ν - kc ν0) (ks ν - ks ν0) 0 [(0, .ref (Ad 0 0)), (1, .int x1)] [] := by
  have m0 := mb_X8_bust_0  h
  have e1 := m0.2.1; have e2 := m0.2.2.1; have e3 := hm0.2.1; have e4 := hm0.2.2.1
  unfold f_X8_bust at h
  refine g_aload_n C dX8_bust_0 rfl 0 rfl ?_
  refine g_iload_n C dX8_bust_1 rfl 1 rfl ?_
  obtain ⟨g1, h⟩ := of_guard h
  obtain ⟨v2, hv2, h⟩ := bind_of h
  obtain ⟨nv2, h⟩ := of_thr h
  refine g_cVq (n := 1) (exc := []) (exr := []) C [_] _ rfl rfl [] [] rfl rfl rfl rfl (fun _ h => absurd h (by simp)) (fun _ h => absurd h (by simp)) (fun _ h => absurd h (by simp)) (fun sz => c_X8_requireExecution l μ ν a Ad w x1 _ (thr0 hv2 nv2) D E sz) rfl gw_1199 gw_1 gw_1196 gw_1198 gs_38 ⟨by decide +kernel, by decide +kernel, by decide +kernel⟩ ⟨rfl, rfl⟩ ⟨Nat.le_of_ble_eq_true rfl, Nat.le_of_ble_eq_true rfl⟩ (rcvT (lvZ g1 rfl) rfl rfl rfl) (by first | exact Nat.le_of_ble_eq_true rfl | simp [nv_cat, cat_i, cat_r, cat_n]) dX8_bust_2 ⟨by show (kc ν - kc ν0) + 0 ≤ kc r0.1.2 - kc ν0; omega, by show (ks ν - ks ν0) + 0 ≤ ks r0.1.2 - ks ν0; omega⟩ (fun r u hp hx => ?_)
  obtain ⟨er, rfl⟩ := hp
  rw [er]
  try dsimp only [List.append_nil]
  refine z_astore_n (i := 2) (lv' := [(2, nv (Ad 23) v2.2), (0, .ref (Ad 0 0)), (1, .int x1)]) C dX8_bust_5 (nv_or _ _) rfl (by decide) (by simp [nv_cat, cat_i, cat_r, cat_n]) ?_
  refine z_aload_n C dX8_bust_6 rfl 0 rfl (nv_or _ _) ?_
  obtain ⟨v3, hv3, h⟩ := bind_of h
  obtain ⟨nv3, h⟩ := of_thr h
  refine g_cSv (n := 1) (exc := []) (exr := []) C [_] _ rfl rfl [] [] rfl rfl rfl rfl (fun _ h => absurd h (by simp)) (fun _ h => absurd h (by simp)) (fun _ h => absurd h (by simp)) (fun sz => c_X8_requireUnbusted l μ ν a Ad w v2.2 _ (thr0 hv3 nv3) D E sz) rfl gw_1203 gw_1 gw_1201 gw_1202 ⟨by decide +kernel, by decide +kernel, by decide +kernel⟩ ⟨rfl, rfl⟩ ⟨Nat.le_of_ble_eq_true rfl, Nat.le_of_ble_eq_true rfl⟩ (by first | exact Nat.le_of_ble_eq_true rfl | simp [nv_cat, cat_i, cat_r, cat_n]) dX8_bust_7 ⟨by show (kc ν - kc ν0) + 0 ≤ kc r0.1.2 - kc ν0; omega, by show (ks ν - ks ν0) + 0 ≤ ks r0.1.2 - ks ν0; omega⟩ (fun u hp hx => ?_)
  obtain rfl := hp
  try dsimp only [List.append_nil]
  refine g_lv [1, 2, 0] rfl ?_
  obtain ⟨rz, hrz, h⟩ := bind_of h
  obtain rfl := congrArg Prod.snd (Option.some.inj h)
  exact lb_X8_bust_10 C hEv hr hz hm0 hp0   hrz
theorem m_X8_bust {w : Nat} {μ : MP} {ν : NC} {x1 : Int32} {r0 : (MP × NC) × Int32} (h : f_X8_bust w μ ν x1 = some (0, r0)) : mn ν r0.1.2 := mb_X8_bust_0 h
theorem c_X8_bust (l : Launch) (B : Nat × (Nat → Nat)) (μ : MP) (ν : NC) (a : AS) (Ad : Nat → Nat → Nat) (w : Nat) (x1 : Int32) (r0 : (MP × NC) × Int32) (h : f_X8_bust w μ ν x1 = some (0, r0)) : ∀ D E sz, Met l yX8_bust gwX8_bust ({ frames := 8, cells := kc r0.1.2 - kc ν, slots := ks r0.1.2 - ks ν, locals := 246 } : Room) (cPe D E sz B (zS μ ν a Ad) [] [] [.ref (Ad 0 0), .int x1]) (cQ D E sz (zS μ ν a Ad) [] (pI (fun r u => r = r0.2 ∧ ∃ A1, u = (zS r0.1.1 r0.1.2 a A1, []) ∧ kp ν Ad A1))) (kc r0.1.2 - kc ν) (ks r0.1.2 - ks ν) (Aof (zS μ ν a Ad) [] sz) := by
  intro D E sz
  refine g_ofe (cc := cX8_bust) (maxL := 4) (ret := (some .int)) (own := "TradeLine") (by decide) rfl rfl (Nat.le_of_ble_eq_true rfl) ?_
  intro p e s m args below meth c C hr hin hz ha hwr hEv
  refine g_lv (lv' := [(0, .ref (Ad 0 0)), (1, .int x1)]) [0, 1] rfl ?_
  refine g_widen (k := kc ν - kc ν) (n := ks ν - ks ν) (Nat.zero_le _) (Nat.zero_le _) ?_
  exact lb_X8_bust_0 C hEv hr hz (mn_rfl _) (kp_rfl _ _) h
set_option maxHeartbeats 4000000 in
set_option maxRecDepth 100000 in
theorem lx_X8_bust_0 {p : Program} {l : Launch} {e : Env} {s : State} {m : MethodId} {args : Array Value} {below : List Frame} {meth : Method} {c : Code} {D : va_G} {E : Nat → ClassId} {sz : Nat} {μ : MP} {ν : NC} {a : AS} {Ad : Nat → Nat → Nat} {w nx : Nat} {B : Nat × (Nat → Nat)} {r0 : (MP × NC) × Int32} (C : cx p s m args meth c D E (Aof (zS μ ν a Ad) [] s.heap.size) cX8_bust 4 "TradeLine") (hEv : eV (Ad 30 0) (Ad 31 0) B (Aof (zS μ ν a Ad) [] s.heap.size) s s.heap) (hl : l.stackTraces = false) (hT : ∀ x ∈ c.exceptionTable.toList, False) (hz : s.heap.size = sz) {x1 : Int32} (h : f_X8_bust  w μ ν x1 = some (nx + 1, r0)) : G p l e ({ frames := 8, cells := 1, slots := 6, locals := 246 } : Room) s m args below meth c D E (Aof (zS μ ν a Ad) [] s.heap.size) 4 (vx_MQ below (fun _ _ _ _ => False) (cX D E sz (zS μ ν a Ad) (nx + 1)) args s 1 6 (Aof (zS μ ν a Ad) [] s.heap.size)) (zS μ ν a Ad) [] 0 0 0 [(0, .ref (Ad 0 0)), (1, .int x1)] [] := by
  unfold f_X8_bust at h
  refine g_aload_n C dX8_bust_0 rfl 0 rfl ?_
  refine g_iload_n C dX8_bust_1 rfl 1 rfl ?_
  obtain ⟨g1, h⟩ := of_guard h
  obtain ⟨v2, hv2, h⟩ := bind_of h
  rcases of_thx h with ⟨nv2, h⟩ | nv2
  · refine g_cVq (n := 1) (exc := []) (exr := []) C [_] _ rfl rfl [] [] rfl rfl rfl rfl (fun _ h => absurd h (by simp)) (fun _ h => absurd h (by simp)) (fun _ h => absurd h (by simp)) (fun sz => c_X8_requireExecution l μ ν a Ad w x1 _ (thr0 hv2 nv2) D E sz) rfl gw_1199 gw_1 gw_1196 gw_1198 gs_38 ⟨by decide +kernel, by decide +kernel, by decide +kernel⟩ ⟨rfl, rfl⟩ ⟨Nat.le_of_ble_eq_true rfl, Nat.le_of_ble_eq_true rfl⟩ (rcvT (lvZ g1 rfl) rfl rfl rfl) (by first | exact Nat.le_of_ble_eq_true rfl | simp [nv_cat, cat_i, cat_r, cat_n]) dX8_bust_2 ⟨by decide, by decide⟩ (fun r u hp hx => ?_)
    obtain ⟨er, rfl⟩ := hp
    rw [er]
    try dsimp only [List.append_nil]
    refine z_astore_n (i := 2) (lv' := [(2, nv (Ad 23) v2.2), (0, .ref (Ad 0 0)), (1, .int x1)]) C dX8_bust_5 (nv_or _ _) rfl (by decide) (by simp [nv_cat, cat_i, cat_r, cat_n]) ?_
    refine z_aload_n C dX8_bust_6 rfl 0 rfl (nv_or _ _) ?_
    obtain ⟨v3, hv3, h⟩ := bind_of h
    rcases of_thx h with ⟨nv3, h⟩ | nv3
    · refine g_cSv (n := 1) (exc := []) (exr := []) C [_] _ rfl rfl [] [] rfl rfl rfl rfl (fun _ h => absurd h (by simp)) (fun _ h => absurd h (by simp)) (fun _ h => absurd h (by simp)) (fun sz => c_X8_requireUnbusted l μ ν a Ad w v2.2 _ (thr0 hv3 nv3) D E sz) rfl gw_1203 gw_1 gw_1201 gw_1202 ⟨by decide +kernel, by decide +kernel, by decide +kernel⟩ ⟨rfl, rfl⟩ ⟨Nat.le_of_ble_eq_true rfl, Nat.le_of_ble_eq_true rfl⟩ (by first | exact Nat.le_of_ble_eq_true rfl | simp [nv_cat, cat_i, cat_r, cat_n]) dX8_bust_7 ⟨by decide, by decide⟩ (fun u hp hx => ?_)
      obtain rfl := hp
      try dsimp only [List.append_nil]
      obtain ⟨_, _, h⟩ := bind_of h
      exact absurd (congrArg Prod.fst (Option.some.inj h)) (by simp)
    · exact g_xS (index := 1) C hEv ⟨rfl, rfl⟩ hT hz [_] _ rfl rfl (fun sz => x_X8_requireUnbusted l hl B μ ν a Ad w v2.2 _ _ (thrS hv3 nv3) D E sz) rfl gw_1203 gw_1 gw_1201 gw_1202 ⟨by decide +kernel, by decide +kernel, by decide +kernel⟩ ⟨rfl, rfl⟩ ⟨Nat.le_of_ble_eq_true rfl, Nat.le_of_ble_eq_true rfl⟩ (Nat.le_of_ble_eq_true rfl) dX8_bust_7 ⟨by decide, by decide⟩
  · exact g_xV (index := 1) C hEv ⟨rfl, rfl⟩ hT hz [_] _ rfl rfl (fun sz => x_X8_requireExecution l hl B μ ν a Ad w x1 _ _ (thrS hv2 nv2) D E sz) rfl gw_1199 gw_1 gw_1196 gw_1198 gs_38 ⟨by decide +kernel, by decide +kernel, by decide +kernel⟩ ⟨rfl, rfl⟩ ⟨Nat.le_of_ble_eq_true rfl, Nat.le_of_ble_eq_true rfl⟩ (rcvT (lvZ g1 rfl) rfl rfl rfl) (Nat.le_of_ble_eq_true rfl) dX8_bust_2 ⟨by decide, by decide⟩
theorem x_X8_bust (l : Launch) (hl : l.stackTraces = false) (B : Nat × (Nat → Nat)) (μ : MP) (ν : NC) (a : AS) (Ad : Nat → Nat → Nat) (w : Nat) (x1 : Int32) (nx : Nat) (r0 : (MP × NC) × Int32) (h : f_X8_bust w μ ν x1 = some (nx + 1, r0)) : ∀ D E sz, vx_Met l yX8_bust gwX8_bust ({ frames := 8, cells := 1, slots := 6, locals := 246 } : Room) (cPe D E sz B (zS μ ν a Ad) [] [] [.ref (Ad 0 0), .int x1]) (fun _ _ _ _ => False) (cX D E sz (zS μ ν a Ad) (nx + 1)) 1 6 (Aof (zS μ ν a Ad) [] sz) := by
  intro D E sz
  refine g_ofx (cc := cX8_bust) (maxL := 4) (ret := (some .int)) (own := "TradeLine") (by decide) rfl rfl (Nat.le_of_ble_eq_true rfl) ?_
  intro p e s m args below meth c C hT hz ha hEv
  refine g_lv (lv' := [(0, .ref (Ad 0 0)), (1, .int x1)]) [0, 1] rfl ?_
  exact lx_X8_bust_0 C hEv hl hT hz h
noncomputable def b_X8_correct_85  (w : Nat) (μ : MP) (ν : NC) (x4 : Int32) : Option ((MP × NC) × Int32) := some ((μ, ν), x4)
theorem mb_X8_correct_85 {w : Nat} {μ : MP} {ν : NC} {x4 : Int32} {r0 : (MP × NC) × Int32}   (h : b_X8_correct_85  w μ ν x4 = some r0) : mn ν r0.1.2 := by
  unfold b_X8_correct_85 at h
  iterate 40 (try first | (with_reducible replace h := (of_guard h).2) | (with_reducible (replace h := of_guardP h; obtain ⟨hg, h⟩ := h)) | (with_reducible replace h := yl_of h rfl) | (with_reducible replace h := (of_thr h).2) | (with_reducible (replace h := bind_of h; obtain ⟨v, hv, h⟩ := h)) | (with_reducible split at h) | (with_reducible (replace h := Option.some.inj h; obtain rfl := h; exact mn_rfl _)) | (with_reducible exact absurd (congrArg Prod.fst (Option.some.inj h)) (by simp)))
set_option maxHeartbeats 4000000 in
set_option maxRecDepth 100000 in
theorem lb_X8_correct_85 {p : Program} {l : Launch} {e : Env} {s : State} {m : MethodId} {args : Array Value} {below : List Frame} {meth : Method} {c : Code} {D : va_G} {E : Nat → ClassId} {sz : Nat} {μ0 : MP} {ν0 : NC} {a : AS} {Ad0 : Nat → Nat → Nat} {w : Nat} {B : Nat × (Nat → Nat)} {r0 : (MP × NC) × Int32} (C : cx p s m args meth c D E (Aof (zS μ0 ν0 a Ad0) [] s.heap.size) cX8_correct 5 "TradeLine") (hEv : eV (Ad0 30 0) (Ad0 31 0) B (Aof (zS μ0 ν0 a Ad0) [] s.heap.size) s s.heap) (hr : meth.sig.returnType = (some .int)) (hz : s.heap.size = sz) {μ : MP} {ν : NC} {Ad : Nat → Nat → Nat} (hm0 : mn ν0 ν) (hp0 : kp ν0 Ad0 Ad) {x4 : Int32}   (h : b_X8_correct_85  w μ ν x4 = some r0) : G p l e ({ frames := 8, cells := kc r0.1.2 - kc ν0, slots := ks r0.1.2 - ks ν0, locals := 246 } : Room) s m args below meth c D E (Aof (zS μ0 ν0 a Ad0) [] s.heap.size) 5 (MQ below (cQ D E sz (zS μ0 ν0 a Ad0) [] (pI (fun r u => r = r0.2 ∧ ∃ A1, u = (zS r0.1.1 r0.1.2 a A1, []) ∧ kp ν0 Ad0 A1))) args s (kc r0.1.2 - kc ν0) (ks r0.1.2 - ks ν0) (Aof (zS μ0 ν0 a Ad0) [] s.heap.size)) (zS μ ν a Ad) [] (kc ν - kc ν0) (ks ν - ks ν0) 85 [(0, .ref (Ad 0 0)), (4, .int x4)] [] := by
  have m0 := mb_X8_correct_85  h
  have e1 := m0.2.1; have e2 := m0.2.2.1; have e3 := hm0.2.1; have e4 := hm0.2.2.1
  unfold b_X8_correct_85 at h
  refine g_iload C dX8_correct_85 1 rfl ?_
  obtain rfl := Option.some.inj h
  exact g_iret C hr rfl hz ⟨(hm0.2.2.2 30 (by decide) (by decide)).1, (hm0.2.2.2 31 (by decide) (by decide)).1, hp0.2.1, hp0.2.2⟩ ⟨rfl, Ad, rfl, hp0⟩ (fun j x h => by simp at h) dX8_correct_87
noncomputable def b_X8_correct_36  (w : Nat) (μ : MP) (ν : NC) (x1 : Int32) (x2 : Int32) (p3 : Nat) (x4 : Int32) (s1 : Int32) (s2 : Int32) (f0 : Nat → Int32) : Option ((MP × NC) × Int32) := bif nzB p3 then bif ltB (p3 - 1) (ν.2 23) then bif ltB (μ.2 23 (p3 - 1) 0) (ν.2 20) then bif ltB 0 (ν.2 0) then (f_X8_send_L w μ ν s2 s1 8 (up1 (up1 (up1 (up1 (up1 (up1 (up1 (up1 f0 0 (150 : Int32)) 1 (6 : Int32)) 2 (37 : Int32)) 3 (μ.1 20 (μ.2 23 (p3 - 1) 0) 0)) 4 (17 : Int32)) 5 x1) 6 (31 : Int32)) 7 x2)).bind (fun v13 => b_X8_correct_85  w v13.1.1 v13.1.2 x4) else none else none else none else none
theorem mb_X8_correct_36 {w : Nat} {μ : MP} {ν : NC} {x1 : Int32} {x2 : Int32} {p3 : Nat} {x4 : Int32} {s1 : Int32} {s2 : Int32} {f0 : Nat → Int32} {r0 : (MP × NC) × Int32}   (h : b_X8_correct_36  w μ ν x1 x2 p3 x4 s1 s2 f0 = some r0) : mn ν r0.1.2 := by
  unfold b_X8_correct_36 at h
  iterate 40 (try first | (with_reducible replace h := (of_guard h).2) | (with_reducible (replace h := of_guardP h; obtain ⟨hg, h⟩ := h)) | (with_reducible replace h := yl_of h rfl) | (with_reducible replace h := (of_thr h).2) | (with_reducible (replace h := bind_of h; obtain ⟨v, hv, h⟩ := h)) | (with_reducible split at h) | (with_reducible (exact mn_trans (m_X8_send_L hv) (mb_X8_correct_85  h))) | (with_reducible exact absurd (congrArg Prod.fst (Option.some.inj h)) (by simp)))
set_option maxHeartbeats 4000000 in
set_option maxRecDepth 100000 in
theorem lb_X8_correct_36 {p : Program} {l : Launch} {e : Env} {s : State} {m : MethodId} {args : Array Value} {below : List Frame} {meth : Method} {c : Code} {D : va_G} {E : Nat → ClassId} {sz : Nat} {μ0 : MP} {ν0 : NC} {a : AS} {Ad0 : Nat → Nat → Nat} {w : Nat} {B : Nat × (Nat → Nat)} {r0 : (MP × NC) × Int32} (C : cx p s m args meth c D E (Aof (zS μ0 ν0 a Ad0) [] s.heap.size) cX8_correct 5 "TradeLine") (hEv : eV (Ad0 30 0) (Ad0 31 0) B (Aof (zS μ0 ν0 a Ad0) [] s.heap.size) s s.heap) (hr : meth.sig.returnType = (some .int)) (hz : s.heap.size = sz) {μ : MP} {ν : NC} {Ad : Nat → Nat → Nat} (hm0 : mn ν0 ν) (hp0 : kp ν0 Ad0 Ad) {x1 : Int32} {x2 : Int32} {p3 : Nat} {x4 : Int32} {s1 : Int32} {s2 : Int32} {f0 : Nat → Int32} {q0 : Nat} (hq0 : (Aof (zS μ0 ν0 a Ad0) [] s.heap.size) q0)   (h : b_X8_correct_36  w μ ν x1 x2 p3 x4 s1 s2 f0 = some r0) : G p l e ({ frames := 8, cells := kc r0.1.2 - kc ν0, slots := ks r0.1.2 - ks ν0, locals := 246 } : Room) s m args below meth c D E (Aof (zS μ0 ν0 a Ad0) [] s.heap.size) 5 (MQ below (cQ D E sz (zS μ0 ν0 a Ad0) [] (pI (fun r u => r = r0.2 ∧ ∃ A1, u = (zS r0.1.1 r0.1.2 a A1, []) ∧ kp ν0 Ad0 A1))) args s (kc r0.1.2 - kc ν0) (ks r0.1.2 - ks ν0) (Aof (zS μ0 ν0 a Ad0) [] s.heap.size)) (zS μ ν a Ad) [(q0, .inl (E 0, 8, .inl f0))] (kc ν - kc ν0) (ks ν - ks ν0) 36 [(0, .ref (Ad 0 0)), (1, .int x1), (2, .int x2), (3, nv (Ad 23) p3), (4, .int x4)] [.ref q0, .int s1, .int s2, .ref (Ad 0 0)] := by
  have m0 := mb_X8_correct_36  h
  have e1 := m0.2.1; have e2 := m0.2.2.1; have e3 := hm0.2.1; have e4 := hm0.2.2.1
  unfold b_X8_correct_36 at h
  refine g_dup C dX8_correct_36 rfl ?_
  refine g_iconst (v := (0 : Int32)) C dX8_correct_37 (by decide) ?_
  refine g_sipush (v := (150 : Int32)) C dX8_correct_38 (by decide) ?_
  refine g_iastL C 0 rfl hq0 (ixB_in rfl) (ex' := [(q0, .inl (E 0, 8, .inl (up1 f0 0 (150 : Int32))))]) rfl dX8_correct_41 ?_
  refine g_dup C dX8_correct_42 rfl ?_
  refine g_iconst (v := (1 : Int32)) C dX8_correct_43 (by decide) ?_
  refine g_bipush (v := (6 : Int32)) C dX8_correct_44 (by decide) ?_
  refine g_iastL C 0 rfl hq0 (ixB_in rfl) (ex' := [(q0, .inl (E 0, 8, .inl (up1 (up1 f0 0 (150 : Int32)) 1 (6 : Int32))))]) rfl dX8_correct_46 ?_
  refine g_dup C dX8_correct_47 rfl ?_
  refine g_iconst (v := (2 : Int32)) C dX8_correct_48 (by decide) ?_
  refine g_bipush (v := (37 : Int32)) C dX8_correct_49 (by decide) ?_
  refine g_iastL C 0 rfl hq0 (ixB_in rfl) (ex' := [(q0, .inl (E 0, 8, .inl (up1 (up1 (up1 f0 0 (150 : Int32)) 1 (6 : Int32)) 2 (37 : Int32))))]) rfl dX8_correct_51 ?_
  refine g_dup C dX8_correct_52 rfl ?_
  refine g_iconst (v := (3 : Int32)) C dX8_correct_53 (by decide) ?_
  refine z_aload_n C dX8_correct_54 rfl 3 rfl (nv_or _ _) ?_
  obtain ⟨g9, h⟩ := of_guard h
  rw [nzB_e g9]
  obtain ⟨g10, h⟩ := of_guard h
  refine g_get (k := 23) (i := (p3 - 1)) (ref := "TradeLine$Execution") (v := .ref (Ad 20 (μ.2 23 (p3 - 1) 0))) C rfl (lvZ g10 rfl) rfl rfl inGX2 0 (by decide) gw_900 (fun _ h => h) rfl dX8_correct_55 ?_
  obtain ⟨g11, h⟩ := of_guard h
  refine g_get (k := 20) (i := (μ.2 23 (p3 - 1) 0)) (ref := "TradeLine$Order") (v := .int (μ.1 20 (μ.2 23 (p3 - 1) 0) 0)) C rfl (lvZ g11 rfl) rfl rfl inGX4 0 (by decide) gw_1110 (fun _ h => h) rfl dX8_correct_58 ?_
  refine g_iastL C 0 rfl hq0 (ixB_in rfl) (ex' := [(q0, .inl (E 0, 8, .inl (up1 (up1 (up1 (up1 f0 0 (150 : Int32)) 1 (6 : Int32)) 2 (37 : Int32)) 3 (μ.1 20 (μ.2 23 (p3 - 1) 0) 0))))]) rfl dX8_correct_61 ?_
  refine g_dup C dX8_correct_62 rfl ?_
  refine g_iconst (v := (4 : Int32)) C dX8_correct_63 (by decide) ?_
  refine g_bipush (v := (17 : Int32)) C dX8_correct_64 (by decide) ?_
  refine g_iastL C 0 rfl hq0 (ixB_in rfl) (ex' := [(q0, .inl (E 0, 8, .inl (up1 (up1 (up1 (up1 (up1 f0 0 (150 : Int32)) 1 (6 : Int32)) 2 (37 : Int32)) 3 (μ.1 20 (μ.2 23 (p3 - 1) 0) 0)) 4 (17 : Int32))))]) rfl dX8_correct_66 ?_
  refine g_dup C dX8_correct_67 rfl ?_
  refine g_iconst (v := (5 : Int32)) C dX8_correct_68 (by decide) ?_
  refine g_iload_n C dX8_correct_69 rfl 1 rfl ?_
  refine g_iastL C 0 rfl hq0 (ixB_in rfl) (ex' := [(q0, .inl (E 0, 8, .inl (up1 (up1 (up1 (up1 (up1 (up1 f0 0 (150 : Int32)) 1 (6 : Int32)) 2 (37 : Int32)) 3 (μ.1 20 (μ.2 23 (p3 - 1) 0) 0)) 4 (17 : Int32)) 5 x1)))]) rfl dX8_correct_70 ?_
  refine g_dup C dX8_correct_71 rfl ?_
  refine g_bipush (v := (6 : Int32)) C dX8_correct_72 (by decide) ?_
  refine g_bipush (v := (31 : Int32)) C dX8_correct_74 (by decide) ?_
  refine g_iastL C 0 rfl hq0 (ixB_in rfl) (ex' := [(q0, .inl (E 0, 8, .inl (up1 (up1 (up1 (up1 (up1 (up1 (up1 f0 0 (150 : Int32)) 1 (6 : Int32)) 2 (37 : Int32)) 3 (μ.1 20 (μ.2 23 (p3 - 1) 0) 0)) 4 (17 : Int32)) 5 x1) 6 (31 : Int32))))]) rfl dX8_correct_76 ?_
  refine g_dup C dX8_correct_77 rfl ?_
  refine g_bipush (v := (7 : Int32)) C dX8_correct_78 (by decide) ?_
  refine g_iload_n C dX8_correct_80 rfl 2 rfl ?_
  refine g_iastL C 0 rfl hq0 (ixB_in rfl) (ex' := [(q0, .inl (E 0, 8, .inl (up1 (up1 (up1 (up1 (up1 (up1 (up1 (up1 f0 0 (150 : Int32)) 1 (6 : Int32)) 2 (37 : Int32)) 3 (μ.1 20 (μ.2 23 (p3 - 1) 0) 0)) 4 (17 : Int32)) 5 x1) 6 (31 : Int32)) 7 x2)))]) rfl dX8_correct_81 ?_
  obtain ⟨g12, h⟩ := of_guard h
  obtain ⟨v13, hv13, h⟩ := bind_of h
  have m2 := m_X8_send_L hv13
  have m3 := mb_X8_correct_85  h
  have a1 := hm0.2.1; have a2 := hm0.2.2.1; have b1 := m2.2.1; have b2 := m2.2.2.1; have d1 := m3.2.1; have d2 := m3.2.2.1
  refine g_lv [0, 4] rfl ?_
  refine g_cVve (n := 3) (exc := [(q0, .inl (E 0, 8, .inl (up1 (up1 (up1 (up1 (up1 (up1 (up1 (up1 f0 0 (150 : Int32)) 1 (6 : Int32)) 2 (37 : Int32)) 3 (μ.1 20 (μ.2 23 (p3 - 1) 0) 0)) 4 (17 : Int32)) 5 x1) 6 (31 : Int32)) 7 x2)))]) (exr := []) C hEv ⟨hp0.2.1 0, hp0.2.2 0⟩ [_, _, _] _ rfl rfl [0] [] rfl rfl rfl rfl (fun _ h => by simp at h) (fun _ h => absurd h (by simp)) (fun _ h => absurd h (by simp)) (fun sz => c_X8_send_L l B μ ν a Ad w s2 s1 q0 8 (up1 (up1 (up1 (up1 (up1 (up1 (up1 (up1 f0 0 (150 : Int32)) 1 (6 : Int32)) 2 (37 : Int32)) 3 (μ.1 20 (μ.2 23 (p3 - 1) 0) 0)) 4 (17 : Int32)) 5 x1) 6 (31 : Int32)) 7 x2) _ hv13 D E sz) rfl gw_300 gw_1 gw_297 gw_299 gs_1 ⟨by decide +kernel, by decide +kernel, by decide +kernel⟩ ⟨rfl, rfl⟩ ⟨Nat.le_of_ble_eq_true rfl, Nat.le_of_ble_eq_true rfl⟩ (rcvT (lvZ g12 rfl) rfl rfl rfl) (by first | exact Nat.le_of_ble_eq_true rfl | simp [nv_cat, cat_i, cat_r, cat_n]) dX8_correct_82 ⟨by show (kc ν - kc ν0) + (kc v13.1.2 - kc ν) ≤ kc r0.1.2 - kc ν0; omega, by show (ks ν - ks ν0) + (ks v13.1.2 - ks ν) ≤ ks r0.1.2 - ks ν0; omega⟩ (fun u hp hx => ?_)
  obtain ⟨A1, rfl, hkp⟩ := hp
  try dsimp only [List.append_nil]
  refine g_widen (k := kc v13.1.2 - kc ν0) (n := ks v13.1.2 - ks ν0) (by omega) (by omega) ?_
  rw [show Ad 0 0 = A1 0 0 from (hkp.1 0 _ rfl (of_decide_eq_true g12)).symm]
  exact lb_X8_correct_85 C hEv hr hz (mn_trans hm0 m2) (kp_trans hp0 hm0 hkp)   h
noncomputable def b_X8_correct_17  (w : Nat) (μ : MP) (ν : NC) (x1 : Int32) (x2 : Int32) (p3 : Nat) : Option ((MP × NC) × Int32) := bif nzB p3 then bif ltB (p3 - 1) (ν.2 23) then yl ((μ.1 23 (p3 - 1) 4)) (fun t7 => yl (uM μ 23 (p3 - 1) 4 x2) (fun m8 => b_X8_correct_36  w m8 (chg ν 1 8) x1 x2 ((p3 - 1) + 1) t7 (8 : Int32) (1 : Int32) (fun _ => 0))) else none else none
theorem mb_X8_correct_17 {w : Nat} {μ : MP} {ν : NC} {x1 : Int32} {x2 : Int32} {p3 : Nat} {r0 : (MP × NC) × Int32}   (h : b_X8_correct_17  w μ ν x1 x2 p3 = some r0) : mn ν r0.1.2 := by
  unfold b_X8_correct_17 at h
  iterate 40 (try first | (with_reducible replace h := (of_guard h).2) | (with_reducible (replace h := of_guardP h; obtain ⟨hg, h⟩ := h)) | (with_reducible replace h := yl_of h rfl) | (with_reducible replace h := (of_thr h).2) | (with_reducible (replace h := bind_of h; obtain ⟨v, hv, h⟩ := h)) | (with_reducible split at h) | (with_reducible (exact mn_trans (mn_chg _ _ _) (mb_X8_correct_36  h))) | (with_reducible exact absurd (congrArg Prod.fst (Option.some.inj h)) (by simp)))
set_option maxHeartbeats 4000000 in
set_option maxRecDepth 100000 in
theorem lb_X8_correct_17 {p : Program} {l : Launch} {e : Env} {s : State} {m : MethodId} {args : Array Value} {below : List Frame} {meth : Method} {c : Code} {D : va_G} {E : Nat → ClassId} {sz : Nat} {μ0 : MP} {ν0 : NC} {a : AS} {Ad0 : Nat → Nat → Nat} {w : Nat} {B : Nat × (Nat → Nat)} {r0 : (MP × NC) × Int32} (C : cx p s m args meth c D E (Aof (zS μ0 ν0 a Ad0) [] s.heap.size) cX8_correct 5 "TradeLine") (hEv : eV (Ad0 30 0) (Ad0 31 0) B (Aof (zS μ0 ν0 a Ad0) [] s.heap.size) s s.heap) (hr : meth.sig.returnType = (some .int)) (hz : s.heap.size = sz) {μ : MP} {ν : NC} {Ad : Nat → Nat → Nat} (hm0 : mn ν0 ν) (hp0 : kp ν0 Ad0 Ad) {x1 : Int32} {x2 : Int32} {p3 : Nat}   (h : b_X8_correct_17  w μ ν x1 x2 p3 = some r0) : G p l e ({ frames := 8, cells := kc r0.1.2 - kc ν0, slots := ks r0.1.2 - ks ν0, locals := 246 } : Room) s m args below meth c D E (Aof (zS μ0 ν0 a Ad0) [] s.heap.size) 5 (MQ below (cQ D E sz (zS μ0 ν0 a Ad0) [] (pI (fun r u => r = r0.2 ∧ ∃ A1, u = (zS r0.1.1 r0.1.2 a A1, []) ∧ kp ν0 Ad0 A1))) args s (kc r0.1.2 - kc ν0) (ks r0.1.2 - ks ν0) (Aof (zS μ0 ν0 a Ad0) [] s.heap.size)) (zS μ ν a Ad) [] (kc ν - kc ν0) (ks ν - ks ν0) 17 [(0, .ref (Ad 0 0)), (1, .int x1), (2, .int x2), (3, nv (Ad 23) p3)] [] := by
  have m0 := mb_X8_correct_17  h
  have e1 := m0.2.1; have e2 := m0.2.2.1; have e3 := hm0.2.1; have e4 := hm0.2.2.1
  unfold b_X8_correct_17 at h
  refine z_aload_n C dX8_correct_17 rfl 3 rfl (nv_or _ _) ?_
  obtain ⟨g5, h⟩ := of_guard h
  rw [nzB_e g5]
  obtain ⟨g6, h⟩ := of_guard h
  refine g_get (k := 23) (i := (p3 - 1)) (ref := "TradeLine$Execution") (v := .int (μ.1 23 (p3 - 1) 4)) C rfl (lvZ g6 rfl) rfl rfl inGX2 4 (by decide) gw_908 (fun _ h => h) rfl dX8_correct_18 ?_
  refine q_topi (fun t7 et7 => ?_)
  replace h := yl_of h et7
  refine g_istore (lv' := [(4, .int t7), (0, .ref (Ad 0 0)), (1, .int x1), (2, .int x2), (3, .ref (Ad 23 (p3 - 1)))]) C dX8_correct_21 (by decide) rfl ?_
  refine g_aload_n C dX8_correct_23 rfl 4 rfl ?_
  refine g_iload_n C dX8_correct_24 rfl 3 rfl ?_
  refine z_put (k := 23) (i := (p3 - 1)) (ref := "TradeLine$Execution") C rfl g6 rfl rfl rfl inGX2 tyX2 tyX2_ok nmX2 4 (by decide) gw_908 (fun _ h => h) rfl (tyX2_ok 4 (by decide)) rfl rfl (by simp [fvs]) (by simp [fvs, up1]) dX8_correct_25 (fun m8 em8 => ?_)
  replace h := yl_of h em8
  refine g_aload_n C dX8_correct_28 rfl 1 rfl ?_
  refine g_iconst (v := (1 : Int32)) C dX8_correct_29 (by decide) ?_
  refine g_bipush (v := (8 : Int32)) C dX8_correct_30 (by decide) ?_
  refine g_bipush (v := (8 : Int32)) C dX8_correct_32 (by decide) ?_
  refine g_lv [1, 2, 3, 4, 0] rfl ?_
  have m2 := mn_chg ν 1 8
  have m3 := mb_X8_correct_36  h
  have a1 := hm0.2.1; have a2 := hm0.2.2.1; have b1 := m2.2.1; have b2 := m2.2.2.1; have d1 := m3.2.1; have d2 := m3.2.2.1
  rw [kc_chg] at b1 d1
  rw [ks_chg] at b2 d2
  refine g_newa (atype := .int) (ty := .int) (t := 0) (N' := 8) (a0 := (8, .inl (fun _ => 0))) C gw_95 rfl rfl (fun _ h => by cases h) (fun _ => rfl) (by decide) (by decide) (by decide) (by show (kc ν - kc ν0) + 1 ≤ kc r0.1.2 - kc ν0; omega) (by show (ks ν - ks ν0) + 8 ≤ ks r0.1.2 - ks ν0; omega) dX8_correct_34 (fun q0 hq0 hs0 => ?_)
  refine g_chg 1 8 ?_
  refine g_widen (k := kc (chg ν 1 8) - kc ν0) (n := ks (chg ν 1 8) - ks ν0) (by rw [kc_chg]; omega) (by rw [ks_chg]; omega) ?_
  exact lb_X8_correct_36 C hEv hr hz (mn_trans hm0 m2) hp0 hq0  h
noncomputable def f_X8_correct  (w : Nat) (μ : MP) (ν : NC) (x1 : Int32) (x2 : Int32) : Option (Nat × ((MP × NC) × Int32)) := bif ltB 0 (ν.2 0) then (f_X8_requireExecution w μ ν x1).bind (fun v2 => bif eqB v2.1 0 then (f_X8_requireRange w μ ν x2 (1 : Int32) (100 : Int32)).bind (fun v3 => bif eqB v3.1 0 then (f_X8_requireUnbusted w μ ν v2.2).bind (fun v4 => bif eqB v4.1 0 then (b_X8_correct_17  w μ ν x1 x2 v2.2).bind (fun r => some ((0 : Nat), r)) else some (v4.1, ((μ, ν), (0 : Int32)))) else some (v3.1, ((μ, ν), (0 : Int32)))) else some (v2.1, ((μ, ν), (0 : Int32)))) else none
theorem mb_X8_correct_0 {w : Nat} {μ : MP} {ν : NC} {x1 : Int32} {x2 : Int32} {r0 : (MP × NC) × Int32}   (h : f_X8_correct  w μ ν x1 x2 = some (0, r0)) : mn ν r0.1.2 := by
  unfold f_X8_correct at h
  iterate 40 (try first | (with_reducible (replace h := bind_of h; obtain ⟨rz, hrz, h⟩ := h; replace h := congrArg Prod.snd (Option.some.inj h); obtain rfl := h; exact mb_X8_correct_17  hrz)) | (with_reducible replace h := (of_guard h).2) | (with_reducible (replace h := of_guardP h; obtain ⟨hg, h⟩ := h)) | (with_reducible replace h := yl_of h rfl) | (with_reducible replace h := (of_thr h).2) | (with_reducible (replace h := bind_of h; obtain ⟨v, hv, h⟩ := h)) | (with_reducible split at h) | (with_reducible exact absurd (congrArg Prod.fst (Option.some.inj h)) (by simp)))
set_option maxHeartbeats 4000000 in
set_option maxRecDepth 100000 in
theorem lb_X8_correct_0 {p : Program} {l : Launch} {e : Env} {s : State} {m : MethodId} {args : Array Value} {below : List Frame} {meth : Method} {c : Code} {D : va_G} {E : Nat → ClassId} {sz : Nat} {μ0 : MP} {ν0 : NC} {a : AS} {Ad0 : Nat → Nat → Nat} {w : Nat} {B : Nat × (Nat → Nat)} {r0 : (MP × NC) × Int32} (C : cx p s m args meth c D E (Aof (zS μ0 ν0 a Ad0) [] s.heap.size) cX8_correct 5 "TradeLine") (hEv : eV (Ad0 30 0) (Ad0 31 0) B (Aof (zS μ0 ν0 a Ad0) [] s.heap.size) s s.heap) (hr : meth.sig.returnType = (some .int)) (hz : s.heap.size = sz) {μ : MP} {ν : NC} {Ad : Nat → Nat → Nat} (hm0 : mn ν0 ν) (hp0 : kp ν0 Ad0 Ad) {x1 : Int32} {x2 : Int32}   (h : f_X8_correct  w μ ν x1 x2 = some (0, r0)) : G p l e ({ frames := 8, cells := kc r0.1.2 - kc ν0, slots := ks r0.1.2 - ks ν0, locals := 246 } : Room) s m args below meth c D E (Aof (zS μ0 ν0 a Ad0) [] s.heap.size) 5 (MQ below (cQ D E sz (zS μ0 ν0 a Ad0) [] (pI (fun r u => r = r0.2 ∧ ∃ A1, u = (zS r0.1.1 r0.1.2 a A1, []) ∧ kp ν0 Ad0 A1))) args s (kc r0.1.2 - kc ν0) (ks r0.1.2 - ks ν0) (Aof (zS μ0 ν0 a Ad0) [] s.heap.size)) (zS μ ν a Ad) [] (kc ν - kc ν0) (ks ν - ks ν0) 0 [(0, .ref (Ad 0 0)), (1, .int x1), (2, .int x2)] [] := by
  have m0 := mb_X8_correct_0  h
  have e1 := m0.2.1; have e2 := m0.2.2.1; have e3 := hm0.2.1; have e4 := hm0.2.2.1
  unfold f_X8_correct at h
  refine g_aload_n C dX8_correct_0 rfl 0 rfl ?_
  refine g_iload_n C dX8_correct_1 rfl 1 rfl ?_
  obtain ⟨g1, h⟩ := of_guard h
  obtain ⟨v2, hv2, h⟩ := bind_of h
  obtain ⟨nv2, h⟩ := of_thr h
  refine g_cVq (n := 1) (exc := []) (exr := []) C [_] _ rfl rfl [] [] rfl rfl rfl rfl (fun _ h => absurd h (by simp)) (fun _ h => absurd h (by simp)) (fun _ h => absurd h (by simp)) (fun sz => c_X8_requireExecution l μ ν a Ad w x1 _ (thr0 hv2 nv2) D E sz) rfl gw_1199 gw_1 gw_1196 gw_1198 gs_38 ⟨by decide +kernel, by decide +kernel, by decide +kernel⟩ ⟨rfl, rfl⟩ ⟨Nat.le_of_ble_eq_true rfl, Nat.le_of_ble_eq_true rfl⟩ (rcvT (lvZ g1 rfl) rfl rfl rfl) (by first | exact Nat.le_of_ble_eq_true rfl | simp [nv_cat, cat_i, cat_r, cat_n]) dX8_correct_2 ⟨by show (kc ν - kc ν0) + 0 ≤ kc r0.1.2 - kc ν0; omega, by show (ks ν - ks ν0) + 0 ≤ ks r0.1.2 - ks ν0; omega⟩ (fun r u hp hx => ?_)
  obtain ⟨er, rfl⟩ := hp
  rw [er]
  try dsimp only [List.append_nil]
  refine z_astore_n (i := 3) (lv' := [(3, nv (Ad 23) v2.2), (0, .ref (Ad 0 0)), (1, .int x1), (2, .int x2)]) C dX8_correct_5 (nv_or _ _) rfl (by decide) (by simp [nv_cat, cat_i, cat_r, cat_n]) ?_
  refine g_iload_n C dX8_correct_6 rfl 3 rfl ?_
  refine g_iconst (v := (1 : Int32)) C dX8_correct_7 (by decide) ?_
  refine g_bipush (v := (100 : Int32)) C dX8_correct_8 (by decide) ?_
  obtain ⟨v3, hv3, h⟩ := bind_of h
  obtain ⟨nv3, h⟩ := of_thr h
  refine g_cSv (n := 3) (exc := []) (exr := []) C [_, _, _] _ rfl rfl [] [] rfl rfl rfl rfl (fun _ h => absurd h (by simp)) (fun _ h => absurd h (by simp)) (fun _ h => absurd h (by simp)) (fun sz => c_X8_requireRange l μ ν a Ad w x2 (1 : Int32) (100 : Int32) _ (thr0 hv3 nv3) D E sz) rfl gw_1075 gw_1 gw_1073 gw_1074 ⟨by decide +kernel, by decide +kernel, by decide +kernel⟩ ⟨rfl, rfl⟩ ⟨Nat.le_of_ble_eq_true rfl, Nat.le_of_ble_eq_true rfl⟩ (by first | exact Nat.le_of_ble_eq_true rfl | simp [nv_cat, cat_i, cat_r, cat_n]) dX8_correct_10 ⟨by show (kc ν - kc ν0) + 0 ≤ kc r0.1.2 - kc ν0; omega, by show (ks ν - ks ν0) + 0 ≤ ks r0.1.2 - ks ν0; omega⟩ (fun u hp hx => ?_)
  obtain rfl := hp
  try dsimp only [List.append_nil]
  refine z_aload_n C dX8_correct_13 rfl 0 rfl (nv_or _ _) ?_
  obtain ⟨v4, hv4, h⟩ := bind_of h
  obtain ⟨nv4, h⟩ := of_thr h
  refine g_cSv (n := 1) (exc := []) (exr := []) C [_] _ rfl rfl [] [] rfl rfl rfl rfl (fun _ h => absurd h (by simp)) (fun _ h => absurd h (by simp)) (fun _ h => absurd h (by simp)) (fun sz => c_X8_requireUnbusted l μ ν a Ad w v2.2 _ (thr0 hv4 nv4) D E sz) rfl gw_1203 gw_1 gw_1201 gw_1202 ⟨by decide +kernel, by decide +kernel, by decide +kernel⟩ ⟨rfl, rfl⟩ ⟨Nat.le_of_ble_eq_true rfl, Nat.le_of_ble_eq_true rfl⟩ (by first | exact Nat.le_of_ble_eq_true rfl | simp [nv_cat, cat_i, cat_r, cat_n]) dX8_correct_14 ⟨by show (kc ν - kc ν0) + 0 ≤ kc r0.1.2 - kc ν0; omega, by show (ks ν - ks ν0) + 0 ≤ ks r0.1.2 - ks ν0; omega⟩ (fun u hp hx => ?_)
  obtain rfl := hp
  try dsimp only [List.append_nil]
  refine g_lv [1, 2, 3, 0] rfl ?_
  obtain ⟨rz, hrz, h⟩ := bind_of h
  obtain rfl := congrArg Prod.snd (Option.some.inj h)
  exact lb_X8_correct_17 C hEv hr hz hm0 hp0   hrz
theorem m_X8_correct {w : Nat} {μ : MP} {ν : NC} {x1 : Int32} {x2 : Int32} {r0 : (MP × NC) × Int32} (h : f_X8_correct w μ ν x1 x2 = some (0, r0)) : mn ν r0.1.2 := mb_X8_correct_0 h
theorem c_X8_correct (l : Launch) (B : Nat × (Nat → Nat)) (μ : MP) (ν : NC) (a : AS) (Ad : Nat → Nat → Nat) (w : Nat) (x1 : Int32) (x2 : Int32) (r0 : (MP × NC) × Int32) (h : f_X8_correct w μ ν x1 x2 = some (0, r0)) : ∀ D E sz, Met l yX8_correct gwX8_correct ({ frames := 8, cells := kc r0.1.2 - kc ν, slots := ks r0.1.2 - ks ν, locals := 246 } : Room) (cPe D E sz B (zS μ ν a Ad) [] [] [.ref (Ad 0 0), .int x1, .int x2]) (cQ D E sz (zS μ ν a Ad) [] (pI (fun r u => r = r0.2 ∧ ∃ A1, u = (zS r0.1.1 r0.1.2 a A1, []) ∧ kp ν Ad A1))) (kc r0.1.2 - kc ν) (ks r0.1.2 - ks ν) (Aof (zS μ ν a Ad) [] sz) := by
  intro D E sz
  refine g_ofe (cc := cX8_correct) (maxL := 5) (ret := (some .int)) (own := "TradeLine") (by decide) rfl rfl (Nat.le_of_ble_eq_true rfl) ?_
  intro p e s m args below meth c C hr hin hz ha hwr hEv
  refine g_lv (lv' := [(0, .ref (Ad 0 0)), (1, .int x1), (2, .int x2)]) [0, 1, 2] rfl ?_
  refine g_widen (k := kc ν - kc ν) (n := ks ν - ks ν) (Nat.zero_le _) (Nat.zero_le _) ?_
  exact lb_X8_correct_0 C hEv hr hz (mn_rfl _) (kp_rfl _ _) h
set_option maxHeartbeats 4000000 in
set_option maxRecDepth 100000 in
theorem lx_X8_correct_0 {p : Program} {l : Launch} {e : Env} {s : State} {m : MethodId} {args : Array Value} {below : List Frame} {meth : Method} {c : Code} {D : va_G} {E : Nat → ClassId} {sz : Nat} {μ : MP} {ν : NC} {a : AS} {Ad : Nat → Nat → Nat} {w nx : Nat} {B : Nat × (Nat → Nat)} {r0 : (MP × NC) × Int32} (C : cx p s m args meth c D E (Aof (zS μ ν a Ad) [] s.heap.size) cX8_correct 5 "TradeLine") (hEv : eV (Ad 30 0) (Ad 31 0) B (Aof (zS μ ν a Ad) [] s.heap.size) s s.heap) (hl : l.stackTraces = false) (hT : ∀ x ∈ c.exceptionTable.toList, False) (hz : s.heap.size = sz) {x1 : Int32} {x2 : Int32} (h : f_X8_correct  w μ ν x1 x2 = some (nx + 1, r0)) : G p l e ({ frames := 8, cells := 1, slots := 6, locals := 246 } : Room) s m args below meth c D E (Aof (zS μ ν a Ad) [] s.heap.size) 5 (vx_MQ below (fun _ _ _ _ => False) (cX D E sz (zS μ ν a Ad) (nx + 1)) args s 1 6 (Aof (zS μ ν a Ad) [] s.heap.size)) (zS μ ν a Ad) [] 0 0 0 [(0, .ref (Ad 0 0)), (1, .int x1), (2, .int x2)] [] := by
  unfold f_X8_correct at h
  refine g_aload_n C dX8_correct_0 rfl 0 rfl ?_
  refine g_iload_n C dX8_correct_1 rfl 1 rfl ?_
  obtain ⟨g1, h⟩ := of_guard h
  obtain ⟨v2, hv2, h⟩ := bind_of h
  rcases of_thx h with ⟨nv2, h⟩ | nv2
  · refine g_cVq (n := 1) (exc := []) (exr := []) C [_] _ rfl rfl [] [] rfl rfl rfl rfl (fun _ h => absurd h (by simp)) (fun _ h => absurd h (by simp)) (fun _ h => absurd h (by simp)) (fun sz => c_X8_requireExecution l μ ν a Ad w x1 _ (thr0 hv2 nv2) D E sz) rfl gw_1199 gw_1 gw_1196 gw_1198 gs_38 ⟨by decide +kernel, by decide +kernel, by decide +kernel⟩ ⟨rfl, rfl⟩ ⟨Nat.le_of_ble_eq_true rfl, Nat.le_of_ble_eq_true rfl⟩ (rcvT (lvZ g1 rfl) rfl rfl rfl) (by first | exact Nat.le_of_ble_eq_true rfl | simp [nv_cat, cat_i, cat_r, cat_n]) dX8_correct_2 ⟨by decide, by decide⟩ (fun r u hp hx => ?_)
    obtain ⟨er, rfl⟩ := hp
    rw [er]
    try dsimp only [List.append_nil]
    refine z_astore_n (i := 3) (lv' := [(3, nv (Ad 23) v2.2), (0, .ref (Ad 0 0)), (1, .int x1), (2, .int x2)]) C dX8_correct_5 (nv_or _ _) rfl (by decide) (by simp [nv_cat, cat_i, cat_r, cat_n]) ?_
    refine g_iload_n C dX8_correct_6 rfl 3 rfl ?_
    refine g_iconst (v := (1 : Int32)) C dX8_correct_7 (by decide) ?_
    refine g_bipush (v := (100 : Int32)) C dX8_correct_8 (by decide) ?_
    obtain ⟨v3, hv3, h⟩ := bind_of h
    rcases of_thx h with ⟨nv3, h⟩ | nv3
    · refine g_cSv (n := 3) (exc := []) (exr := []) C [_, _, _] _ rfl rfl [] [] rfl rfl rfl rfl (fun _ h => absurd h (by simp)) (fun _ h => absurd h (by simp)) (fun _ h => absurd h (by simp)) (fun sz => c_X8_requireRange l μ ν a Ad w x2 (1 : Int32) (100 : Int32) _ (thr0 hv3 nv3) D E sz) rfl gw_1075 gw_1 gw_1073 gw_1074 ⟨by decide +kernel, by decide +kernel, by decide +kernel⟩ ⟨rfl, rfl⟩ ⟨Nat.le_of_ble_eq_true rfl, Nat.le_of_ble_eq_true rfl⟩ (by first | exact Nat.le_of_ble_eq_true rfl | simp [nv_cat, cat_i, cat_r, cat_n]) dX8_correct_10 ⟨by decide, by decide⟩ (fun u hp hx => ?_)
      obtain rfl := hp
      try dsimp only [List.append_nil]
      refine z_aload_n C dX8_correct_13 rfl 0 rfl (nv_or _ _) ?_
      obtain ⟨v4, hv4, h⟩ := bind_of h
      rcases of_thx h with ⟨nv4, h⟩ | nv4
      · refine g_cSv (n := 1) (exc := []) (exr := []) C [_] _ rfl rfl [] [] rfl rfl rfl rfl (fun _ h => absurd h (by simp)) (fun _ h => absurd h (by simp)) (fun _ h => absurd h (by simp)) (fun sz => c_X8_requireUnbusted l μ ν a Ad w v2.2 _ (thr0 hv4 nv4) D E sz) rfl gw_1203 gw_1 gw_1201 gw_1202 ⟨by decide +kernel, by decide +kernel, by decide +kernel⟩ ⟨rfl, rfl⟩ ⟨Nat.le_of_ble_eq_true rfl, Nat.le_of_ble_eq_true rfl⟩ (by first | exact Nat.le_of_ble_eq_true rfl | simp [nv_cat, cat_i, cat_r, cat_n]) dX8_correct_14 ⟨by decide, by decide⟩ (fun u hp hx => ?_)
        obtain rfl := hp
        try dsimp only [List.append_nil]
        obtain ⟨_, _, h⟩ := bind_of h
        exact absurd (congrArg Prod.fst (Option.some.inj h)) (by simp)
      · exact g_xS (index := 1) C hEv ⟨rfl, rfl⟩ hT hz [_] _ rfl rfl (fun sz => x_X8_requireUnbusted l hl B μ ν a Ad w v2.2 _ _ (thrS hv4 nv4) D E sz) rfl gw_1203 gw_1 gw_1201 gw_1202 ⟨by decide +kernel, by decide +kernel, by decide +kernel⟩ ⟨rfl, rfl⟩ ⟨Nat.le_of_ble_eq_true rfl, Nat.le_of_ble_eq_true rfl⟩ (Nat.le_of_ble_eq_true rfl) dX8_correct_14 ⟨by decide, by decide⟩
    · exact g_xS (index := 3) C hEv ⟨rfl, rfl⟩ hT hz [_, _, _] _ rfl rfl (fun sz => x_X8_requireRange l hl B μ ν a Ad w x2 (1 : Int32) (100 : Int32) _ _ (thrS hv3 nv3) D E sz) rfl gw_1075 gw_1 gw_1073 gw_1074 ⟨by decide +kernel, by decide +kernel, by decide +kernel⟩ ⟨rfl, rfl⟩ ⟨Nat.le_of_ble_eq_true rfl, Nat.le_of_ble_eq_true rfl⟩ (Nat.le_of_ble_eq_true rfl) dX8_correct_10 ⟨by decide, by decide⟩
  · exact g_xV (index := 1) C hEv ⟨rfl, rfl⟩ hT hz [_] _ rfl rfl (fun sz => x_X8_requireExecution l hl B μ ν a Ad w x1 _ _ (thrS hv2 nv2) D E sz) rfl gw_1199 gw_1 gw_1196 gw_1198 gs_38 ⟨by decide +kernel, by decide +kernel, by decide +kernel⟩ ⟨rfl, rfl⟩ ⟨Nat.le_of_ble_eq_true rfl, Nat.le_of_ble_eq_true rfl⟩ (rcvT (lvZ g1 rfl) rfl rfl rfl) (Nat.le_of_ble_eq_true rfl) dX8_correct_2 ⟨by decide, by decide⟩
theorem x_X8_correct (l : Launch) (hl : l.stackTraces = false) (B : Nat × (Nat → Nat)) (μ : MP) (ν : NC) (a : AS) (Ad : Nat → Nat → Nat) (w : Nat) (x1 : Int32) (x2 : Int32) (nx : Nat) (r0 : (MP × NC) × Int32) (h : f_X8_correct w μ ν x1 x2 = some (nx + 1, r0)) : ∀ D E sz, vx_Met l yX8_correct gwX8_correct ({ frames := 8, cells := 1, slots := 6, locals := 246 } : Room) (cPe D E sz B (zS μ ν a Ad) [] [] [.ref (Ad 0 0), .int x1, .int x2]) (fun _ _ _ _ => False) (cX D E sz (zS μ ν a Ad) (nx + 1)) 1 6 (Aof (zS μ ν a Ad) [] sz) := by
  intro D E sz
  refine g_ofx (cc := cX8_correct) (maxL := 5) (ret := (some .int)) (own := "TradeLine") (by decide) rfl rfl (Nat.le_of_ble_eq_true rfl) ?_
  intro p e s m args below meth c C hT hz ha hEv
  refine g_lv (lv' := [(0, .ref (Ad 0 0)), (1, .int x1), (2, .int x2)]) [0, 1, 2] rfl ?_
  exact lx_X8_correct_0 C hEv hl hT hz h
