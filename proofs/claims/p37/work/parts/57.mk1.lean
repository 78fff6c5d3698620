noncomputable def b_X8_askForExpected_64  (w : Nat) (μ : MP) (ν : NC) : Option ((MP × NC) × Int32) := some ((μ, ν), (0 : Int32))
theorem mb_X8_askForExpected_64 {w : Nat} {μ : MP} {ν : NC} {r0 : (MP × NC) × Int32}   (h : b_X8_askForExpected_64  w μ ν  = some r0) : mn ν r0.1.2 := by
  unfold b_X8_askForExpected_64 at h
  iterate 40 (try first | (with_reducible replace h := (of_guard h).2) | (with_reducible (replace h := of_guardP h; obtain ⟨hg, h⟩ := h)) | (with_reducible replace h := yl_of h rfl) | (with_reducible replace h := (of_thr h).2) | (with_reducible (replace h := bind_of h; obtain ⟨v, hv, h⟩ := h)) | (with_reducible split at h) | (with_reducible (replace h := Option.some.inj h; obtain rfl := h; exact mn_rfl _)) | (with_reducible exact absurd (congrArg Prod.fst (Option.some.inj h)) (by simp)))
set_option maxHeartbeats 4000000 in
set_option maxRecDepth 100000 in
theorem lb_X8_askForExpected_64 {p : Program} {l : Launch} {e : Env} {s : State} {m : MethodId} {args : Array Value} {below : List Frame} {meth : Method} {c : Code} {D : va_G} {E : Nat → ClassId} {sz : Nat} {μ0 : MP} {ν0 : NC} {a : AS} {Ad0 : Nat → Nat → Nat} {w : Nat} {B : Nat × (Nat → Nat)} {r0 : (MP × NC) × Int32} (C : cx p s m args meth c D E (Aof (zS μ0 ν0 a Ad0) [] s.heap.size) cX8_askForExpected 4 "TradeLine") (hEv : eV (Ad0 30 0) (Ad0 31 0) B (Aof (zS μ0 ν0 a Ad0) [] s.heap.size) s s.heap) (hr : meth.sig.returnType = none) (hz : s.heap.size = sz) {μ : MP} {ν : NC} {Ad : Nat → Nat → Nat} (hm0 : mn ν0 ν) (hp0 : kp ν0 Ad0 Ad)   (h : b_X8_askForExpected_64  w μ ν  = some r0) : G p l e ({ frames := 8, cells := kc r0.1.2 - kc ν0, slots := ks r0.1.2 - ks ν0, locals := 246 } : Room) s m args below meth c D E (Aof (zS μ0 ν0 a Ad0) [] s.heap.size) 4 (MQ below (cQ D E sz (zS μ0 ν0 a Ad0) [] (pV (fun u => ∃ A1, u = (zS r0.1.1 r0.1.2 a A1, []) ∧ kp ν0 Ad0 A1))) args s (kc r0.1.2 - kc ν0) (ks r0.1.2 - ks ν0) (Aof (zS μ0 ν0 a Ad0) [] s.heap.size)) (zS μ ν a Ad) [] (kc ν - kc ν0) (ks ν - ks ν0) 64 [(0, .ref (Ad 0 0))] [] := by
  have m0 := mb_X8_askForExpected_64  h
  have e1 := m0.2.1; have e2 := m0.2.2.1; have e3 := hm0.2.1; have e4 := hm0.2.2.1
  unfold b_X8_askForExpected_64 at h
  obtain rfl := Option.some.inj h
  exact g_vret C hr hz ⟨(hm0.2.2.2 30 (by decide) (by decide)).1, (hm0.2.2.2 31 (by decide) (by decide)).1, hp0.2.1, hp0.2.2⟩ ⟨Ad, rfl, hp0⟩ (fun j x h => by simp at h) dX8_askForExpected_64
noncomputable def b_X8_askForExpected_52  (w : Nat) (μ : MP) (ν : NC) (x3 : Int32) (s1 : Int32) (s2 : Int32) (f0 : Nat → Int32) : Option ((MP × NC) × Int32) := bif ltB 0 (ν.2 0) then (f_X8_send_L w μ ν s2 s1 2 (up1 (up1 f0 0 (7 : Int32)) 1 x3)).bind (fun v12 => b_X8_askForExpected_64  w v12.1.1 v12.1.2 ) else none
theorem mb_X8_askForExpected_52 {w : Nat} {μ : MP} {ν : NC} {x3 : Int32} {s1 : Int32} {s2 : Int32} {f0 : Nat → Int32} {r0 : (MP × NC) × Int32}   (h : b_X8_askForExpected_52  w μ ν x3 s1 s2 f0 = some r0) : mn ν r0.1.2 := by
  unfold b_X8_askForExpected_52 at h
  iterate 40 (try first | (with_reducible replace h := (of_guard h).2) | (with_reducible (replace h := of_guardP h; obtain ⟨hg, h⟩ := h)) | (with_reducible replace h := yl_of h rfl) | (with_reducible replace h := (of_thr h).2) | (with_reducible (replace h := bind_of h; obtain ⟨v, hv, h⟩ := h)) | (with_reducible split at h) | (with_reducible (exact mn_trans (m_X8_send_L hv) (mb_X8_askForExpected_64  h))) | (with_reducible exact absurd (congrArg Prod.fst (Option.some.inj h)) (by simp)))
set_option maxHeartbeats 4000000 in
set_option maxRecDepth 100000 in
theorem lb_X8_askForExpected_52 {p : Program} {l : Launch} {e : Env} {s : State} {m : MethodId} {args : Array Value} {below : List Frame} {meth : Method} {c : Code} {D : va_G} {E : Nat → ClassId} {sz : Nat} {μ0 : MP} {ν0 : NC} {a : AS} {Ad0 : Nat → Nat → Nat} {w : Nat} {B : Nat × (Nat → Nat)} {r0 : (MP × NC) × Int32} (C : cx p s m args meth c D E (Aof (zS μ0 ν0 a Ad0) [] s.heap.size) cX8_askForExpected 4 "TradeLine") (hEv : eV (Ad0 30 0) (Ad0 31 0) B (Aof (zS μ0 ν0 a Ad0) [] s.heap.size) s s.heap) (hr : meth.sig.returnType = none) (hz : s.heap.size = sz) {μ : MP} {ν : NC} {Ad : Nat → Nat → Nat} (hm0 : mn ν0 ν) (hp0 : kp ν0 Ad0 Ad) {x3 : Int32} {s1 : Int32} {s2 : Int32} {f0 : Nat → Int32} {q0 : Nat} (hq0 : (Aof (zS μ0 ν0 a Ad0) [] s.heap.size) q0)   (h : b_X8_askForExpected_52  w μ ν x3 s1 s2 f0 = some r0) : G p l e ({ frames := 8, cells := kc r0.1.2 - kc ν0, slots := ks r0.1.2 - ks ν0, locals := 246 } : Room) s m args below meth c D E (Aof (zS μ0 ν0 a Ad0) [] s.heap.size) 4 (MQ below (cQ D E sz (zS μ0 ν0 a Ad0) [] (pV (fun u => ∃ A1, u = (zS r0.1.1 r0.1.2 a A1, []) ∧ kp ν0 Ad0 A1))) args s (kc r0.1.2 - kc ν0) (ks r0.1.2 - ks ν0) (Aof (zS μ0 ν0 a Ad0) [] s.heap.size)) (zS μ ν a Ad) [(q0, .inl (E 0, 2, .inl f0))] (kc ν - kc ν0) (ks ν - ks ν0) 52 [(0, .ref (Ad 0 0)), (3, .int x3)] [.ref q0, .int s1, .int s2, .ref (Ad 0 0)] := by
  have m0 := mb_X8_askForExpected_52  h
  have e1 := m0.2.1; have e2 := m0.2.2.1; have e3 := hm0.2.1; have e4 := hm0.2.2.1
  unfold b_X8_askForExpected_52 at h
  refine g_dup C dX8_askForExpected_52 rfl ?_
  refine g_iconst (v := (0 : Int32)) C dX8_askForExpected_53 (by decide) ?_
  refine g_bipush (v := (7 : Int32)) C dX8_askForExpected_54 (by decide) ?_
  refine g_iastL C 0 rfl hq0 (ixB_in rfl) (ex' := [(q0, .inl (E 0, 2, .inl (up1 f0 0 (7 : Int32))))]) rfl dX8_askForExpected_56 ?_
  refine g_dup C dX8_askForExpected_57 rfl ?_
  refine g_iconst (v := (1 : Int32)) C dX8_askForExpected_58 (by decide) ?_
  refine g_iload_n C dX8_askForExpected_59 rfl 1 rfl ?_
  refine g_iastL C 0 rfl hq0 (ixB_in rfl) (ex' := [(q0, .inl (E 0, 2, .inl (up1 (up1 f0 0 (7 : Int32)) 1 x3)))]) rfl dX8_askForExpected_60 ?_
  obtain ⟨g11, h⟩ := of_guard h
  obtain ⟨v12, hv12, h⟩ := bind_of h
  have m2 := m_X8_send_L hv12
  have m3 := mb_X8_askForExpected_64  h
  have a1 := hm0.2.1; have a2 := hm0.2.2.1; have b1 := m2.2.1; have b2 := m2.2.2.1; have d1 := m3.2.1; have d2 := m3.2.2.1
  refine g_lv [0] rfl ?_
  refine g_cVve (n := 3) (exc := [(q0, .inl (E 0, 2, .inl (up1 (up1 f0 0 (7 : Int32)) 1 x3)))]) (exr := []) C hEv ⟨hp0.2.1 0, hp0.2.2 0⟩ [_, _, _] _ rfl rfl [0] [] rfl rfl rfl rfl (fun _ h => by simp at h) (fun _ h => absurd h (by simp)) (fun _ h => absurd h (by simp)) (fun sz => c_X8_send_L l B μ ν a Ad w s2 s1 q0 2 (up1 (up1 f0 0 (7 : Int32)) 1 x3) _ hv12 D E sz) rfl gw_300 gw_1 gw_297 gw_299 gs_1 ⟨by decide +kernel, by decide +kernel, by decide +kernel⟩ ⟨rfl, rfl⟩ ⟨Nat.le_of_ble_eq_true rfl, Nat.le_of_ble_eq_true rfl⟩ (rcvT (lvZ g11 rfl) rfl rfl rfl) (by first | exact Nat.le_of_ble_eq_true rfl | simp [nv_cat, cat_i, cat_r, cat_n]) dX8_askForExpected_61 ⟨by show (kc ν - kc ν0) + (kc v12.1.2 - kc ν) ≤ kc r0.1.2 - kc ν0; omega, by show (ks ν - ks ν0) + (ks v12.1.2 - ks ν) ≤ ks r0.1.2 - ks ν0; omega⟩ (fun u hp hx => ?_)
  obtain ⟨A1, rfl, hkp⟩ := hp
  try dsimp only [List.append_nil]
  refine g_widen (k := kc v12.1.2 - kc ν0) (n := ks v12.1.2 - ks ν0) (by omega) (by omega) ?_
  rw [show Ad 0 0 = A1 0 0 from (hkp.1 0 _ rfl (of_decide_eq_true g11)).symm]
  exact lb_X8_askForExpected_64 C hEv hr hz (mn_trans hm0 m2) (kp_trans hp0 hm0 hkp)   h
noncomputable def b_X8_askForExpected_33  (w : Nat) (μ : MP) (ν : NC) (x1 : Int32) (p2 : Nat) (x3 : Int32) : Option ((MP × NC) × Int32) := bif nzB p2 then bif ltB (p2 - 1) (ν.2 1) then yl (uM μ 1 (p2 - 1) 5 x3) (fun m8 => bif ltB 0 (ν.2 0) then yl (uM m8 1 (p2 - 1) 6 (m8.1 0 0 9)) (fun m10 => b_X8_askForExpected_52  w m10 (chg ν 1 2) x3 (3 : Int32) x1 (fun _ => 0)) else none) else none else none
theorem mb_X8_askForExpected_33 {w : Nat} {μ : MP} {ν : NC} {x1 : Int32} {p2 : Nat} {x3 : Int32} {r0 : (MP × NC) × Int32}   (h : b_X8_askForExpected_33  w μ ν x1 p2 x3 = some r0) : mn ν r0.1.2 := by
  unfold b_X8_askForExpected_33 at h
  iterate 40 (try first | (with_reducible replace h := (of_guard h).2) | (with_reducible (replace h := of_guardP h; obtain ⟨hg, h⟩ := h)) | (with_reducible replace h := yl_of h rfl) | (with_reducible replace h := (of_thr h).2) | (with_reducible (replace h := bind_of h; obtain ⟨v, hv, h⟩ := h)) | (with_reducible split at h) | (with_reducible (exact mn_trans (mn_chg _ _ _) (mb_X8_askForExpected_52  h))) | (with_reducible exact absurd (congrArg Prod.fst (Option.some.inj h)) (by simp)))
set_option maxHeartbeats 4000000 in
set_option maxRecDepth 100000 in
theorem lb_X8_askForExpected_33 {p : Program} {l : Launch} {e : Env} {s : State} {m : MethodId} {args : Array Value} {below : List Frame} {meth : Method} {c : Code} {D : va_G} {E : Nat → ClassId} {sz : Nat} {μ0 : MP} {ν0 : NC} {a : AS} {Ad0 : Nat → Nat → Nat} {w : Nat} {B : Nat × (Nat → Nat)} {r0 : (MP × NC) × Int32} (C : cx p s m args meth c D E (Aof (zS μ0 ν0 a Ad0) [] s.heap.size) cX8_askForExpected 4 "TradeLine") (hEv : eV (Ad0 30 0) (Ad0 31 0) B (Aof (zS μ0 ν0 a Ad0) [] s.heap.size) s s.heap) (hr : meth.sig.returnType = none) (hz : s.heap.size = sz) {μ : MP} {ν : NC} {Ad : Nat → Nat → Nat} (hm0 : mn ν0 ν) (hp0 : kp ν0 Ad0 Ad) {x1 : Int32} {p2 : Nat} {x3 : Int32}   (h : b_X8_askForExpected_33  w μ ν x1 p2 x3 = some r0) : G p l e ({ frames := 8, cells := kc r0.1.2 - kc ν0, slots := ks r0.1.2 - ks ν0, locals := 246 } : Room) s m args below meth c D E (Aof (zS μ0 ν0 a Ad0) [] s.heap.size) 4 (MQ below (cQ D E sz (zS μ0 ν0 a Ad0) [] (pV (fun u => ∃ A1, u = (zS r0.1.1 r0.1.2 a A1, []) ∧ kp ν0 Ad0 A1))) args s (kc r0.1.2 - kc ν0) (ks r0.1.2 - ks ν0) (Aof (zS μ0 ν0 a Ad0) [] s.heap.size)) (zS μ ν a Ad) [] (kc ν - kc ν0) (ks ν - ks ν0) 33 [(0, .ref (Ad 0 0)), (1, .int x1), (2, nv (Ad 1) p2), (3, .int x3)] [] := by
  have m0 := mb_X8_askForExpected_33  h
  have e1 := m0.2.1; have e2 := m0.2.2.1; have e3 := hm0.2.1; have e4 := hm0.2.2.1
  unfold b_X8_askForExpected_33 at h
  refine z_aload_n C dX8_askForExpected_33 rfl 2 rfl (nv_or _ _) ?_
  refine g_iload_n C dX8_askForExpected_34 rfl 3 rfl ?_
  obtain ⟨g6, h⟩ := of_guard h
  rw [nzB_e g6]
  obtain ⟨g7, h⟩ := of_guard h
  refine z_put (k := 1) (i := (p2 - 1)) (ref := "TradeLine$Party") C rfl g7 rfl rfl rfl inGX5 tyX5 tyX5_ok nmX5 5 (by decide) gw_122 (fun _ h => h) rfl (tyX5_ok 5 (by decide)) rfl rfl (by simp [fvs]) (by simp [fvs, up1]) dX8_askForExpected_35 (fun m8 em8 => ?_)
  replace h := yl_of h em8
  refine g_aload_n C dX8_askForExpected_38 rfl 2 rfl ?_
  refine g_aload_n C dX8_askForExpected_39 rfl 0 rfl ?_
  obtain ⟨g9, h⟩ := of_guard h
  refine g_get (k := 0) (i := 0) (ref := "TradeLine") (v := .int (m8.1 0 0 9)) C rfl (lvZ g9 rfl) rfl rfl inGX8 9 (by decide) gw_179 (fun _ h => h) rfl dX8_askForExpected_40 ?_
  refine z_put (k := 1) (i := (p2 - 1)) (ref := "TradeLine$Party") C rfl g7 rfl rfl rfl inGX5 tyX5 tyX5_ok nmX5 6 (by decide) gw_123 (fun _ h => h) rfl (tyX5_ok 6 (by decide)) rfl rfl (by simp [fvs]) (by simp [fvs, up1]) dX8_askForExpected_43 (fun m10 em10 => ?_)
  replace h := yl_of h em10
  refine g_aload_n C dX8_askForExpected_46 rfl 0 rfl ?_
  refine g_iload_n C dX8_askForExpected_47 rfl 1 rfl ?_
  refine g_iconst (v := (3 : Int32)) C dX8_askForExpected_48 (by decide) ?_
  refine g_iconst (v := (2 : Int32)) C dX8_askForExpected_49 (by decide) ?_
  refine g_lv [0, 3] rfl ?_
  have m2 := mn_chg ν 1 2
  have m3 := mb_X8_askForExpected_52  h
  have a1 := hm0.2.1; have a2 := hm0.2.2.1; have b1 := m2.2.1; have b2 := m2.2.2.1; have d1 := m3.2.1; have d2 := m3.2.2.1
  rw [kc_chg] at b1 d1
  rw [ks_chg] at b2 d2
  refine g_newa (atype := .int) (ty := .int) (t := 0) (N' := 2) (a0 := (2, .inl (fun _ => 0))) C gw_95 rfl rfl (fun _ h => by cases h) (fun _ => rfl) (by decide) (by decide) (by decide) (by show (kc ν - kc ν0) + 1 ≤ kc r0.1.2 - kc ν0; omega) (by show (ks ν - ks ν0) + 2 ≤ ks r0.1.2 - ks ν0; omega) dX8_askForExpected_50 (fun q0 hq0 hs0 => ?_)
  refine g_chg 1 2 ?_
  refine g_widen (k := kc (chg ν 1 2) - kc ν0) (n := ks (chg ν 1 2) - ks ν0) (by rw [kc_chg]; omega) (by rw [ks_chg]; omega) ?_
  exact lb_X8_askForExpected_52 C hEv hr hz (mn_trans hm0 m2) hp0 hq0  h
noncomputable def f_X8_askForExpected  (w : Nat) (μ : MP) (ν : NC) (x1 : Int32) : Option ((MP × NC) × Int32) := bif ltB 0 (ν.2 0) then (f_X8_party w μ ν x1).bind (fun v2 => bif nzB v2 then bif ltB (v2 - 1) (ν.2 1) then yl ((μ.1 1 (v2 - 1) 4)) (fun t5 => (if (μ.1 1 (v2 - 1) 5) = t5 then ((if (5 : Int32) ≤ ((μ.1 0 0 9) - (μ.1 1 (v2 - 1) 6)) then (b_X8_askForExpected_33  w μ ν x1 ((v2 - 1) + 1) t5) else (some ((μ, ν), (0 : Int32))))) else (b_X8_askForExpected_33  w μ ν x1 ((v2 - 1) + 1) t5))) else none else none) else none
theorem mb_X8_askForExpected_0 {w : Nat} {μ : MP} {ν : NC} {x1 : Int32} {r0 : (MP × NC) × Int32}   (h : f_X8_askForExpected  w μ ν x1 = some r0) : mn ν r0.1.2 := by
  unfold f_X8_askForExpected at h
  iterate 40 (try first | (with_reducible replace h := (of_guard h).2) | (with_reducible (replace h := of_guardP h; obtain ⟨hg, h⟩ := h)) | (with_reducible replace h := yl_of h rfl) | (with_reducible replace h := (of_thr h).2) | (with_reducible (replace h := bind_of h; obtain ⟨v, hv, h⟩ := h)) | (with_reducible split at h) | (with_reducible (exact mb_X8_askForExpected_33  h)) | (with_reducible (replace h := Option.some.inj h; obtain rfl := h; exact mn_rfl _)) | (with_reducible exact absurd (congrArg Prod.fst (Option.some.inj h)) (by simp)))
set_option maxHeartbeats 4000000 in
set_option maxRecDepth 100000 in
theorem lb_X8_askForExpected_0 {p : Program} {l : Launch} {e : Env} {s : State} {m : MethodId} {args : Array Value} {below : List Frame} {meth : Method} {c : Code} {D : va_G} {E : Nat → ClassId} {sz : Nat} {μ0 : MP} {ν0 : NC} {a : AS} {Ad0 : Nat → Nat → Nat} {w : Nat} {B : Nat × (Nat → Nat)} {r0 : (MP × NC) × Int32} (C : cx p s m args meth c D E (Aof (zS μ0 ν0 a Ad0) [] s.heap.size) cX8_askForExpected 4 "TradeLine") (hEv : eV (Ad0 30 0) (Ad0 31 0) B (Aof (zS μ0 ν0 a Ad0) [] s.heap.size) s s.heap) (hr : meth.sig.returnType = none) (hz : s.heap.size = sz) {μ : MP} {ν : NC} {Ad : Nat → Nat → Nat} (hm0 : mn ν0 ν) (hp0 : kp ν0 Ad0 Ad) {x1 : Int32}   (h : f_X8_askForExpected  w μ ν x1 = some r0) : G p l e ({ frames := 8, cells := kc r0.1.2 - kc ν0, slots := ks r0.1.2 - ks ν0, locals := 246 } : Room) s m args below meth c D E (Aof (zS μ0 ν0 a Ad0) [] s.heap.size) 4 (MQ below (cQ D E sz (zS μ0 ν0 a Ad0) [] (pV (fun u => ∃ A1, u = (zS r0.1.1 r0.1.2 a A1, []) ∧ kp ν0 Ad0 A1))) args s (kc r0.1.2 - kc ν0) (ks r0.1.2 - ks ν0) (Aof (zS μ0 ν0 a Ad0) [] s.heap.size)) (zS μ ν a Ad) [] (kc ν - kc ν0) (ks ν - ks ν0) 0 [(0, .ref (Ad 0 0)), (1, .int x1)] [] := by
  have m0 := mb_X8_askForExpected_0  h
  have e1 := m0.2.1; have e2 := m0.2.2.1; have e3 := hm0.2.1; have e4 := hm0.2.2.1
  unfold f_X8_askForExpected at h
  refine g_aload_n C dX8_askForExpected_0 rfl 0 rfl ?_
  refine g_iload_n C dX8_askForExpected_1 rfl 1 rfl ?_
  obtain ⟨g1, h⟩ := of_guard h
  obtain ⟨v2, hv2, h⟩ := bind_of h
  refine g_cVq (n := 1) (exc := []) (exr := []) C [_] _ rfl rfl [] [] rfl rfl rfl rfl (fun _ h => absurd h (by simp)) (fun _ h => absurd h (by simp)) (fun _ h => absurd h (by simp)) (fun sz => c_X8_party l μ ν a Ad w x1 _ hv2 D E sz) rfl gw_304 gw_1 gw_301 gw_303 gs_2 ⟨by decide +kernel, by decide +kernel, by decide +kernel⟩ ⟨rfl, rfl⟩ ⟨Nat.le_of_ble_eq_true rfl, Nat.le_of_ble_eq_true rfl⟩ (rcvT (lvZ g1 rfl) rfl rfl rfl) (by first | exact Nat.le_of_ble_eq_true rfl | simp [nv_cat, cat_i, cat_r, cat_n]) dX8_askForExpected_2 ⟨by show (kc ν - kc ν0) + 0 ≤ kc r0.1.2 - kc ν0; omega, by show (ks ν - ks ν0) + 0 ≤ ks r0.1.2 - ks ν0; omega⟩ (fun r u hp hx => ?_)
  obtain ⟨er, rfl⟩ := hp
  rw [er]
  try dsimp only [List.append_nil]
  refine z_astore_n (i := 2) (lv' := [(2, nv (Ad 1) v2), (0, .ref (Ad 0 0)), (1, .int x1)]) C dX8_askForExpected_5 (nv_or _ _) rfl (by decide) (by simp [nv_cat, cat_i, cat_r, cat_n]) ?_
  refine z_aload_n C dX8_askForExpected_6 rfl 0 rfl (nv_or _ _) ?_
  obtain ⟨g3, h⟩ := of_guard h
  rw [nzB_e g3]
  obtain ⟨g4, h⟩ := of_guard h
  refine g_get (k := 1) (i := (v2 - 1)) (ref := "TradeLine$Party") (v := .int (μ.1 1 (v2 - 1) 4)) C rfl (lvZ g4 rfl) rfl rfl inGX5 4 (by decide) gw_120 (fun _ h => h) rfl dX8_askForExpected_7 ?_
  refine q_topi (fun t5 et5 => ?_)
  replace h := yl_of h et5
  refine g_istore_n (i := 3) (lv' := [(3, .int t5), (2, .ref (Ad 1 (v2 - 1))), (0, .ref (Ad 0 0)), (1, .int x1)]) C dX8_askForExpected_10 rfl (by decide) rfl ?_
  refine g_aload_n C dX8_askForExpected_11 rfl 1 rfl ?_
  refine g_get (k := 1) (i := (v2 - 1)) (ref := "TradeLine$Party") (v := .int (μ.1 1 (v2 - 1) 5)) C rfl (lvZ g4 rfl) rfl rfl inGX5 5 (by decide) gw_122 (fun _ h => h) rfl dX8_askForExpected_12 ?_
  refine g_iload_n C dX8_askForExpected_15 rfl 0 rfl ?_
  refine g_icmp_ne (tgt := 33) C dX8_askForExpected_16 (by decide) (fun c16 => ?_) (fun c16 => ?_)
  · replace h := (if_neg c16).symm.trans h
    refine g_lv [2, 3, 1, 0] rfl ?_
    exact lb_X8_askForExpected_33 C hEv hr hz hm0 hp0   h
  · replace h := (if_pos c16).symm.trans h
    refine g_aload_n C dX8_askForExpected_19 rfl 2 rfl ?_
    refine g_get (k := 0) (i := 0) (ref := "TradeLine") (v := .int (μ.1 0 0 9)) C rfl (lvZ g1 rfl) rfl rfl inGX8 9 (by decide) gw_179 (fun _ h => h) rfl dX8_askForExpected_20 ?_
    refine g_aload_n C dX8_askForExpected_23 rfl 1 rfl ?_
    refine g_get (k := 1) (i := (v2 - 1)) (ref := "TradeLine$Party") (v := .int (μ.1 1 (v2 - 1) 6)) C rfl (lvZ g4 rfl) rfl rfl inGX5 6 (by decide) gw_123 (fun _ h => h) rfl dX8_askForExpected_24 ?_
    refine g_isub C dX8_askForExpected_27 ?_
    refine g_iconst (v := (5 : Int32)) C dX8_askForExpected_28 (by decide) ?_
    refine g_icmp_ge (tgt := 33) C dX8_askForExpected_29 (by decide) (fun c29 => ?_) (fun c29 => ?_)
    · replace h := (if_pos c29).symm.trans h
      refine g_lv [2, 3, 1, 0] rfl ?_
      exact lb_X8_askForExpected_33 C hEv hr hz hm0 hp0   h
    · replace h := (if_neg c29).symm.trans h
      obtain rfl := Option.some.inj h
      exact g_vret C hr hz ⟨(hm0.2.2.2 30 (by decide) (by decide)).1, (hm0.2.2.2 31 (by decide) (by decide)).1, hp0.2.1, hp0.2.2⟩ ⟨Ad, rfl, hp0⟩ (fun j x h => by simp at h) dX8_askForExpected_32
theorem m_X8_askForExpected {w : Nat} {μ : MP} {ν : NC} {x1 : Int32} {r0 : (MP × NC) × Int32} (h : f_X8_askForExpected w μ ν x1 = some r0) : mn ν r0.1.2 := mb_X8_askForExpected_0 h
theorem c_X8_askForExpected (l : Launch) (B : Nat × (Nat → Nat)) (μ : MP) (ν : NC) (a : AS) (Ad : Nat → Nat → Nat) (w : Nat) (x1 : Int32) (r0 : (MP × NC) × Int32) (h : f_X8_askForExpected w μ ν x1 = some r0) : ∀ D E sz, Met l yX8_askForExpected gwX8_askForExpected ({ frames := 8, cells := kc r0.1.2 - kc ν, slots := ks r0.1.2 - ks ν, locals := 246 } : Room) (cPe D E sz B (zS μ ν a Ad) [] [] [.ref (Ad 0 0), .int x1]) (cQ D E sz (zS μ ν a Ad) [] (pV (fun u => ∃ A1, u = (zS r0.1.1 r0.1.2 a A1, []) ∧ kp ν Ad A1))) (kc r0.1.2 - kc ν) (ks r0.1.2 - ks ν) (Aof (zS μ ν a Ad) [] sz) := by
  intro D E sz
  refine g_ofe (cc := cX8_askForExpected) (maxL := 4) (ret := none) (own := "TradeLine") (by decide) rfl rfl (Nat.le_of_ble_eq_true rfl) ?_
  intro p e s m args below meth c C hr hin hz ha hwr hEv
  refine g_lv (lv' := [(0, .ref (Ad 0 0)), (1, .int x1)]) [0, 1] rfl ?_
  refine g_widen (k := kc ν - kc ν) (n := ks ν - ks ν) (Nat.zero_le _) (Nat.zero_le _) ?_
  exact lb_X8_askForExpected_0 C hEv hr hz (mn_rfl _) (kp_rfl _ _) h
noncomputable def b_X8_answer_151  (w : Nat) (μ : MP) (ν : NC) : Option ((MP × NC) × Int32) := some ((μ, ν), (0 : Int32))
theorem mb_X8_answer_151 {w : Nat} {μ : MP} {ν : NC} {r0 : (MP × NC) × Int32}   (h : b_X8_answer_151  w μ ν  = some r0) : mn ν r0.1.2 := by
  unfold b_X8_answer_151 at h
  iterate 40 (try first | (with_reducible replace h := (of_guard h).2) | (with_reducible (replace h := of_guardP h; obtain ⟨hg, h⟩ := h)) | (with_reducible replace h := yl_of h rfl) | (with_reducible replace h := (of_thr h).2) | (with_reducible (replace h := bind_of h; obtain ⟨v, hv, h⟩ := h)) | (with_reducible split at h) | (with_reducible (replace h := Option.some.inj h; obtain rfl := h; exact mn_rfl _)) | (with_reducible exact absurd (congrArg Prod.fst (Option.some.inj h)) (by simp)))
set_option maxHeartbeats 4000000 in
set_option maxRecDepth 100000 in
theorem lb_X8_answer_151 {p : Program} {l : Launch} {e : Env} {s : State} {m : MethodId} {args : Array Value} {below : List Frame} {meth : Method} {c : Code} {D : va_G} {E : Nat → ClassId} {sz : Nat} {μ0 : MP} {ν0 : NC} {a : AS} {Ad0 : Nat → Nat → Nat} {w : Nat} {B : Nat × (Nat → Nat)} {r0 : (MP × NC) × Int32} (C : cx p s m args meth c D E (Aof (zS μ0 ν0 a Ad0) [] s.heap.size) cX8_answer 9 "TradeLine") (hEv : eV (Ad0 30 0) (Ad0 31 0) B (Aof (zS μ0 ν0 a Ad0) [] s.heap.size) s s.heap) (hr : meth.sig.returnType = none) (hz : s.heap.size = sz) {μ : MP} {ν : NC} {Ad : Nat → Nat → Nat} (hm0 : mn ν0 ν) (hp0 : kp ν0 Ad0 Ad)   (h : b_X8_answer_151  w μ ν  = some r0) : G p l e ({ frames := 5, cells := kc r0.1.2 - kc ν0, slots := ks r0.1.2 - ks ν0, locals := 124 } : Room) s m args below meth c D E (Aof (zS μ0 ν0 a Ad0) [] s.heap.size) 9 (MQ below (cQ D E sz (zS μ0 ν0 a Ad0) [] (pV (fun u => ∃ A1, u = (zS r0.1.1 r0.1.2 a A1, []) ∧ kp ν0 Ad0 A1))) args s (kc r0.1.2 - kc ν0) (ks r0.1.2 - ks ν0) (Aof (zS μ0 ν0 a Ad0) [] s.heap.size)) (zS μ ν a Ad) [] (kc ν - kc ν0) (ks ν - ks ν0) 151 [(0, .ref (Ad 0 0))] [] := by
  have m0 := mb_X8_answer_151  h
  have e1 := m0.2.1; have e2 := m0.2.2.1; have e3 := hm0.2.1; have e4 := hm0.2.2.1
  unfold b_X8_answer_151 at h
  obtain rfl := Option.some.inj h
  exact g_vret C hr hz ⟨(hm0.2.2.2 30 (by decide) (by decide)).1, (hm0.2.2.2 31 (by decide) (by decide)).1, hp0.2.1, hp0.2.2⟩ ⟨Ad, rfl, hp0⟩ (fun j x h => by simp at h) dX8_answer_151
noncomputable def b_X8_answer_121 (k38 : MP → NC → Nat → Nat → Int32 → Int32 → Int32 → Option ((MP × NC) × Int32)) (w : Nat) (μ : MP) (ν : NC) (p3 : Nat) (p4 : Nat) (x5 : Int32) (x6 : Int32) (x7 : Int32) : Option ((MP × NC) × Int32) := bif ltB 0 (ν.2 0) then bif nzB p3 then bif ltB (p3 - 1) (ν.2 1) then yl (uM μ 1 (p3 - 1) 7 (μ.1 0 0 9)) (fun m24 => yl (x7 + (1 : Int32)) (fun t25 => k38 m24 ν ((p3 - 1) + 1) p4 x5 x6 t25)) else none else none else none
theorem mb_X8_answer_121 {w : Nat} {μ : MP} {ν : NC} {p3 : Nat} {p4 : Nat} {x5 : Int32} {x6 : Int32} {x7 : Int32} {r0 : (MP × NC) × Int32} {k38 : MP → NC → Nat → Nat → Int32 → Int32 → Int32 → Option ((MP × NC) × Int32)} (hmk38 : ∀ (μ : MP) (ν : NC) (z3 : Nat) (z4 : Nat) (z5 : Int32) (z6 : Int32) (z7 : Int32), k38 μ ν z3 z4 z5 z6 z7 = some r0 → mn ν r0.1.2) (h : b_X8_answer_121 k38 w μ ν p3 p4 x5 x6 x7 = some r0) : mn ν r0.1.2 := by
  unfold b_X8_answer_121 at h
  iterate 40 (try first | (with_reducible replace h := (of_guard h).2) | (with_reducible (replace h := of_guardP h; obtain ⟨hg, h⟩ := h)) | (with_reducible replace h := yl_of h rfl) | (with_reducible replace h := (of_thr h).2) | (with_reducible (replace h := bind_of h; obtain ⟨v, hv, h⟩ := h)) | (with_reducible split at h) | (with_reducible (exact hmk38 _ _ _ _ _ _ _ h)) | (with_reducible exact absurd (congrArg Prod.fst (Option.some.inj h)) (by simp)))
set_option maxHeartbeats 4000000 in
set_option maxRecDepth 100000 in
theorem lb_X8_answer_121 {p : Program} {l : Launch} {e : Env} {s : State} {m : MethodId} {args : Array Value} {below : List Frame} {meth : Method} {c : Code} {D : va_G} {E : Nat → ClassId} {sz : Nat} {μ0 : MP} {ν0 : NC} {a : AS} {Ad0 : Nat → Nat → Nat} {w : Nat} {B : Nat × (Nat → Nat)} {r0 : (MP × NC) × Int32} (C : cx p s m args meth c D E (Aof (zS μ0 ν0 a Ad0) [] s.heap.size) cX8_answer 9 "TradeLine") (hEv : eV (Ad0 30 0) (Ad0 31 0) B (Aof (zS μ0 ν0 a Ad0) [] s.heap.size) s s.heap) (hr : meth.sig.returnType = none) (hz : s.heap.size = sz) {μ : MP} {ν : NC} {Ad : Nat → Nat → Nat} (hm0 : mn ν0 ν) (hp0 : kp ν0 Ad0 Ad) {p3 : Nat} {p4 : Nat} {x5 : Int32} {x6 : Int32} {x7 : Int32} {k38 : MP → NC → Nat → Nat → Int32 → Int32 → Int32 → Option ((MP × NC) × Int32)} (hmk38 : ∀ (μ : MP) (ν : NC) (z3 : Nat) (z4 : Nat) (z5 : Int32) (z6 : Int32) (z7 : Int32), k38 μ ν z3 z4 z5 z6 z7 = some r0 → mn ν r0.1.2) (hk38 : ∀ (μ : MP) (ν : NC) (Ad : Nat → Nat → Nat) (z3 : Nat) (z4 : Nat) (z5 : Int32) (z6 : Int32) (z7 : Int32), mn ν0 ν → kp ν0 Ad0 Ad → k38 μ ν z3 z4 z5 z6 z7 = some r0 → G p l e ({ frames := 5, cells := kc r0.1.2 - kc ν0, slots := ks r0.1.2 - ks ν0, locals := 124 } : Room) s m args below meth c D E (Aof (zS μ0 ν0 a Ad0) [] s.heap.size) 9 (MQ below (cQ D E sz (zS μ0 ν0 a Ad0) [] (pV (fun u => ∃ A1, u = (zS r0.1.1 r0.1.2 a A1, []) ∧ kp ν0 Ad0 A1))) args s (kc r0.1.2 - kc ν0) (ks r0.1.2 - ks ν0) (Aof (zS μ0 ν0 a Ad0) [] s.heap.size)) (zS μ ν a Ad) [] (kc ν - kc ν0) (ks ν - ks ν0) 38 [(0, .ref (Ad 0 0)), (3, nv (Ad 1) z3), (4, nv (Ad 2) z4), (5, .int z5), (6, .int z6), (7, .int z7)] []) (h : b_X8_answer_121 k38 w μ ν p3 p4 x5 x6 x7 = some r0) : G p l e ({ frames := 5, cells := kc r0.1.2 - kc ν0, slots := ks r0.1.2 - ks ν0, locals := 124 } : Room) s m args below meth c D E (Aof (zS μ0 ν0 a Ad0) [] s.heap.size) 9 (MQ below (cQ D E sz (zS μ0 ν0 a Ad0) [] (pV (fun u => ∃ A1, u = (zS r0.1.1 r0.1.2 a A1, []) ∧ kp ν0 Ad0 A1))) args s (kc r0.1.2 - kc ν0) (ks r0.1.2 - ks ν0) (Aof (zS μ0 ν0 a Ad0) [] s.heap.size)) (zS μ ν a Ad) [] (kc ν - kc ν0) (ks ν - ks ν0) 121 [(0, .ref (Ad 0 0)), (3, nv (Ad 1) p3), (4, nv (Ad 2) p4), (5, .int x5), (6, .int x6), (7, .int x7)] [] := by
  have m0 := mb_X8_answer_121 hmk38 h
  have e1 := m0.2.1; have e2 := m0.2.2.1; have e3 := hm0.2.1; have e4 := hm0.2.2.1
  unfold b_X8_answer_121 at h
  refine z_aload_n C dX8_answer_121 rfl 1 rfl (nv_or _ _) ?_
  refine g_aload_n C dX8_answer_122 rfl 0 rfl ?_
  obtain ⟨g21, h⟩ := of_guard h
  refine g_get (k := 0) (i := 0) (ref := "TradeLine") (v := .int (μ.1 0 0 9)) C rfl (lvZ g21 rfl) rfl rfl inGX8 9 (by decide) gw_179 (fun _ h => h) rfl dX8_answer_123 ?_
  obtain ⟨g22, h⟩ := of_guard h
  rw [nzB_e g22]
  obtain ⟨g23, h⟩ := of_guard h
  refine z_put (k := 1) (i := (p3 - 1)) (ref := "TradeLine$Party") C rfl g23 rfl rfl rfl inGX5 tyX5 tyX5_ok nmX5 7 (by decide) gw_124 (fun _ h => h) rfl (tyX5_ok 7 (by decide)) rfl rfl (by simp [fvs]) (by simp [fvs, up1]) dX8_answer_126 (fun m24 em24 => ?_)
  replace h := yl_of h em24
  obtain ⟨t25, et25⟩ : ∃ y : Int32, x7 + (1 : Int32) = y := ⟨_, rfl⟩
  replace h := yl_of h et25
  refine g_iinc (v := t25) (lv' := [(7, .int t25), (0, .ref (Ad 0 0)), (3, .ref (Ad 1 (p3 - 1))), (4, nv (Ad 2) p4), (5, .int x5), (6, .int x6)]) C dX8_answer_129 5 rfl (by rw [← et25]; rfl) (by decide) (by simp [nv_cat, cat_i, cat_r, cat_n]) ?_
  refine g_goto (tgt := 38) C dX8_answer_132 (by decide) ?_
  refine g_lv [1, 2, 3, 4, 5, 0] rfl ?_
  exact hk38 _ _ _ _ _ _ _ _ hm0 hp0 h
noncomputable def b_X8_answer_119 (k38 : MP → NC → Nat → Nat → Int32 → Int32 → Int32 → Option ((MP × NC) × Int32)) (w : Nat) (μ : MP) (ν : NC) (p3 : Nat) (p4 : Nat) (x5 : Int32) (x7 : Int32) (s0 : Int32) : Option ((MP × NC) × Int32) := b_X8_answer_121 k38 w μ ν p3 p4 x5 s0 x7
theorem mb_X8_answer_119 {w : Nat} {μ : MP} {ν : NC} {p3 : Nat} {p4 : Nat} {x5 : Int32} {x7 : Int32} {s0 : Int32} {r0 : (MP × NC) × Int32} {k38 : MP → NC → Nat → Nat → Int32 → Int32 → Int32 → Option ((MP × NC) × Int32)} (hmk38 : ∀ (μ : MP) (ν : NC) (z3 : Nat) (z4 : Nat) (z5 : Int32) (z6 : Int32) (z7 : Int32), k38 μ ν z3 z4 z5 z6 z7 = some r0 → mn ν r0.1.2) (h : b_X8_answer_119 k38 w μ ν p3 p4 x5 x7 s0 = some r0) : mn ν r0.1.2 := by
  unfold b_X8_answer_119 at h
  iterate 40 (try first | (with_reducible replace h := (of_guard h).2) | (with_reducible (replace h := of_guardP h; obtain ⟨hg, h⟩ := h)) | (with_reducible replace h := yl_of h rfl) | (with_reducible replace h := (of_thr h).2) | (with_reducible (replace h := bind_of h; obtain ⟨v, hv, h⟩ := h)) | (with_reducible split at h) | (with_reducible (exact mb_X8_answer_121 hmk38 h)) | (with_reducible exact absurd (congrArg Prod.fst (Option.some.inj h)) (by simp)))
set_option maxHeartbeats 4000000 in
set_option maxRecDepth 100000 in
theorem lb_X8_answer_119 {p : Program} {l : Launch} {e : Env} {s : State} {m : MethodId} {args : Array Value} {below : List Frame} {meth : Method} {c : Code} {D : va_G} {E : Nat → ClassId} {sz : Nat} {μ0 : MP} {ν0 : NC} {a : AS} {Ad0 : Nat → Nat → Nat} {w : Nat} {B : Nat × (Nat → Nat)} {r0 : (MP × NC) × Int32} (C : cx p s m args meth c D E (Aof (zS μ0 ν0 a Ad0) [] s.heap.size) cX8_answer 9 "TradeLine") (hEv : eV (Ad0 30 0) (Ad0 31 0) B (Aof (zS μ0 ν0 a Ad0) [] s.heap.size) s s.heap) (hr : meth.sig.returnType = none) (hz : s.heap.size = sz) {μ : MP} {ν : NC} {Ad : Nat → Nat → Nat} (hm0 : mn ν0 ν) (hp0 : kp ν0 Ad0 Ad) {p3 : Nat} {p4 : Nat} {x5 : Int32} {x7 : Int32} {s0 : Int32} {k38 : MP → NC → Nat → Nat → Int32 → Int32 → Int32 → Option ((MP × NC) × Int32)} (hmk38 : ∀ (μ : MP) (ν : NC) (z3 : Nat) (z4 : Nat) (z5 : Int32) (z6 : Int32) (z7 : Int32), k38 μ ν z3 z4 z5 z6 z7 = some r0 → mn ν r0.1.2) (hk38 : ∀ (μ : MP) (ν : NC) (Ad : Nat → Nat → Nat) (z3 : Nat) (z4 : Nat) (z5 : Int32) (z6 : Int32) (z7 : Int32), mn ν0 ν → kp ν0 Ad0 Ad → k38 μ ν z3 z4 z5 z6 z7 = some r0 → G p l e ({ frames := 5, cells := kc r0.1.2 - kc ν0, slots := ks r0.1.2 - ks ν0, locals := 124 } : Room) s m args below meth c D E (Aof (zS μ0 ν0 a Ad0) [] s.heap.size) 9 (MQ below (cQ D E sz (zS μ0 ν0 a Ad0) [] (pV (fun u => ∃ A1, u = (zS r0.1.1 r0.1.2 a A1, []) ∧ kp ν0 Ad0 A1))) args s (kc r0.1.2 - kc ν0) (ks r0.1.2 - ks ν0) (Aof (zS μ0 ν0 a Ad0) [] s.heap.size)) (zS μ ν a Ad) [] (kc ν - kc ν0) (ks ν - ks ν0) 38 [(0, .ref (Ad 0 0)), (3, nv (Ad 1) z3), (4, nv (Ad 2) z4), (5, .int z5), (6, .int z6), (7, .int z7)] []) (h : b_X8_answer_119 k38 w μ ν p3 p4 x5 x7 s0 = some r0) : G p l e ({ frames := 5, cells := kc r0.1.2 - kc ν0, slots := ks r0.1.2 - ks ν0, locals := 124 } : Room) s m args below meth c D E (Aof (zS μ0 ν0 a Ad0) [] s.heap.size) 9 (MQ below (cQ D E sz (zS μ0 ν0 a Ad0) [] (pV (fun u => ∃ A1, u = (zS r0.1.1 r0.1.2 a A1, []) ∧ kp ν0 Ad0 A1))) args s (kc r0.1.2 - kc ν0) (ks r0.1.2 - ks ν0) (Aof (zS μ0 ν0 a Ad0) [] s.heap.size)) (zS μ ν a Ad) [] (kc ν - kc ν0) (ks ν - ks ν0) 119 [(0, .ref (Ad 0 0)), (3, nv (Ad 1) p3), (4, nv (Ad 2) p4), (5, .int x5), (7, .int x7)] [.int s0] := by
  have m0 := mb_X8_answer_119 hmk38 h
  have e1 := m0.2.1; have e2 := m0.2.2.1; have e3 := hm0.2.1; have e4 := hm0.2.2.1
  unfold b_X8_answer_119 at h
  refine g_istore (lv' := [(6, .int s0), (0, .ref (Ad 0 0)), (3, nv (Ad 1) p3), (4, nv (Ad 2) p4), (5, .int x5), (7, .int x7)]) C dX8_answer_119 (by decide) (by simp [nv_cat, cat_i, cat_r, cat_n]) ?_
  refine g_lv [1, 2, 3, 4, 0, 5] rfl ?_
  exact lb_X8_answer_121 C hEv hr hz hm0 hp0  hmk38 hk38 h
noncomputable def b_X8_answer_101 (k38 : MP → NC → Nat → Nat → Int32 → Int32 → Int32 → Option ((MP × NC) × Int32)) (w : Nat) (μ : MP) (ν : NC) (p3 : Nat) (p4 : Nat) (x5 : Int32) (x6 : Int32) (x7 : Int32) (p8 : Nat) : Option ((MP × NC) × Int32) := bif ltB 0 (ν.2 0) then (f_X8_leaveOutOrderOf w μ ν p8).bind (fun v20 => (if x6 = (0 : Int32) then (b_X8_answer_119 k38 w v20.1 ν p3 p4 x5 x7 x7) else (b_X8_answer_119 k38 w v20.1 ν p3 p4 x5 x7 x6))) else none
theorem mb_X8_answer_101 {w : Nat} {μ : MP} {ν : NC} {p3 : Nat} {p4 : Nat} {x5 : Int32} {x6 : Int32} {x7 : Int32} {p8 : Nat} {r0 : (MP × NC) × Int32} {k38 : MP → NC → Nat → Nat → Int32 → Int32 → Int32 → Option ((MP × NC) × Int32)} (hmk38 : ∀ (μ : MP) (ν : NC) (z3 : Nat) (z4 : Nat) (z5 : Int32) (z6 : Int32) (z7 : Int32), k38 μ ν z3 z4 z5 z6 z7 = some r0 → mn ν r0.1.2) (h : b_X8_answer_101 k38 w μ ν p3 p4 x5 x6 x7 p8 = some r0) : mn ν r0.1.2 := by
  unfold b_X8_answer_101 at h
  iterate 40 (try first | (with_reducible replace h := (of_guard h).2) | (with_reducible (replace h := of_guardP h; obtain ⟨hg, h⟩ := h)) | (with_reducible replace h := yl_of h rfl) | (with_reducible replace h := (of_thr h).2) | (with_reducible (replace h := bind_of h; obtain ⟨v, hv, h⟩ := h)) | (with_reducible split at h) | (with_reducible (exact mb_X8_answer_119 hmk38 h)) | (with_reducible exact absurd (congrArg Prod.fst (Option.some.inj h)) (by simp)))
set_option maxHeartbeats 4000000 in
set_option maxRecDepth 100000 in
theorem lb_X8_answer_101 {p : Program} {l : Launch} {e : Env} {s : State} {m : MethodId} {args : Array Value} {below : List Frame} {meth : Method} {c : Code} {D : va_G} {E : Nat → ClassId} {sz : Nat} {μ0 : MP} {ν0 : NC} {a : AS} {Ad0 : Nat → Nat → Nat} {w : Nat} {B : Nat × (Nat → Nat)} {r0 : (MP × NC) × Int32} (C : cx p s m args meth c D E (Aof (zS μ0 ν0 a Ad0) [] s.heap.size) cX8_answer 9 "TradeLine") (hEv : eV (Ad0 30 0) (Ad0 31 0) B (Aof (zS μ0 ν0 a Ad0) [] s.heap.size) s s.heap) (hr : meth.sig.returnType = none) (hz : s.heap.size = sz) {μ : MP} {ν : NC} {Ad : Nat → Nat → Nat} (hm0 : mn ν0 ν) (hp0 : kp ν0 Ad0 Ad) {p3 : Nat} {p4 : Nat} {x5 : Int32} {x6 : Int32} {x7 : Int32} {p8 : Nat} {k38 : MP → NC → Nat → Nat → Int32 → Int32 → Int32 → Option ((MP × NC) × Int32)} (hmk38 : ∀ (μ : MP) (ν : NC) (z3 : Nat) (z4 : Nat) (z5 : Int32) (z6 : Int32) (z7 : Int32), k38 μ ν z3 z4 z5 z6 z7 = some r0 → mn ν r0.1.2) (hk38 : ∀ (μ : MP) (ν : NC) (Ad : Nat → Nat → Nat) (z3 : Nat) (z4 : Nat) (z5 : Int32) (z6 : Int32) (z7 : Int32), mn ν0 ν → kp ν0 Ad0 Ad → k38 μ ν z3 z4 z5 z6 z7 = some r0 → G p l e ({ frames := 5, cells := kc r0.1.2 - kc ν0, slots := ks r0.1.2 - ks ν0, locals := 124 } : Room) s m args below meth c D E (Aof (zS μ0 ν0 a Ad0) [] s.heap.size) 9 (MQ below (cQ D E sz (zS μ0 ν0 a Ad0) [] (pV (fun u => ∃ A1, u = (zS r0.1.1 r0.1.2 a A1, []) ∧ kp ν0 Ad0 A1))) args s (kc r0.1.2 - kc ν0) (ks r0.1.2 - ks ν0) (Aof (zS μ0 ν0 a Ad0) [] s.heap.size)) (zS μ ν a Ad) [] (kc ν - kc ν0) (ks ν - ks ν0) 38 [(0, .ref (Ad 0 0)), (3, nv (Ad 1) z3), (4, nv (Ad 2) z4), (5, .int z5), (6, .int z6), (7, .int z7)] []) (h : b_X8_answer_101 k38 w μ ν p3 p4 x5 x6 x7 p8 = some r0) : G p l e ({ frames := 5, cells := kc r0.1.2 - kc ν0, slots := ks r0.1.2 - ks ν0, locals := 124 } : Room) s m args below meth c D E (Aof (zS μ0 ν0 a Ad0) [] s.heap.size) 9 (MQ below (cQ D E sz (zS μ0 ν0 a Ad0) [] (pV (fun u => ∃ A1, u = (zS r0.1.1 r0.1.2 a A1, []) ∧ kp ν0 Ad0 A1))) args s (kc r0.1.2 - kc ν0) (ks r0.1.2 - ks ν0) (Aof (zS μ0 ν0 a Ad0) [] s.heap.size)) (zS μ ν a Ad) [] (kc ν - kc ν0) (ks ν - ks ν0) 101 [(0, .ref (Ad 0 0)), (3, nv (Ad 1) p3), (4, nv (Ad 2) p4), (5, .int x5), (6, .int x6), (7, .int x7), (8, nv (Ad 6) p8)] [] := by
  have m0 := mb_X8_answer_101 hmk38 h
  have e1 := m0.2.1; have e2 := m0.2.2.1; have e3 := hm0.2.1; have e4 := hm0.2.2.1
  unfold b_X8_answer_101 at h
  refine g_aload_n C dX8_answer_101 rfl 0 rfl ?_
  refine z_aload C dX8_answer_102 6 rfl (nv_or _ _) ?_
  obtain ⟨g19, h⟩ := of_guard h
  obtain ⟨v20, hv20, h⟩ := bind_of h
  refine g_cVv (n := 1) (exc := []) (exr := []) C [_] _ rfl rfl [] [] rfl rfl rfl rfl (fun _ h => absurd h (by simp)) (fun _ h => absurd h (by simp)) (fun _ h => absurd h (by simp)) (fun sz => c_X8_leaveOutOrderOf l μ ν a Ad w p8 _ hv20 D E sz) rfl gw_571 gw_1 gw_568 gw_570 gs_12 ⟨by decide +kernel, by decide +kernel, by decide +kernel⟩ ⟨rfl, rfl⟩ ⟨Nat.le_of_ble_eq_true rfl, Nat.le_of_ble_eq_true rfl⟩ (rcvT (lvZ g19 rfl) rfl rfl rfl) (by first | exact Nat.le_of_ble_eq_true rfl | simp [nv_cat, cat_i, cat_r, cat_n]) dX8_answer_104 ⟨by show (kc ν - kc ν0) + 0 ≤ kc r0.1.2 - kc ν0; omega, by show (ks ν - ks ν0) + 0 ≤ ks r0.1.2 - ks ν0; omega⟩ (fun u hp hx => ?_)
  obtain rfl := hp
  try dsimp only [List.append_nil]
  refine g_iload C dX8_answer_107 4 rfl ?_
  refine g_if_ne (tgt := 117) C dX8_answer_109 (by decide) (fun c109 => ?_) (fun c109 => ?_)
  · replace h := (if_neg c109).symm.trans h
    refine g_iload C dX8_answer_117 4 rfl ?_
    refine g_lv [0, 1, 2, 3, 5] rfl ?_
    exact lb_X8_answer_119 C hEv hr hz hm0 hp0  hmk38 hk38 h
  · replace h := (if_pos c109).symm.trans h
    refine g_iload C dX8_answer_112 5 rfl ?_
    refine g_goto (tgt := 119) C dX8_answer_114 (by decide) ?_
    refine g_lv [0, 1, 2, 3, 5] rfl ?_
    exact lb_X8_answer_119 C hEv hr hz hm0 hp0  hmk38 hk38 h
noncomputable def b_X8_answer_98 (k38 : MP → NC → Nat → Nat → Int32 → Int32 → Int32 → Option ((MP × NC) × Int32)) (w : Nat) (μ : MP) (ν : NC) (p3 : Nat) (p4 : Nat) (x5 : Int32) (x6 : Int32) (x7 : Int32) : Option ((MP × NC) × Int32) := b_X8_answer_121 k38 w μ ν p3 p4 x5 x6 x7
theorem mb_X8_answer_98 {w : Nat} {μ : MP} {ν : NC} {p3 : Nat} {p4 : Nat} {x5 : Int32} {x6 : Int32} {x7 : Int32} {r0 : (MP × NC) × Int32} {k38 : MP → NC → Nat → Nat → Int32 → Int32 → Int32 → Option ((MP × NC) × Int32)} (hmk38 : ∀ (μ : MP) (ν : NC) (z3 : Nat) (z4 : Nat) (z5 : Int32) (z6 : Int32) (z7 : Int32), k38 μ ν z3 z4 z5 z6 z7 = some r0 → mn ν r0.1.2) (h : b_X8_answer_98 k38 w μ ν p3 p4 x5 x6 x7 = some r0) : mn ν r0.1.2 := by
  unfold b_X8_answer_98 at h
  iterate 40 (try first | (with_reducible replace h := (of_guard h).2) | (with_reducible (replace h := of_guardP h; obtain ⟨hg, h⟩ := h)) | (with_reducible replace h := yl_of h rfl) | (with_reducible replace h := (of_thr h).2) | (with_reducible (replace h := bind_of h; obtain ⟨v, hv, h⟩ := h)) | (with_reducible split at h) | (with_reducible (exact mb_X8_answer_121 hmk38 h)) | (with_reducible exact absurd (congrArg Prod.fst (Option.some.inj h)) (by simp)))
set_option maxHeartbeats 4000000 in
set_option maxRecDepth 100000 in
theorem lb_X8_answer_98 {p : Program} {l : Launch} {e : Env} {s : State} {m : MethodId} {args : Array Value} {below : List Frame} {meth : Method} {c : Code} {D : va_G} {E : Nat → ClassId} {sz : Nat} {μ0 : MP} {ν0 : NC} {a : AS} {Ad0 : Nat → Nat → Nat} {w : Nat} {B : Nat × (Nat → Nat)} {r0 : (MP × NC) × Int32} (C : cx p s m args meth c D E (Aof (zS μ0 ν0 a Ad0) [] s.heap.size) cX8_answer 9 "TradeLine") (hEv : eV (Ad0 30 0) (Ad0 31 0) B (Aof (zS μ0 ν0 a Ad0) [] s.heap.size) s s.heap) (hr : meth.sig.returnType = none) (hz : s.heap.size = sz) {μ : MP} {ν : NC} {Ad : Nat → Nat → Nat} (hm0 : mn ν0 ν) (hp0 : kp ν0 Ad0 Ad) {p3 : Nat} {p4 : Nat} {x5 : Int32} {x6 : Int32} {x7 : Int32} {k38 : MP → NC → Nat → Nat → Int32 → Int32 → Int32 → Option ((MP × NC) × Int32)} (hmk38 : ∀ (μ : MP) (ν : NC) (z3 : Nat) (z4 : Nat) (z5 : Int32) (z6 : Int32) (z7 : Int32), k38 μ ν z3 z4 z5 z6 z7 = some r0 → mn ν r0.1.2) (hk38 : ∀ (μ : MP) (ν : NC) (Ad : Nat → Nat → Nat) (z3 : Nat) (z4 : Nat) (z5 : Int32) (z6 : Int32) (z7 : Int32), mn ν0 ν → kp ν0 Ad0 Ad → k38 μ ν z3 z4 z5 z6 z7 = some r0 → G p l e ({ frames := 5, cells := kc r0.1.2 - kc ν0, slots := ks r0.1.2 - ks ν0, locals := 124 } : Room) s m args below meth c D E (Aof (zS μ0 ν0 a Ad0) [] s.heap.size) 9 (MQ below (cQ D E sz (zS μ0 ν0 a Ad0) [] (pV (fun u => ∃ A1, u = (zS r0.1.1 r0.1.2 a A1, []) ∧ kp ν0 Ad0 A1))) args s (kc r0.1.2 - kc ν0) (ks r0.1.2 - ks ν0) (Aof (zS μ0 ν0 a Ad0) [] s.heap.size)) (zS μ ν a Ad) [] (kc ν - kc ν0) (ks ν - ks ν0) 38 [(0, .ref (Ad 0 0)), (3, nv (Ad 1) z3), (4, nv (Ad 2) z4), (5, .int z5), (6, .int z6), (7, .int z7)] []) (h : b_X8_answer_98 k38 w μ ν p3 p4 x5 x6 x7 = some r0) : G p l e ({ frames := 5, cells := kc r0.1.2 - kc ν0, slots := ks r0.1.2 - ks ν0, locals := 124 } : Room) s m args below meth c D E (Aof (zS μ0 ν0 a Ad0) [] s.heap.size) 9 (MQ below (cQ D E sz (zS μ0 ν0 a Ad0) [] (pV (fun u => ∃ A1, u = (zS r0.1.1 r0.1.2 a A1, []) ∧ kp ν0 Ad0 A1))) args s (kc r0.1.2 - kc ν0) (ks r0.1.2 - ks ν0) (Aof (zS μ0 ν0 a Ad0) [] s.heap.size)) (zS μ ν a Ad) [] (kc ν - kc ν0) (ks ν - ks ν0) 98 [(0, .ref (Ad 0 0)), (3, nv (Ad 1) p3), (4, nv (Ad 2) p4), (5, .int x5), (6, .int x6), (7, .int x7)] [] := by
  have m0 := mb_X8_answer_98 hmk38 h
  have e1 := m0.2.1; have e2 := m0.2.2.1; have e3 := hm0.2.1; have e4 := hm0.2.2.1
  unfold b_X8_answer_98 at h
  refine g_goto (tgt := 121) C dX8_answer_98 (by decide) ?_
  refine g_lv [0, 1, 2, 3, 4, 5] rfl ?_
  exact lb_X8_answer_121 C hEv hr hz hm0 hp0  hmk38 hk38 h
noncomputable def b_X8_answer_84 (k38 : MP → NC → Nat → Nat → Int32 → Int32 → Int32 → Option ((MP × NC) × Int32)) (w : Nat) (μ : MP) (ν : NC) (p3 : Nat) (p4 : Nat) (x5 : Int32) (x6 : Int32) (x7 : Int32) (p8 : Nat) : Option ((MP × NC) × Int32) := bif nzB p8 then bif ltB (p8 - 1) (ν.2 6) then yl (uM μ 6 (p8 - 1) 3 (1 : Int32)) (fun m30 => bif nzB p4 then bif ltB (p4 - 1) (ν.2 2) then bif ltB 0 (ν.2 0) then bif decide (p3 ≤ ν.2 1) then (f_X7_put w m30 ν (p4 - 1) x7 (1 : Int32)).bind (fun v33 => b_X8_answer_98 k38 w v33.1.1 v33.1.2 p3 ((p4 - 1) + 1) x5 x6 x7) else none else none else none else none) else none else none
theorem mb_X8_answer_84 {w : Nat} {μ : MP} {ν : NC} {p3 : Nat} {p4 : Nat} {x5 : Int32} {x6 : Int32} {x7 : Int32} {p8 : Nat} {r0 : (MP × NC) × Int32} {k38 : MP → NC → Nat → Nat → Int32 → Int32 → Int32 → Option ((MP × NC) × Int32)} (hmk38 : ∀ (μ : MP) (ν : NC) (z3 : Nat) (z4 : Nat) (z5 : Int32) (z6 : Int32) (z7 : Int32), k38 μ ν z3 z4 z5 z6 z7 = some r0 → mn ν r0.1.2) (h : b_X8_answer_84 k38 w μ ν p3 p4 x5 x6 x7 p8 = some r0) : mn ν r0.1.2 := by
  unfold b_X8_answer_84 at h
  iterate 40 (try first | (with_reducible replace h := (of_guard h).2) | (with_reducible (replace h := of_guardP h; obtain ⟨hg, h⟩ := h)) | (with_reducible replace h := yl_of h rfl) | (with_reducible replace h := (of_thr h).2) | (with_reducible (replace h := bind_of h; obtain ⟨v, hv, h⟩ := h)) | (with_reducible split at h) | (with_reducible (exact mn_trans (m_X7_put hv) (mb_X8_answer_98 hmk38 h))) | (with_reducible exact absurd (congrArg Prod.fst (Option.some.inj h)) (by simp)))
set_option maxHeartbeats 4000000 in
set_option maxRecDepth 100000 in
theorem lb_X8_answer_84 {p : Program} {l : Launch} {e : Env} {s : State} {m : MethodId} {args : Array Value} {below : List Frame} {meth : Method} {c : Code} {D : va_G} {E : Nat → ClassId} {sz : Nat} {μ0 : MP} {ν0 : NC} {a : AS} {Ad0 : Nat → Nat → Nat} {w : Nat} {B : Nat × (Nat → Nat)} {r0 : (MP × NC) × Int32} (C : cx p s m args meth c D E (Aof (zS μ0 ν0 a Ad0) [] s.heap.size) cX8_answer 9 "TradeLine") (hEv : eV (Ad0 30 0) (Ad0 31 0) B (Aof (zS μ0 ν0 a Ad0) [] s.heap.size) s s.heap) (hr : meth.sig.returnType = none) (hz : s.heap.size = sz) {μ : MP} {ν : NC} {Ad : Nat → Nat → Nat} (hm0 : mn ν0 ν) (hp0 : kp ν0 Ad0 Ad) {p3 : Nat} {p4 : Nat} {x5 : Int32} {x6 : Int32} {x7 : Int32} {p8 : Nat} {k38 : MP → NC → Nat → Nat → Int32 → Int32 → Int32 → Option ((MP × NC) × Int32)} (hmk38 : ∀ (μ : MP) (ν : NC) (z3 : Nat) (z4 : Nat) (z5 : Int32) (z6 : Int32) (z7 : Int32), k38 μ ν z3 z4 z5 z6 z7 = some r0 → mn ν r0.1.2) (hk38 : ∀ (μ : MP) (ν : NC) (Ad : Nat → Nat → Nat) (z3 : Nat) (z4 : Nat) (z5 : Int32) (z6 : Int32) (z7 : Int32), mn ν0 ν → kp ν0 Ad0 Ad → k38 μ ν z3 z4 z5 z6 z7 = some r0 → G p l e ({ frames := 5, cells := kc r0.1.2 - kc ν0, slots := ks r0.1.2 - ks ν0, locals := 124 } : Room) s m args below meth c D E (Aof (zS μ0 ν0 a Ad0) [] s.heap.size) 9 (MQ below (cQ D E sz (zS μ0 ν0 a Ad0) [] (pV (fun u => ∃ A1, u = (zS r0.1.1 r0.1.2 a A1, []) ∧ kp ν0 Ad0 A1))) args s (kc r0.1.2 - kc ν0) (ks r0.1.2 - ks ν0) (Aof (zS μ0 ν0 a Ad0) [] s.heap.size)) (zS μ ν a Ad) [] (kc ν - kc ν0) (ks ν - ks ν0) 38 [(0, .ref (Ad 0 0)), (3, nv (Ad 1) z3), (4, nv (Ad 2) z4), (5, .int z5), (6, .int z6), (7, .int z7)] []) (h : b_X8_answer_84 k38 w μ ν p3 p4 x5 x6 x7 p8 = some r0) : G p l e ({ frames := 5, cells := kc r0.1.2 - kc ν0, slots := ks r0.1.2 - ks ν0, locals := 124 } : Room) s m args below meth c D E (Aof (zS μ0 ν0 a Ad0) [] s.heap.size) 9 (MQ below (cQ D E sz (zS μ0 ν0 a Ad0) [] (pV (fun u => ∃ A1, u = (zS r0.1.1 r0.1.2 a A1, []) ∧ kp ν0 Ad0 A1))) args s (kc r0.1.2 - kc ν0) (ks r0.1.2 - ks ν0) (Aof (zS μ0 ν0 a Ad0) [] s.heap.size)) (zS μ ν a Ad) [] (kc ν - kc ν0) (ks ν - ks ν0) 84 [(0, .ref (Ad 0 0)), (3, nv (Ad 1) p3), (4, nv (Ad 2) p4), (5, .int x5), (6, .int x6), (7, .int x7), (8, nv (Ad 6) p8)] [] := by
  have m0 := mb_X8_answer_84 hmk38 h
  have e1 := m0.2.1; have e2 := m0.2.2.1; have e3 := hm0.2.1; have e4 := hm0.2.2.1
  unfold b_X8_answer_84 at h
  refine z_aload C dX8_answer_84 6 rfl (nv_or _ _) ?_
  refine g_iconst (v := (1 : Int32)) C dX8_answer_86 (by decide) ?_
  obtain ⟨g28, h⟩ := of_guard h
  rw [nzB_e g28]
  obtain ⟨g29, h⟩ := of_guard h
  refine z_put (k := 6) (i := (p8 - 1)) (ref := "TradeLine$Message") C rfl g29 rfl rfl rfl inGX3 tyX3 tyX3_ok nmX3 3 (by decide) gw_341 (fun _ h => h) rfl (tyX3_ok 3 (by decide)) rfl rfl (by simp [fvs]) (by simp [fvs, up1]) dX8_answer_87 (fun m30 em30 => ?_)
  replace h := yl_of h em30
  refine z_aload C dX8_answer_90 2 rfl (nv_or _ _) ?_
  refine g_iload C dX8_answer_92 5 rfl ?_
  refine g_iconst (v := (1 : Int32)) C dX8_answer_94 (by decide) ?_
  obtain ⟨g31, h⟩ := of_guard h
  rw [nzB_e g31]
  obtain ⟨g32, h⟩ := of_guard h
  obtain ⟨g34, h⟩ := of_guard h
  obtain ⟨g35, h⟩ := of_guard h
  obtain ⟨v33, hv33, h⟩ := bind_of h
  have m2 := m_X7_put hv33
  have m3 := mb_X8_answer_98 hmk38 h
  have a1 := hm0.2.1; have a2 := hm0.2.2.1; have b1 := m2.2.1; have b2 := m2.2.2.1; have d1 := m3.2.1; have d2 := m3.2.2.1
  refine g_lv [0, 1, 2, 3, 4, 5] rfl ?_
  refine g_cVve (n := 2) (exc := []) (exr := []) C hEv ⟨hp0.2.1 0, hp0.2.2 0⟩ [_, _] _ rfl rfl [] [] rfl rfl rfl rfl (fun _ h => absurd h (by simp)) (fun _ h => absurd h (by simp)) (fun _ h => absurd h (by simp)) (fun sz => c_X7_put l B m30 ν a Ad w (p4 - 1) x7 (1 : Int32) _ hv33 D E sz) rfl gw_413 gw_6 gw_410 gw_411 gw_412 ⟨by decide +kernel, by decide +kernel, by decide +kernel⟩ ⟨rfl, rfl⟩ ⟨Nat.le_of_ble_eq_true rfl, Nat.le_of_ble_eq_true rfl⟩ (rcvT (lvZ g32 rfl) rfl rfl rfl) (by first | exact Nat.le_of_ble_eq_true rfl | simp [nv_cat, cat_i, cat_r, cat_n]) dX8_answer_95 ⟨by show (kc ν - kc ν0) + (kc v33.1.2 - kc ν) ≤ kc r0.1.2 - kc ν0; omega, by show (ks ν - ks ν0) + (ks v33.1.2 - ks ν) ≤ ks r0.1.2 - ks ν0; omega⟩ (fun u hp hx => ?_)
  obtain ⟨A1, rfl, hkp⟩ := hp
  try dsimp only [List.append_nil]
  refine g_widen (k := kc v33.1.2 - kc ν0) (n := ks v33.1.2 - ks ν0) (by omega) (by omega) ?_
  rw [show Ad 0 0 = A1 0 0 from (hkp.1 0 _ rfl (of_decide_eq_true g34)).symm]
  rw [show nv (Ad 1) p3 = nv (A1 1) p3 from (kp_nv hkp rfl g35).symm]
  rw [show Ad 2 (p4 - 1) = A1 2 (p4 - 1) from (hkp.1 2 _ rfl (of_decide_eq_true g32)).symm]
  exact lb_X8_answer_98 C hEv hr hz (mn_trans hm0 m2) (kp_trans hp0 hm0 hkp)  hmk38 hk38 h
noncomputable def b_X8_answer_81 (k38 : MP → NC → Nat → Nat → Int32 → Int32 → Int32 → Option ((MP × NC) × Int32)) (w : Nat) (μ : MP) (ν : NC) (p3 : Nat) (p4 : Nat) (x5 : Int32) (x7 : Int32) (p8 : Nat) : Option ((MP × NC) × Int32) := b_X8_answer_84 k38 w μ ν p3 p4 x5 (0 : Int32) x7 p8
theorem mb_X8_answer_81 {w : Nat} {μ : MP} {ν : NC} {p3 : Nat} {p4 : Nat} {x5 : Int32} {x7 : Int32} {p8 : Nat} {r0 : (MP × NC) × Int32} {k38 : MP → NC → Nat → Nat → Int32 → Int32 → Int32 → Option ((MP × NC) × Int32)} (hmk38 : ∀ (μ : MP) (ν : NC) (z3 : Nat) (z4 : Nat) (z5 : Int32) (z6 : Int32) (z7 : Int32), k38 μ ν z3 z4 z5 z6 z7 = some r0 → mn ν r0.1.2) (h : b_X8_answer_81 k38 w μ ν p3 p4 x5 x7 p8 = some r0) : mn ν r0.1.2 := by
  unfold b_X8_answer_81 at h
  iterate 40 (try first | (with_reducible replace h := (of_guard h).2) | (with_reducible (replace h := of_guardP h; obtain ⟨hg, h⟩ := h)) | (with_reducible replace h := yl_of h rfl) | (with_reducible replace h := (of_thr h).2) | (with_reducible (replace h := bind_of h; obtain ⟨v, hv, h⟩ := h)) | (with_reducible split at h) | (with_reducible (exact mb_X8_answer_84 hmk38 h)) | (with_reducible exact absurd (congrArg Prod.fst (Option.some.inj h)) (by simp)))
set_option maxHeartbeats 4000000 in
set_option maxRecDepth 100000 in
theorem lb_X8_answer_81 {p : Program} {l : Launch} {e : Env} {s : State} {m : MethodId} {args : Array Value} {below : List Frame} {meth : Method} {c : Code} {D : va_G} {E : Nat → ClassId} {sz : Nat} {μ0 : MP} {ν0 : NC} {a : AS} {Ad0 : Nat → Nat → Nat} {w : Nat} {B : Nat × (Nat → Nat)} {r0 : (MP × NC) × Int32} (C : cx p s m args meth c D E (Aof (zS μ0 ν0 a Ad0) [] s.heap.size) cX8_answer 9 "TradeLine") (hEv : eV (Ad0 30 0) (Ad0 31 0) B (Aof (zS μ0 ν0 a Ad0) [] s.heap.size) s s.heap) (hr : meth.sig.returnType = none) (hz : s.heap.size = sz) {μ : MP} {ν : NC} {Ad : Nat → Nat → Nat} (hm0 : mn ν0 ν) (hp0 : kp ν0 Ad0 Ad) {p3 : Nat} {p4 : Nat} {x5 : Int32} {x7 : Int32} {p8 : Nat} {k38 : MP → NC → Nat → Nat → Int32 → Int32 → Int32 → Option ((MP × NC) × Int32)} (hmk38 : ∀ (μ : MP) (ν : NC) (z3 : Nat) (z4 : Nat) (z5 : Int32) (z6 : Int32) (z7 : Int32), k38 μ ν z3 z4 z5 z6 z7 = some r0 → mn ν r0.1.2) (hk38 : ∀ (μ : MP) (ν : NC) (Ad : Nat → Nat → Nat) (z3 : Nat) (z4 : Nat) (z5 : Int32) (z6 : Int32) (z7 : Int32), mn ν0 ν → kp ν0 Ad0 Ad → k38 μ ν z3 z4 z5 z6 z7 = some r0 → G p l e ({ frames := 5, cells := kc r0.1.2 - kc ν0, slots := ks r0.1.2 - ks ν0, locals := 124 } : Room) s m args below meth c D E (Aof (zS μ0 ν0 a Ad0) [] s.heap.size) 9 (MQ below (cQ D E sz (zS μ0 ν0 a Ad0) [] (pV (fun u => ∃ A1, u = (zS r0.1.1 r0.1.2 a A1, []) ∧ kp ν0 Ad0 A1))) args s (kc r0.1.2 - kc ν0) (ks r0.1.2 - ks ν0) (Aof (zS μ0 ν0 a Ad0) [] s.heap.size)) (zS μ ν a Ad) [] (kc ν - kc ν0) (ks ν - ks ν0) 38 [(0, .ref (Ad 0 0)), (3, nv (Ad 1) z3), (4, nv (Ad 2) z4), (5, .int z5), (6, .int z6), (7, .int z7)] []) (h : b_X8_answer_81 k38 w μ ν p3 p4 x5 x7 p8 = some r0) : G p l e ({ frames := 5, cells := kc r0.1.2 - kc ν0, slots := ks r0.1.2 - ks ν0, locals := 124 } : Room) s m args below meth c D E (Aof (zS μ0 ν0 a Ad0) [] s.heap.size) 9 (MQ below (cQ D E sz (zS μ0 ν0 a Ad0) [] (pV (fun u => ∃ A1, u = (zS r0.1.1 r0.1.2 a A1, []) ∧ kp ν0 Ad0 A1))) args s (kc r0.1.2 - kc ν0) (ks r0.1.2 - ks ν0) (Aof (zS μ0 ν0 a Ad0) [] s.heap.size)) (zS μ ν a Ad) [] (kc ν - kc ν0) (ks ν - ks ν0) 81 [(0, .ref (Ad 0 0)), (3, nv (Ad 1) p3), (4, nv (Ad 2) p4), (5, .int x5), (7, .int x7), (8, nv (Ad 6) p8)] [] := by
  have m0 := mb_X8_answer_81 hmk38 h
  have e1 := m0.2.1; have e2 := m0.2.2.1; have e3 := hm0.2.1; have e4 := hm0.2.2.1
  unfold b_X8_answer_81 at h
  refine g_iconst (v := (0 : Int32)) C dX8_answer_81 (by decide) ?_
  refine g_istore (lv' := [(6, .int (0 : Int32)), (0, .ref (Ad 0 0)), (3, nv (Ad 1) p3), (4, nv (Ad 2) p4), (5, .int x5), (7, .int x7), (8, nv (Ad 6) p8)]) C dX8_answer_82 (by decide) (by simp [nv_cat, cat_i, cat_r, cat_n]) ?_
  refine g_lv [1, 2, 3, 4, 0, 5, 6] rfl ?_
  exact lb_X8_answer_84 C hEv hr hz hm0 hp0  hmk38 hk38 h
noncomputable def b_X8_answer_38 (k38 : MP → NC → Nat → Nat → Int32 → Int32 → Int32 → Option ((MP × NC) × Int32)) (w : Nat) (μ : MP) (ν : NC) (p3 : Nat) (p4 : Nat) (x5 : Int32) (x6 : Int32) (x7 : Int32) : Option ((MP × NC) × Int32) := (if x5 < x7 then ((if x6 = (0 : Int32) then (b_X8_answer_151  w μ ν ) else (bif nzB p4 then bif ltB (p4 - 1) (ν.2 2) then bif ltB 0 (ν.2 0) then (f_X7_put w μ ν (p4 - 1) x6 (x5 + (1 : Int32))).bind (fun v14 => b_X8_answer_151  w v14.1.1 v14.1.2 ) else none else none else none))) else (bif nzB p3 then bif ltB (p3 - 1) (ν.2 1) then (f_X5_message w μ ν (p3 - 1) x7).bind (fun v18 => (if v18 = 0 then (b_X8_answer_101 k38 w μ ν ((p3 - 1) + 1) p4 x5 x6 x7 0) else (bif ltB 0 (ν.2 0) then (f_X8_mayGoAgain w μ ν ((v18 - 1) + 1)).bind (fun v27 => (if v27 = (0 : Int32) then (b_X8_answer_101 k38 w μ ν ((p3 - 1) + 1) p4 x5 x6 x7 ((v18 - 1) + 1)) else ((if x6 = (0 : Int32) then (b_X8_answer_84 k38 w μ ν ((p3 - 1) + 1) p4 x5 x6 x7 ((v18 - 1) + 1)) else (bif nzB p4 then bif ltB (p4 - 1) (ν.2 2) then bif ltB (v18 - 1) (ν.2 6) then (f_X7_put w μ ν (p4 - 1) x6 x7).bind (fun v38 => b_X8_answer_81 k38 w v38.1.1 v38.1.2 ((p3 - 1) + 1) ((p4 - 1) + 1) x5 x7 ((v18 - 1) + 1)) else none else none else none))))) else none))) else none else none))
theorem mb_X8_answer_38 {w : Nat} {μ : MP} {ν : NC} {p3 : Nat} {p4 : Nat} {x5 : Int32} {x6 : Int32} {x7 : Int32} {r0 : (MP × NC) × Int32} {k38 : MP → NC → Nat → Nat → Int32 → Int32 → Int32 → Option ((MP × NC) × Int32)} (hmk38 : ∀ (μ : MP) (ν : NC) (z3 : Nat) (z4 : Nat) (z5 : Int32) (z6 : Int32) (z7 : Int32), k38 μ ν z3 z4 z5 z6 z7 = some r0 → mn ν r0.1.2) (h : b_X8_answer_38 k38 w μ ν p3 p4 x5 x6 x7 = some r0) : mn ν r0.1.2 := by
  unfold b_X8_answer_38 at h
  iterate 40 (try first | (with_reducible replace h := (of_guard h).2) | (with_reducible (replace h := of_guardP h; obtain ⟨hg, h⟩ := h)) | (with_reducible replace h := yl_of h rfl) | (with_reducible replace h := (of_thr h).2) | (with_reducible (replace h := bind_of h; obtain ⟨v, hv, h⟩ := h)) | (with_reducible split at h) | (with_reducible (exact mb_X8_answer_151  h)) | (with_reducible (exact mn_trans (m_X7_put hv) (mb_X8_answer_151  h))) | (with_reducible (exact mb_X8_answer_101 hmk38 h)) | (with_reducible (exact mb_X8_answer_84 hmk38 h)) | (with_reducible (exact mn_trans (m_X7_put hv) (mb_X8_answer_81 hmk38 h))) | (with_reducible exact absurd (congrArg Prod.fst (Option.some.inj h)) (by simp)))
set_option maxHeartbeats 4000000 in
set_option maxRecDepth 100000 in
theorem lb_X8_answer_38 {p : Program} {l : Launch} {e : Env} {s : State} {m : MethodId} {args : Array Value} {below : List Frame} {meth : Method} {c : Code} {D : va_G} {E : Nat → ClassId} {sz : Nat} {μ0 : MP} {ν0 : NC} {a : AS} {Ad0 : Nat → Nat → Nat} {w : Nat} {B : Nat × (Nat → Nat)} {r0 : (MP × NC) × Int32} (C : cx p s m args meth c D E (Aof (zS μ0 ν0 a Ad0) [] s.heap.size) cX8_answer 9 "TradeLine") (hEv : eV (Ad0 30 0) (Ad0 31 0) B (Aof (zS μ0 ν0 a Ad0) [] s.heap.size) s s.heap) (hr : meth.sig.returnType = none) (hz : s.heap.size = sz) {μ : MP} {ν : NC} {Ad : Nat → Nat → Nat} (hm0 : mn ν0 ν) (hp0 : kp ν0 Ad0 Ad) {p3 : Nat} {p4 : Nat} {x5 : Int32} {x6 : Int32} {x7 : Int32} {k38 : MP → NC → Nat → Nat → Int32 → Int32 → Int32 → Option ((MP × NC) × Int32)} (hmk38 : ∀ (μ : MP) (ν : NC) (z3 : Nat) (z4 : Nat) (z5 : Int32) (z6 : Int32) (z7 : Int32), k38 μ ν z3 z4 z5 z6 z7 = some r0 → mn ν r0.1.2) (hk38 : ∀ (μ : MP) (ν : NC) (Ad : Nat → Nat → Nat) (z3 : Nat) (z4 : Nat) (z5 : Int32) (z6 : Int32) (z7 : Int32), mn ν0 ν → kp ν0 Ad0 Ad → k38 μ ν z3 z4 z5 z6 z7 = some r0 → G p l e ({ frames := 5, cells := kc r0.1.2 - kc ν0, slots := ks r0.1.2 - ks ν0, locals := 124 } : Room) s m args below meth c D E (Aof (zS μ0 ν0 a Ad0) [] s.heap.size) 9 (MQ below (cQ D E sz (zS μ0 ν0 a Ad0) [] (pV (fun u => ∃ A1, u = (zS r0.1.1 r0.1.2 a A1, []) ∧ kp ν0 Ad0 A1))) args s (kc r0.1.2 - kc ν0) (ks r0.1.2 - ks ν0) (Aof (zS μ0 ν0 a Ad0) [] s.heap.size)) (zS μ ν a Ad) [] (kc ν - kc ν0) (ks ν - ks ν0) 38 [(0, .ref (Ad 0 0)), (3, nv (Ad 1) z3), (4, nv (Ad 2) z4), (5, .int z5), (6, .int z6), (7, .int z7)] []) (h : b_X8_answer_38 k38 w μ ν p3 p4 x5 x6 x7 = some r0) : G p l e ({ frames := 5, cells := kc r0.1.2 - kc ν0, slots := ks r0.1.2 - ks ν0, locals := 124 } : Room) s m args below meth c D E (Aof (zS μ0 ν0 a Ad0) [] s.heap.size) 9 (MQ below (cQ D E sz (zS μ0 ν0 a Ad0) [] (pV (fun u => ∃ A1, u = (zS r0.1.1 r0.1.2 a A1, []) ∧ kp ν0 Ad0 A1))) args s (kc r0.1.2 - kc ν0) (ks r0.1.2 - ks ν0) (Aof (zS μ0 ν0 a Ad0) [] s.heap.size)) (zS μ ν a Ad) [] (kc ν - kc ν0) (ks ν - ks ν0) 38 [(0, .ref (Ad 0 0)), (3, nv (Ad 1) p3), (4, nv (Ad 2) p4), (5, .int x5), (6, .int x6), (7, .int x7)] [] := by
  have m0 := mb_X8_answer_38 hmk38 h
  have e1 := m0.2.1; have e2 := m0.2.2.1; have e3 := hm0.2.1; have e4 := hm0.2.2.1
  unfold b_X8_answer_38 at h
  refine g_iload C dX8_answer_38 5 rfl ?_
  refine g_iload C dX8_answer_40 3 rfl ?_
  refine g_icmp_gt (tgt := 135) C dX8_answer_42 (by decide) (fun c42 => ?_) (fun c42 => ?_)
  · replace h := (if_pos c42).symm.trans h
    refine g_iload C dX8_answer_135 4 rfl ?_
    refine g_if_eq (tgt := 151) C dX8_answer_137 (by decide) (fun c137 => ?_) (fun c137 => ?_)
    · replace h := (if_pos c137).symm.trans h
      refine g_lv [0] rfl ?_
      exact lb_X8_answer_151 C hEv hr hz hm0 hp0   h
    · replace h := (if_neg c137).symm.trans h
      refine z_aload C dX8_answer_140 2 rfl (nv_or _ _) ?_
      refine g_iload C dX8_answer_142 4 rfl ?_
      refine g_iload C dX8_answer_144 3 rfl ?_
      refine g_iconst (v := (1 : Int32)) C dX8_answer_146 (by decide) ?_
      refine g_iadd C dX8_answer_147 ?_
      obtain ⟨g12, h⟩ := of_guard h
      rw [nzB_e g12]
      obtain ⟨g13, h⟩ := of_guard h
      obtain ⟨g15, h⟩ := of_guard h
      obtain ⟨v14, hv14, h⟩ := bind_of h
      have m2 := m_X7_put hv14
      have m3 := mb_X8_answer_151  h
      have a1 := hm0.2.1; have a2 := hm0.2.2.1; have b1 := m2.2.1; have b2 := m2.2.2.1; have d1 := m3.2.1; have d2 := m3.2.2.1
      refine g_lv [0] rfl ?_
      refine g_cVve (n := 2) (exc := []) (exr := []) C hEv ⟨hp0.2.1 0, hp0.2.2 0⟩ [_, _] _ rfl rfl [] [] rfl rfl rfl rfl (fun _ h => absurd h (by simp)) (fun _ h => absurd h (by simp)) (fun _ h => absurd h (by simp)) (fun sz => c_X7_put l B μ ν a Ad w (p4 - 1) x6 (x5 + (1 : Int32)) _ hv14 D E sz) rfl gw_413 gw_6 gw_410 gw_411 gw_412 ⟨by decide +kernel, by decide +kernel, by decide +kernel⟩ ⟨rfl, rfl⟩ ⟨Nat.le_of_ble_eq_true rfl, Nat.le_of_ble_eq_true rfl⟩ (rcvT (lvZ g13 rfl) rfl rfl rfl) (by first | exact Nat.le_of_ble_eq_true rfl | simp [nv_cat, cat_i, cat_r, cat_n]) dX8_answer_148 ⟨by show (kc ν - kc ν0) + (kc v14.1.2 - kc ν) ≤ kc r0.1.2 - kc ν0; omega, by show (ks ν - ks ν0) + (ks v14.1.2 - ks ν) ≤ ks r0.1.2 - ks ν0; omega⟩ (fun u hp hx => ?_)
      obtain ⟨A1, rfl, hkp⟩ := hp
      try dsimp only [List.append_nil]
      refine g_widen (k := kc v14.1.2 - kc ν0) (n := ks v14.1.2 - ks ν0) (by omega) (by omega) ?_
      rw [show Ad 0 0 = A1 0 0 from (hkp.1 0 _ rfl (of_decide_eq_true g15)).symm]
      exact lb_X8_answer_151 C hEv hr hz (mn_trans hm0 m2) (kp_trans hp0 hm0 hkp)   h
  · replace h := (if_neg c42).symm.trans h
    refine z_aload_n C dX8_answer_45 rfl 1 rfl (nv_or _ _) ?_
    refine g_iload C dX8_answer_46 5 rfl ?_
    obtain ⟨g16, h⟩ := of_guard h
    rw [nzB_e g16]
    obtain ⟨g17, h⟩ := of_guard h
    obtain ⟨v18, hv18, h⟩ := bind_of h
    refine g_cVq (n := 1) (exc := []) (exr := []) C [_] _ rfl rfl [] [] rfl rfl rfl rfl (fun _ h => absurd h (by simp)) (fun _ h => absurd h (by simp)) (fun _ h => absurd h (by simp)) (fun sz => c_X5_message l μ ν a Ad w (p3 - 1) x7 _ hv18 D E sz) rfl gw_538 gw_2 gw_535 gw_536 gw_537 ⟨by decide +kernel, by decide +kernel, by decide +kernel⟩ ⟨rfl, rfl⟩ ⟨Nat.le_of_ble_eq_true rfl, Nat.le_of_ble_eq_true rfl⟩ (rcvT (lvZ g17 rfl) rfl rfl rfl) (by first | exact Nat.le_of_ble_eq_true rfl | simp [nv_cat, cat_i, cat_r, cat_n]) dX8_answer_48 ⟨by show (kc ν - kc ν0) + 0 ≤ kc r0.1.2 - kc ν0; omega, by show (ks ν - ks ν0) + 0 ≤ ks r0.1.2 - ks ν0; omega⟩ (fun r u hp hx => ?_)
    obtain ⟨er, rfl⟩ := hp
    rw [er]
    try dsimp only [List.append_nil]
    refine z_astore (lv' := [(8, nv (Ad 6) v18), (0, .ref (Ad 0 0)), (3, .ref (Ad 1 (p3 - 1))), (4, nv (Ad 2) p4), (5, .int x5), (6, .int x6), (7, .int x7)]) C dX8_answer_51 (nv_or _ _) (by decide) (by simp [nv_cat, cat_i, cat_r, cat_n]) ?_
    refine z_aload C dX8_answer_53 0 rfl (nv_or _ _) ?_
    by_cases c55 : v18 = 0
    · replace h := (if_pos c55).symm.trans h
      rw [nv_z c55]
      refine z_ifnullN (tgt := 101) C dX8_answer_55 (by decide) ?_
      refine g_lv [1, 2, 3, 4, 5, 6, 0] rfl ?_
      exact lb_X8_answer_101 C hEv hr hz hm0 hp0  hmk38 hk38 h
    · replace h := (if_neg c55).symm.trans h
      rw [nv_n c55]
      refine z_ifnull C dX8_answer_55 ?_
      refine g_aload_n C dX8_answer_58 rfl 1 rfl ?_
      refine g_aload C dX8_answer_59 0 rfl ?_
      obtain ⟨g26, h⟩ := of_guard h
      obtain ⟨v27, hv27, h⟩ := bind_of h
      refine g_cVi (n := 1) (exc := []) (exr := []) C [_] _ rfl rfl [] [] rfl rfl rfl rfl (fun _ h => absurd h (by simp)) (fun _ h => absurd h (by simp)) (fun _ h => absurd h (by simp)) (fun sz => c_X8_mayGoAgain l μ ν a Ad w ((v18 - 1) + 1) _ hv27 D E sz) rfl gw_567 gw_1 gw_564 gw_566 gs_11 ⟨by decide +kernel, by decide +kernel, by decide +kernel⟩ ⟨rfl, rfl⟩ ⟨Nat.le_of_ble_eq_true rfl, Nat.le_of_ble_eq_true rfl⟩ (rcvT (lvZ g26 rfl) rfl rfl rfl) (by first | exact Nat.le_of_ble_eq_true rfl | simp [nv_cat, cat_i, cat_r, cat_n]) dX8_answer_61 ⟨by show (kc ν - kc ν0) + 0 ≤ kc r0.1.2 - kc ν0; omega, by show (ks ν - ks ν0) + 0 ≤ ks r0.1.2 - ks ν0; omega⟩ (fun r u hp hx => ?_)
      obtain ⟨er, rfl⟩ := hp
      rw [er]
      try dsimp only [List.append_nil]
      refine g_if_eq (tgt := 101) C dX8_answer_64 (by decide) (fun c64 => ?_) (fun c64 => ?_)
      · replace h := (if_pos c64).symm.trans h
        refine g_lv [1, 2, 3, 4, 5, 6, 0] rfl ?_
        exact lb_X8_answer_101 C hEv hr hz hm0 hp0  hmk38 hk38 h
      · replace h := (if_neg c64).symm.trans h
        refine g_iload C dX8_answer_67 5 rfl ?_
        refine g_if_eq (tgt := 84) C dX8_answer_69 (by decide) (fun c69 => ?_) (fun c69 => ?_)
        · replace h := (if_pos c69).symm.trans h
          refine g_lv [1, 2, 3, 4, 5, 6, 0] rfl ?_
          exact lb_X8_answer_84 C hEv hr hz hm0 hp0  hmk38 hk38 h
        · replace h := (if_neg c69).symm.trans h
          refine z_aload C dX8_answer_72 3 rfl (nv_or _ _) ?_
          refine g_iload C dX8_answer_74 5 rfl ?_
          refine g_iload C dX8_answer_76 6 rfl ?_
          obtain ⟨g36, h⟩ := of_guard h
          rw [nzB_e g36]
          obtain ⟨g37, h⟩ := of_guard h
          obtain ⟨g39, h⟩ := of_guard h
          obtain ⟨v38, hv38, h⟩ := bind_of h
          have m2 := m_X7_put hv38
          have m3 := mb_X8_answer_81 hmk38 h
          have a1 := hm0.2.1; have a2 := hm0.2.2.1; have b1 := m2.2.1; have b2 := m2.2.2.1; have d1 := m3.2.1; have d2 := m3.2.2.1
          refine g_lv [1, 2, 3, 4, 6, 0] rfl ?_
          refine g_cVve (n := 2) (exc := []) (exr := []) C hEv ⟨hp0.2.1 0, hp0.2.2 0⟩ [_, _] _ rfl rfl [] [] rfl rfl rfl rfl (fun _ h => absurd h (by simp)) (fun _ h => absurd h (by simp)) (fun _ h => absurd h (by simp)) (fun sz => c_X7_put l B μ ν a Ad w (p4 - 1) x6 x7 _ hv38 D E sz) rfl gw_413 gw_6 gw_410 gw_411 gw_412 ⟨by decide +kernel, by decide +kernel, by decide +kernel⟩ ⟨rfl, rfl⟩ ⟨Nat.le_of_ble_eq_true rfl, Nat.le_of_ble_eq_true rfl⟩ (rcvT (lvZ g37 rfl) rfl rfl rfl) (by first | exact Nat.le_of_ble_eq_true rfl | simp [nv_cat, cat_i, cat_r, cat_n]) dX8_answer_78 ⟨by show (kc ν - kc ν0) + (kc v38.1.2 - kc ν) ≤ kc r0.1.2 - kc ν0; omega, by show (ks ν - ks ν0) + (ks v38.1.2 - ks ν) ≤ ks r0.1.2 - ks ν0; omega⟩ (fun u hp hx => ?_)
          obtain ⟨A1, rfl, hkp⟩ := hp
          try dsimp only [List.append_nil]
          refine g_widen (k := kc v38.1.2 - kc ν0) (n := ks v38.1.2 - ks ν0) (by omega) (by omega) ?_
          rw [show Ad 0 0 = A1 0 0 from (hkp.1 0 _ rfl (of_decide_eq_true g26)).symm]
          rw [show Ad 1 (p3 - 1) = A1 1 (p3 - 1) from (hkp.1 1 _ rfl (of_decide_eq_true g17)).symm]
          rw [show Ad 2 (p4 - 1) = A1 2 (p4 - 1) from (hkp.1 2 _ rfl (of_decide_eq_true g37)).symm]
          rw [show Ad 6 (v18 - 1) = A1 6 (v18 - 1) from (hkp.1 6 _ rfl (of_decide_eq_true g39)).symm]
          exact lb_X8_answer_81 C hEv hr hz (mn_trans hm0 m2) (kp_trans hp0 hm0 hkp)  hmk38 hk38 h
noncomputable def l_X8_answer_38  (w : Nat) : Nat → MP → NC → Nat → Nat → Int32 → Int32 → Int32 → Option ((MP × NC) × Int32)
  | 0 => fun _ _ _ _ _ _ _ => none
  | n + 1 => fun μ ν p3 p4 x5 x6 x7 => b_X8_answer_38  (l_X8_answer_38  w n) w μ ν p3 p4 x5 x6 x7
theorem ml_X8_answer_38 {w : Nat} {r0 : (MP × NC) × Int32}   : ∀ (n : Nat) (μ : MP) (ν : NC) (p3 : Nat) (p4 : Nat) (x5 : Int32) (x6 : Int32) (x7 : Int32), l_X8_answer_38  w n μ ν p3 p4 x5 x6 x7 = some r0 → mn ν r0.1.2 := by
  intro n
  induction n with
  | zero => exact fun μ ν p3 p4 x5 x6 x7 h => absurd (show (none : Option ((MP × NC) × Int32)) = some r0 from h) (by simp)
  | succ n ih => exact fun μ ν p3 p4 x5 x6 x7 h => mb_X8_answer_38 (w := w)  ih h
theorem ll_X8_answer_38 {p : Program} {l : Launch} {e : Env} {s : State} {m : MethodId} {args : Array Value} {below : List Frame} {meth : Method} {c : Code} {D : va_G} {E : Nat → ClassId} {sz : Nat} {μ0 : MP} {ν0 : NC} {a : AS} {Ad0 : Nat → Nat → Nat} {w : Nat} {B : Nat × (Nat → Nat)} {r0 : (MP × NC) × Int32} (C : cx p s m args meth c D E (Aof (zS μ0 ν0 a Ad0) [] s.heap.size) cX8_answer 9 "TradeLine") (hEv : eV (Ad0 30 0) (Ad0 31 0) B (Aof (zS μ0 ν0 a Ad0) [] s.heap.size) s s.heap) (hr : meth.sig.returnType = none) (hz : s.heap.size = sz)    : ∀ (n : Nat) (μ : MP) (ν : NC) (Ad : Nat → Nat → Nat) (p3 : Nat) (p4 : Nat) (x5 : Int32) (x6 : Int32) (x7 : Int32), mn ν0 ν → kp ν0 Ad0 Ad → l_X8_answer_38  w n μ ν p3 p4 x5 x6 x7 = some r0 → G p l e ({ frames := 5, cells := kc r0.1.2 - kc ν0, slots := ks r0.1.2 - ks ν0, locals := 124 } : Room) s m args below meth c D E (Aof (zS μ0 ν0 a Ad0) [] s.heap.size) 9 (MQ below (cQ D E sz (zS μ0 ν0 a Ad0) [] (pV (fun u => ∃ A1, u = (zS r0.1.1 r0.1.2 a A1, []) ∧ kp ν0 Ad0 A1))) args s (kc r0.1.2 - kc ν0) (ks r0.1.2 - ks ν0) (Aof (zS μ0 ν0 a Ad0) [] s.heap.size)) (zS μ ν a Ad) [] (kc ν - kc ν0) (ks ν - ks ν0) 38 [(0, .ref (Ad 0 0)), (3, nv (Ad 1) p3), (4, nv (Ad 2) p4), (5, .int x5), (6, .int x6), (7, .int x7)] [] := by
  intro n
  induction n with
  | zero => exact fun μ ν Ad p3 p4 x5 x6 x7 hm0 hp0 h => absurd (show (none : Option ((MP × NC) × Int32)) = some r0 from h) (by simp)
  | succ n ih => exact fun μ ν Ad p3 p4 x5 x6 x7 hm0 hp0 h => lb_X8_answer_38 (w := w) C hEv hr hz hm0 hp0   (ml_X8_answer_38  n) ih h
noncomputable def f_X8_answer  (w : Nat) (μ : MP) (ν : NC) (x1 : Int32) (x2 : Int32) : Option ((MP × NC) × Int32) := bif ltB 0 (ν.2 0) then (f_X8_party w μ ν x1).bind (fun v2 => (f_X8_otherSide w μ ν x1).bind (fun v3 => (f_X8_party w μ ν v3).bind (fun v4 => bif nzB v4 then bif ltB (v4 - 1) (ν.2 1) then bif nzB v2 then bif ltB (v2 - 1) (ν.2 1) then bif ltB (v2 - 1) (ν.2 4) then yl ((μ.1 4 (v2 - 1) 2)) (fun t10 => yl ((if x2 < (1 : Int32) then (1 : Int32) else x2)) (fun t11 => l_X8_answer_38  w w μ ν ((v2 - 1) + 1) ((v4 - 1) + 1) t10 (0 : Int32) t11)) else none else none else none else none else none))) else none
theorem mb_X8_answer_0 {w : Nat} {μ : MP} {ν : NC} {x1 : Int32} {x2 : Int32} {r0 : (MP × NC) × Int32}   (h : f_X8_answer  w μ ν x1 x2 = some r0) : mn ν r0.1.2 := by
  unfold f_X8_answer at h
  iterate 40 (try first | (with_reducible replace h := (of_guard h).2) | (with_reducible (replace h := of_guardP h; obtain ⟨hg, h⟩ := h)) | (with_reducible replace h := yl_of h rfl) | (with_reducible replace h := (of_thr h).2) | (with_reducible (replace h := bind_of h; obtain ⟨v, hv, h⟩ := h)) | (with_reducible split at h) | (with_reducible (exact ml_X8_answer_38  _ _ _ _ _ _ _ _ h)) | (with_reducible exact absurd (congrArg Prod.fst (Option.some.inj h)) (by simp)))
set_option maxHeartbeats 4000000 in
set_option maxRecDepth 100000 in
theorem lb_X8_answer_0 {p : Program} {l : Launch} {e : Env} {s : State} {m : MethodId} {args : Array Value} {below : List Frame} {meth : Method} {c : Code} {D : va_G} {E : Nat → ClassId} {sz : Nat} {μ0 : MP} {ν0 : NC} {a : AS} {Ad0 : Nat → Nat → Nat} {w : Nat} {B : Nat × (Nat → Nat)} {r0 : (MP × NC) × Int32} (C : cx p s m args meth c D E (Aof (zS μ0 ν0 a Ad0) [] s.heap.size) cX8_answer 9 "TradeLine") (hEv : eV (Ad0 30 0) (Ad0 31 0) B (Aof (zS μ0 ν0 a Ad0) [] s.heap.size) s s.heap) (hr : meth.sig.returnType = none) (hz : s.heap.size = sz) {μ : MP} {ν : NC} {Ad : Nat → Nat → Nat} (hm0 : mn ν0 ν) (hp0 : kp ν0 Ad0 Ad) {x1 : Int32} {x2 : Int32}   (h : f_X8_answer  w μ ν x1 x2 = some r0) : G p l e ({ frames := 5, cells := kc r0.1.2 - kc ν0, slots := ks r0.1.2 - ks ν0, locals := 124 } : Room) s m args below meth c D E (Aof (zS μ0 ν0 a Ad0) [] s.heap.size) 9 (MQ below (cQ D E sz (zS μ0 ν0 a Ad0) [] (pV (fun u => ∃ A1, u = (zS r0.1.1 r0.1.2 a A1, []) ∧ kp ν0 Ad0 A1))) args s (kc r0.1.2 - kc ν0) (ks r0.1.2 - ks ν0) (Aof (zS μ0 ν0 a Ad0) [] s.heap.size)) (zS μ ν a Ad) [] (kc ν - kc ν0) (ks ν - ks ν0) 0 [(0, .ref (Ad 0 0)), (1, .int x1), (2, .int x2)] [] := by
  have m0 := mb_X8_answer_0  h
  have e1 := m0.2.1; have e2 := m0.2.2.1; have e3 := hm0.2.1; have e4 := hm0.2.2.1
  unfold f_X8_answer at h
  refine g_aload_n C dX8_answer_0 rfl 0 rfl ?_
  refine g_iload_n C dX8_answer_1 rfl 1 rfl ?_
  obtain ⟨g1, h⟩ := of_guard h
  obtain ⟨v2, hv2, h⟩ := bind_of h
  refine g_cVq (n := 1) (exc := []) (exr := []) C [_] _ rfl rfl [] [] rfl rfl rfl rfl (fun _ h => absurd h (by simp)) (fun _ h => absurd h (by simp)) (fun _ h => absurd h (by simp)) (fun sz => c_X8_party l μ ν a Ad w x1 _ hv2 D E sz) rfl gw_304 gw_1 gw_301 gw_303 gs_2 ⟨by decide +kernel, by decide +kernel, by decide +kernel⟩ ⟨rfl, rfl⟩ ⟨Nat.le_of_ble_eq_true rfl, Nat.le_of_ble_eq_true rfl⟩ (rcvT (lvZ g1 rfl) rfl rfl rfl) (by first | exact Nat.le_of_ble_eq_true rfl | simp [nv_cat, cat_i, cat_r, cat_n]) dX8_answer_2 ⟨by show (kc ν - kc ν0) + 0 ≤ kc r0.1.2 - kc ν0; omega, by show (ks ν - ks ν0) + 0 ≤ ks r0.1.2 - ks ν0; omega⟩ (fun r u hp hx => ?_)
  obtain ⟨er, rfl⟩ := hp
  rw [er]
  try dsimp only [List.append_nil]
  refine z_astore_n (i := 3) (lv' := [(3, nv (Ad 1) v2), (0, .ref (Ad 0 0)), (1, .int x1), (2, .int x2)]) C dX8_answer_5 (nv_or _ _) rfl (by decide) (by simp [nv_cat, cat_i, cat_r, cat_n]) ?_
  refine g_aload_n C dX8_answer_6 rfl 1 rfl ?_
  refine g_iload_n C dX8_answer_7 rfl 2 rfl ?_
  obtain ⟨v3, hv3, h⟩ := bind_of h
  refine g_cSi (n := 1) (exc := []) (exr := []) C [_] _ rfl rfl [] [] rfl rfl rfl rfl (fun _ h => absurd h (by simp)) (fun _ h => absurd h (by simp)) (fun _ h => absurd h (by simp)) (fun sz => c_X8_otherSide l μ ν a Ad w x1 _ hv3 D E sz) rfl gw_409 gw_1 gw_407 gw_408 ⟨by decide +kernel, by decide +kernel, by decide +kernel⟩ ⟨rfl, rfl⟩ ⟨Nat.le_of_ble_eq_true rfl, Nat.le_of_ble_eq_true rfl⟩ (by first | exact Nat.le_of_ble_eq_true rfl | simp [nv_cat, cat_i, cat_r, cat_n]) dX8_answer_8 ⟨by show (kc ν - kc ν0) + 0 ≤ kc r0.1.2 - kc ν0; omega, by show (ks ν - ks ν0) + 0 ≤ ks r0.1.2 - ks ν0; omega⟩ (fun r u hp hx => ?_)
  obtain ⟨er, rfl⟩ := hp
  rw [er]
  try dsimp only [List.append_nil]
  obtain ⟨v4, hv4, h⟩ := bind_of h
  refine g_cVq (n := 1) (exc := []) (exr := []) C [_] _ rfl rfl [] [] rfl rfl rfl rfl (fun _ h => absurd h (by simp)) (fun _ h => absurd h (by simp)) (fun _ h => absurd h (by simp)) (fun sz => c_X8_party l μ ν a Ad w v3 _ hv4 D E sz) rfl gw_304 gw_1 gw_301 gw_303 gs_2 ⟨by decide +kernel, by decide +kernel, by decide +kernel⟩ ⟨rfl, rfl⟩ ⟨Nat.le_of_ble_eq_true rfl, Nat.le_of_ble_eq_true rfl⟩ (rcvT (lvZ g1 rfl) rfl rfl rfl) (by first | exact Nat.le_of_ble_eq_true rfl | simp [nv_cat, cat_i, cat_r, cat_n]) dX8_answer_11 ⟨by show (kc ν - kc ν0) + 0 ≤ kc r0.1.2 - kc ν0; omega, by show (ks ν - ks ν0) + 0 ≤ ks r0.1.2 - ks ν0; omega⟩ (fun r u hp hx => ?_)
  obtain ⟨er, rfl⟩ := hp
  rw [er]
  try dsimp only [List.append_nil]
  obtain ⟨g5, h⟩ := of_guard h
  rw [nzB_e g5]
  obtain ⟨g6, h⟩ := of_guard h
  refine g_get (k := 1) (i := (v4 - 1)) (ref := "TradeLine$Party") (v := .ref (Ad 2 (v4 - 1))) C rfl (lvZ g6 rfl) rfl rfl inGX5 1 (by decide) gw_114 (fun _ h => h) rfl dX8_answer_14 ?_
  refine z_astore (lv' := [(4, .ref (Ad 2 (v4 - 1))), (3, nv (Ad 1) v2), (0, .ref (Ad 0 0)), (1, .int x1), (2, .int x2)]) C dX8_answer_17 (Or.inr ⟨_, rfl⟩) (by decide) (by simp [nv_cat, cat_i, cat_r, cat_n]) ?_
  refine z_aload_n C dX8_answer_19 rfl 1 rfl (nv_or _ _) ?_
  obtain ⟨g7, h⟩ := of_guard h
  rw [nzB_e g7]
  obtain ⟨g8, h⟩ := of_guard h
  refine g_get (k := 1) (i := (v2 - 1)) (ref := "TradeLine$Party") (v := .ref (Ad 4 (v2 - 1))) C rfl (lvZ g8 rfl) rfl rfl inGX5 0 (by decide) gw_112 (fun _ h => h) rfl dX8_answer_20 ?_
  obtain ⟨g9, h⟩ := of_guard h
  refine g_cVi (n := 0) (exc := []) (exr := []) C [] _ rfl rfl [] [] rfl rfl rfl rfl (fun _ h => absurd h (by simp)) (fun _ h => absurd h (by simp)) (fun _ h => absurd h (by simp)) (fun sz => c_Jx4a65c_size_8abf5 l μ ν a Ad _ g9 D E sz) rfl gw_308 gw_5 gw_305 gw_306 gw_307 ⟨by decide +kernel, by decide +kernel, by decide +kernel⟩ ⟨rfl, rfl⟩ ⟨Nat.le_of_ble_eq_true rfl, Nat.le_of_ble_eq_true rfl⟩ (rcvT (lvZ g9 rfl) rfl rfl rfl) (by first | exact Nat.le_of_ble_eq_true rfl | simp [nv_cat, cat_i, cat_r, cat_n]) dX8_answer_23 ⟨by show (kc ν - kc ν0) + 0 ≤ kc r0.1.2 - kc ν0; omega, by show (ks ν - ks ν0) + 0 ≤ ks r0.1.2 - ks ν0; omega⟩ (fun r u hp hx => ?_)
  obtain ⟨er, rfl⟩ := hp
  rw [er]
  try dsimp only [List.append_nil]
  refine q_topi (fun t10 et10 => ?_)
  replace h := yl_of h et10
  refine g_istore (lv' := [(5, .int t10), (4, .ref (Ad 2 (v4 - 1))), (3, .ref (Ad 1 (v2 - 1))), (0, .ref (Ad 0 0)), (1, .int x1), (2, .int x2)]) C dX8_answer_26 (by decide) rfl ?_
  refine g_iconst (v := (0 : Int32)) C dX8_answer_28 (by decide) ?_
  refine g_istore (lv' := [(6, .int (0 : Int32)), (5, .int t10), (4, .ref (Ad 2 (v4 - 1))), (3, .ref (Ad 1 (v2 - 1))), (0, .ref (Ad 0 0)), (1, .int x1), (2, .int x2)]) C dX8_answer_29 (by decide) rfl ?_
  refine g_iload_n C dX8_answer_31 rfl 6 rfl ?_
  refine g_iconst (v := (1 : Int32)) C dX8_answer_32 (by decide) ?_
  refine g_mmax C gw_563 gw_371 gw_19 gw_372 (Nat.le_of_ble_eq_true rfl) (Nat.le_of_ble_eq_true rfl) (by show kc ν - kc ν0 ≤ kc r0.1.2 - kc ν0; omega) (by show ks ν - ks ν0 ≤ ks r0.1.2 - ks ν0; omega) dX8_answer_33 ?_
  refine q_topi (fun t11 et11 => ?_)
  replace h := yl_of h et11
  refine g_istore (lv' := [(7, .int t11), (6, .int (0 : Int32)), (5, .int t10), (4, .ref (Ad 2 (v4 - 1))), (3, .ref (Ad 1 (v2 - 1))), (0, .ref (Ad 0 0)), (1, .int x1), (2, .int x2)]) C dX8_answer_36 (by decide) rfl ?_
  refine g_lv [5, 4, 3, 2, 1, 0] rfl ?_
  exact ll_X8_answer_38 C hEv hr hz   w _ _ _ _ _ _ _ _ hm0 hp0 h
theorem m_X8_answer {w : Nat} {μ : MP} {ν : NC} {x1 : Int32} {x2 : Int32} {r0 : (MP × NC) × Int32} (h : f_X8_answer w μ ν x1 x2 = some r0) : mn ν r0.1.2 := mb_X8_answer_0 h
theorem c_X8_answer (l : Launch) (B : Nat × (Nat → Nat)) (μ : MP) (ν : NC) (a : AS) (Ad : Nat → Nat → Nat) (w : Nat) (x1 : Int32) (x2 : Int32) (r0 : (MP × NC) × Int32) (h : f_X8_answer w μ ν x1 x2 = some r0) : ∀ D E sz, Met l yX8_answer gwX8_answer ({ frames := 5, cells := kc r0.1.2 - kc ν, slots := ks r0.1.2 - ks ν, locals := 124 } : Room) (cPe D E sz B (zS μ ν a Ad) [] [] [.ref (Ad 0 0), .int x1, .int x2]) (cQ D E sz (zS μ ν a Ad) [] (pV (fun u => ∃ A1, u = (zS r0.1.1 r0.1.2 a A1, []) ∧ kp ν Ad A1))) (kc r0.1.2 - kc ν) (ks r0.1.2 - ks ν) (Aof (zS μ ν a Ad) [] sz) := by
  intro D E sz
  refine g_ofe (cc := cX8_answer) (maxL := 9) (ret := none) (own := "TradeLine") (by decide) rfl rfl (Nat.le_of_ble_eq_true rfl) ?_
  intro p e s m args below meth c C hr hin hz ha hwr hEv
  refine g_lv (lv' := [(0, .ref (Ad 0 0)), (1, .int x1), (2, .int x2)]) [0, 1, 2] rfl ?_
  refine g_widen (k := kc ν - kc ν) (n := ks ν - ks ν) (Nat.zero_le _) (Nat.zero_le _) ?_
  exact lb_X8_answer_0 C hEv hr hz (mn_rfl _) (kp_rfl _ _) h
noncomputable def b_X8_reportPlainly_32  (w : Nat) (μ : MP) (ν : NC) : Option ((MP × NC) × Int32) := some ((μ, ν), (0 : Int32))
theorem mb_X8_reportPlainly_32 {w : Nat} {μ : MP} {ν : NC} {r0 : (MP × NC) × Int32}   (h : b_X8_reportPlainly_32  w μ ν  = some r0) : mn ν r0.1.2 := by
  unfold b_X8_reportPlainly_32 at h
  iterate 40 (try first | (with_reducible replace h := (of_guard h).2) | (with_reducible (replace h := of_guardP h; obtain ⟨hg, h⟩ := h)) | (with_reducible replace h := yl_of h rfl) | (with_reducible replace h := (of_thr h).2) | (with_reducible (replace h := bind_of h; obtain ⟨v, hv, h⟩ := h)) | (with_reducible split at h) | (with_reducible (replace h := Option.some.inj h; obtain rfl := h; exact mn_rfl _)) | (with_reducible exact absurd (congrArg Prod.fst (Option.some.inj h)) (by simp)))
set_option maxHeartbeats 4000000 in
set_option maxRecDepth 100000 in
theorem lb_X8_reportPlainly_32 {p : Program} {l : Launch} {e : Env} {s : State} {m : MethodId} {args : Array Value} {below : List Frame} {meth : Method} {c : Code} {D : va_G} {E : Nat → ClassId} {sz : Nat} {μ0 : MP} {ν0 : NC} {a : AS} {Ad0 : Nat → Nat → Nat} {w : Nat} {B : Nat × (Nat → Nat)} {r0 : (MP × NC) × Int32} (C : cx p s m args meth c D E (Aof (zS μ0 ν0 a Ad0) [] s.heap.size) cX8_reportPlainly 3 "TradeLine") (hEv : eV (Ad0 30 0) (Ad0 31 0) B (Aof (zS μ0 ν0 a Ad0) [] s.heap.size) s s.heap) (hr : meth.sig.returnType = none) (hz : s.heap.size = sz) {μ : MP} {ν : NC} {Ad : Nat → Nat → Nat} (hm0 : mn ν0 ν) (hp0 : kp ν0 Ad0 Ad)   (h : b_X8_reportPlainly_32  w μ ν  = some r0) : G p l e ({ frames := 8, cells := kc r0.1.2 - kc ν0, slots := ks r0.1.2 - ks ν0, locals := 246 } : Room) s m args below meth c D E (Aof (zS μ0 ν0 a Ad0) [] s.heap.size) 3 (MQ below (cQ D E sz (zS μ0 ν0 a Ad0) [] (pV (fun u => ∃ A1, u = (zS r0.1.1 r0.1.2 a A1, []) ∧ kp ν0 Ad0 A1))) args s (kc r0.1.2 - kc ν0) (ks r0.1.2 - ks ν0) (Aof (zS μ0 ν0 a Ad0) [] s.heap.size)) (zS μ ν a Ad) [] (kc ν - kc ν0) (ks ν - ks ν0) 32 [(0, .ref (Ad 0 0))] [] := by
  have m0 := mb_X8_reportPlainly_32  h
  have e1 := m0.2.1; have e2 := m0.2.2.1; have e3 := hm0.2.1; have e4 := hm0.2.2.1
  unfold b_X8_reportPlainly_32 at h
  obtain rfl := Option.some.inj h
  exact g_vret C hr hz ⟨(hm0.2.2.2 30 (by decide) (by decide)).1, (hm0.2.2.2 31 (by decide) (by decide)).1, hp0.2.1, hp0.2.2⟩ ⟨Ad, rfl, hp0⟩ (fun j x h => by simp at h) dX8_reportPlainly_32
noncomputable def b_X8_reportPlainly_7  (w : Nat) (μ : MP) (ν : NC) (x1 : Int32) (p2 : Nat) (s1 : Int32) (s2 : Int32) (f0 : Nat → Int32) : Option ((MP × NC) × Int32) := bif nzB p2 then bif ltB (p2 - 1) (ν.2 20) then bif ltB 0 (ν.2 0) then (f_X8_send_L w μ ν s2 s1 4 (up1 (up1 (up1 (up1 f0 0 (150 : Int32)) 1 x1) 2 (37 : Int32)) 3 (μ.1 20 (p2 - 1) 0))).bind (fun v4 => b_X8_reportPlainly_32  w v4.1.1 v4.1.2 ) else none else none else none
theorem mb_X8_reportPlainly_7 {w : Nat} {μ : MP} {ν : NC} {x1 : Int32} {p2 : Nat} {s1 : Int32} {s2 : Int32} {f0 : Nat → Int32} {r0 : (MP × NC) × Int32}   (h : b_X8_reportPlainly_7  w μ ν x1 p2 s1 s2 f0 = some r0) : mn ν r0.1.2 := by
  unfold b_X8_reportPlainly_7 at h
  iterate 40 (try first | (with_reducible replace h := (of_guard h).2) | (with_reducible (replace h := of_guardP h; obtain ⟨hg, h⟩ := h)) | (with_reducible replace h := yl_of h rfl) | (with_reducible replace h := (of_thr h).2) | (with_reducible (replace h := bind_of h; obtain ⟨v, hv, h⟩ := h)) | (with_reducible split at h) | (with_reducible (exact mn_trans (m_X8_send_L hv) (mb_X8_reportPlainly_32  h))) | (with_reducible exact absurd (congrArg Prod.fst (Option.some.inj h)) (by simp)))
set_option maxHeartbeats 4000000 in
set_option maxRecDepth 100000 in
theorem lb_X8_reportPlainly_7 {p : Program} {l : Launch} {e : Env} {s : State} {m : MethodId} {args : Array Value} {below : List Frame} {meth : Method} {c : Code} {D : va_G} {E : Nat → ClassId} {sz : Nat} {μ0 : MP} {ν0 : NC} {a : AS} {Ad0 : Nat → Nat → Nat} {w : Nat} {B : Nat × (Nat → Nat)} {r0 : (MP × NC) × Int32} (C : cx p s m args meth c D E (Aof (zS μ0 ν0 a Ad0) [] s.heap.size) cX8_reportPlainly 3 "TradeLine") (hEv : eV (Ad0 30 0) (Ad0 31 0) B (Aof (zS μ0 ν0 a Ad0) [] s.heap.size) s s.heap) (hr : meth.sig.returnType = none) (hz : s.heap.size = sz) {μ : MP} {ν : NC} {Ad : Nat → Nat → Nat} (hm0 : mn ν0 ν) (hp0 : kp ν0 Ad0 Ad) {x1 : Int32} {p2 : Nat} {s1 : Int32} {s2 : Int32} {f0 : Nat → Int32} {q0 : Nat} (hq0 : (Aof (zS μ0 ν0 a Ad0) [] s.heap.size) q0)   (h : b_X8_reportPlainly_7  w μ ν x1 p2 s1 s2 f0 = some r0) : G p l e ({ frames := 8, cells := kc r0.1.2 - kc ν0, slots := ks r0.1.2 - ks ν0, locals := 246 } : Room) s m args below meth c D E (Aof (zS μ0 ν0 a Ad0) [] s.heap.size) 3 (MQ below (cQ D E sz (zS μ0 ν0 a Ad0) [] (pV (fun u => ∃ A1, u = (zS r0.1.1 r0.1.2 a A1, []) ∧ kp ν0 Ad0 A1))) args s (kc r0.1.2 - kc ν0) (ks r0.1.2 - ks ν0) (Aof (zS μ0 ν0 a Ad0) [] s.heap.size)) (zS μ ν a Ad) [(q0, .inl (E 0, 4, .inl f0))] (kc ν - kc ν0) (ks ν - ks ν0) 7 [(0, .ref (Ad 0 0)), (1, .int x1), (2, nv (Ad 20) p2)] [.ref q0, .int s1, .int s2, .ref (Ad 0 0)] := by
  have m0 := mb_X8_reportPlainly_7  h
  have e1 := m0.2.1; have e2 := m0.2.2.1; have e3 := hm0.2.1; have e4 := hm0.2.2.1
  unfold b_X8_reportPlainly_7 at h
  refine g_dup C dX8_reportPlainly_7 rfl ?_
  refine g_iconst (v := (0 : Int32)) C dX8_reportPlainly_8 (by decide) ?_
  refine g_sipush (v := (150 : Int32)) C dX8_reportPlainly_9 (by decide) ?_
  refine g_iastL C 0 rfl hq0 (ixB_in rfl) (ex' := [(q0, .inl (E 0, 4, .inl (up1 f0 0 (150 : Int32))))]) rfl dX8_reportPlainly_12 ?_
  refine g_dup C dX8_reportPlainly_13 rfl ?_
  refine g_iconst (v := (1 : Int32)) C dX8_reportPlainly_14 (by decide) ?_
  refine g_iload_n C dX8_reportPlainly_15 rfl 1 rfl ?_
  refine g_iastL C 0 rfl hq0 (ixB_in rfl) (ex' := [(q0, .inl (E 0, 4, .inl (up1 (up1 f0 0 (150 : Int32)) 1 x1)))]) rfl dX8_reportPlainly_16 ?_
  refine g_dup C dX8_reportPlainly_17 rfl ?_
  refine g_iconst (v := (2 : Int32)) C dX8_reportPlainly_18 (by decide) ?_
  refine g_bipush (v := (37 : Int32)) C dX8_reportPlainly_19 (by decide) ?_
  refine g_iastL C 0 rfl hq0 (ixB_in rfl) (ex' := [(q0, .inl (E 0, 4, .inl (up1 (up1 (up1 f0 0 (150 : Int32)) 1 x1) 2 (37 : Int32))))]) rfl dX8_reportPlainly_21 ?_
  refine g_dup C dX8_reportPlainly_22 rfl ?_
  refine g_iconst (v := (3 : Int32)) C dX8_reportPlainly_23 (by decide) ?_
  refine z_aload_n C dX8_reportPlainly_24 rfl 2 rfl (nv_or _ _) ?_
  obtain ⟨g1, h⟩ := of_guard h
  rw [nzB_e g1]
  obtain ⟨g2, h⟩ := of_guard h
  refine g_get (k := 20) (i := (p2 - 1)) (ref := "TradeLine$Order") (v := .int (μ.1 20 (p2 - 1) 0)) C rfl (lvZ g2 rfl) rfl rfl inGX4 0 (by decide) gw_1110 (fun _ h => h) rfl dX8_reportPlainly_25 ?_
  refine g_iastL C 0 rfl hq0 (ixB_in rfl) (ex' := [(q0, .inl (E 0, 4, .inl (up1 (up1 (up1 (up1 f0 0 (150 : Int32)) 1 x1) 2 (37 : Int32)) 3 (μ.1 20 (p2 - 1) 0))))]) rfl dX8_reportPlainly_28 ?_
  obtain ⟨g3, h⟩ := of_guard h
  obtain ⟨v4, hv4, h⟩ := bind_of h
  have m2 := m_X8_send_L hv4
  have m3 := mb_X8_reportPlainly_32  h
  have a1 := hm0.2.1; have a2 := hm0.2.2.1; have b1 := m2.2.1; have b2 := m2.2.2.1; have d1 := m3.2.1; have d2 := m3.2.2.1
  refine g_lv [0] rfl ?_
  refine g_cVve (n := 3) (exc := [(q0, .inl (E 0, 4, .inl (up1 (up1 (up1 (up1 f0 0 (150 : Int32)) 1 x1) 2 (37 : Int32)) 3 (μ.1 20 (p2 - 1) 0))))]) (exr := []) C hEv ⟨hp0.2.1 0, hp0.2.2 0⟩ [_, _, _] _ rfl rfl [0] [] rfl rfl rfl rfl (fun _ h => by simp at h) (fun _ h => absurd h (by simp)) (fun _ h => absurd h (by simp)) (fun sz => c_X8_send_L l B μ ν a Ad w s2 s1 q0 4 (up1 (up1 (up1 (up1 f0 0 (150 : Int32)) 1 x1) 2 (37 : Int32)) 3 (μ.1 20 (p2 - 1) 0)) _ hv4 D E sz) rfl gw_300 gw_1 gw_297 gw_299 gs_1 ⟨by decide +kernel, by decide +kernel, by decide +kernel⟩ ⟨rfl, rfl⟩ ⟨Nat.le_of_ble_eq_true rfl, Nat.le_of_ble_eq_true rfl⟩ (rcvT (lvZ g3 rfl) rfl rfl rfl) (by first | exact Nat.le_of_ble_eq_true rfl | simp [nv_cat, cat_i, cat_r, cat_n]) dX8_reportPlainly_29 ⟨by show (kc ν - kc ν0) + (kc v4.1.2 - kc ν) ≤ kc r0.1.2 - kc ν0; omega, by show (ks ν - ks ν0) + (ks v4.1.2 - ks ν) ≤ ks r0.1.2 - ks ν0; omega⟩ (fun u hp hx => ?_)
  obtain ⟨A1, rfl, hkp⟩ := hp
  try dsimp only [List.append_nil]
  refine g_widen (k := kc v4.1.2 - kc ν0) (n := ks v4.1.2 - ks ν0) (by omega) (by omega) ?_
  rw [show Ad 0 0 = A1 0 0 from (hkp.1 0 _ rfl (of_decide_eq_true g3)).symm]
  exact lb_X8_reportPlainly_32 C hEv hr hz (mn_trans hm0 m2) (kp_trans hp0 hm0 hkp)   h
noncomputable def f_X8_reportPlainly  (w : Nat) (μ : MP) (ν : NC) (x1 : Int32) (p2 : Nat) : Option ((MP × NC) × Int32) := b_X8_reportPlainly_7  w μ (chg ν 1 4) x1 p2 (8 : Int32) (1 : Int32) (fun _ => 0)
theorem mb_X8_reportPlainly_0 {w : Nat} {μ : MP} {ν : NC} {x1 : Int32} {p2 : Nat} {r0 : (MP × NC) × Int32}   (h : f_X8_reportPlainly  w μ ν x1 p2 = some r0) : mn ν r0.1.2 := by
  unfold f_X8_reportPlainly at h
  iterate 40 (try first | (with_reducible replace h := (of_guard h).2) | (with_reducible (replace h := of_guardP h; obtain ⟨hg, h⟩ := h)) | (with_reducible replace h := yl_of h rfl) | (with_reducible replace h := (of_thr h).2) | (with_reducible (replace h := bind_of h; obtain ⟨v, hv, h⟩ := h)) | (with_reducible split at h) | (with_reducible (exact mn_trans (mn_chg _ _ _) (mb_X8_reportPlainly_7  h))) | (with_reducible exact absurd (congrArg Prod.fst (Option.some.inj h)) (by simp)))
set_option maxHeartbeats 4000000 in
set_option maxRecDepth 100000 in
theorem lb_X8_reportPlainly_0 {p : Program} {l : Launch} {e : Env} {s : State} {m : MethodId} {args : Array Value} {below : List Frame} {meth : Method} {c : Code} {D : va_G} {E : Nat → ClassId} {sz : Nat} {μ0 : MP} {ν0 : NC} {a : AS} {Ad0 : Nat → Nat → Nat} {w : Nat} {B : Nat × (Nat → Nat)} {r0 : (MP × NC) × Int32} (C : cx p s m args meth c D E (Aof (zS μ0 ν0 a Ad0) [] s.heap.size) cX8_reportPlainly 3 "TradeLine") (hEv : eV (Ad0 30 0) (Ad0 31 0) B (Aof (zS μ0 ν0 a Ad0) [] s.heap.size) s s.heap) (hr : meth.sig.returnType = none) (hz : s.heap.size = sz) {μ : MP} {ν : NC} {Ad : Nat → Nat → Nat} (hm0 : mn ν0 ν) (hp0 : kp ν0 Ad0 Ad) {x1 : Int32} {p2 : Nat}   (h : f_X8_reportPlainly  w μ ν x1 p2 = some r0) : G p l e ({ frames := 8, cells := kc r0.1.2 - kc ν0, slots := ks r0.1.2 - ks ν0, locals := 246 } : Room) s m args below meth c D E (Aof (zS μ0 ν0 a Ad0) [] s.heap.size) 3 (MQ below (cQ D E sz (zS μ0 ν0 a Ad0) [] (pV (fun u => ∃ A1, u = (zS r0.1.1 r0.1.2 a A1, []) ∧ kp ν0 Ad0 A1))) args s (kc r0.1.2 - kc ν0) (ks r0.1.2 - ks ν0) (Aof (zS μ0 ν0 a Ad0) [] s.heap.size)) (zS μ ν a Ad) [] (kc ν - kc ν0) (ks ν - ks ν0) 0 [(0, .ref (Ad 0 0)), (1, .int x1), (2, nv (Ad 20) p2)] [] := by
  have m0 := mb_X8_reportPlainly_0  h
  have e1 := m0.2.1; have e2 := m0.2.2.1; have e3 := hm0.2.1; have e4 := hm0.2.2.1
  unfold f_X8_reportPlainly at h
  refine g_aload_n C dX8_reportPlainly_0 rfl 0 rfl ?_
  refine g_iconst (v := (1 : Int32)) C dX8_reportPlainly_1 (by decide) ?_
  refine g_bipush (v := (8 : Int32)) C dX8_reportPlainly_2 (by decide) ?_
  refine g_iconst (v := (4 : Int32)) C dX8_reportPlainly_4 (by decide) ?_
  refine g_lv [0, 1, 2] rfl ?_
  have m2 := mn_chg ν 1 4
  have m3 := mb_X8_reportPlainly_7  h
  have a1 := hm0.2.1; have a2 := hm0.2.2.1; have b1 := m2.2.1; have b2 := m2.2.2.1; have d1 := m3.2.1; have d2 := m3.2.2.1
  rw [kc_chg] at b1 d1
  rw [ks_chg] at b2 d2
  refine g_newa (atype := .int) (ty := .int) (t := 0) (N' := 4) (a0 := (4, .inl (fun _ => 0))) C gw_95 rfl rfl (fun _ h => by cases h) (fun _ => rfl) (by decide) (by decide) (by decide) (by show (kc ν - kc ν0) + 1 ≤ kc r0.1.2 - kc ν0; omega) (by show (ks ν - ks ν0) + 4 ≤ ks r0.1.2 - ks ν0; omega) dX8_reportPlainly_5 (fun q0 hq0 hs0 => ?_)
  refine g_chg 1 4 ?_
  refine g_widen (k := kc (chg ν 1 4) - kc ν0) (n := ks (chg ν 1 4) - ks ν0) (by rw [kc_chg]; omega) (by rw [ks_chg]; omega) ?_
  exact lb_X8_reportPlainly_7 C hEv hr hz (mn_trans hm0 m2) hp0 hq0  h
theorem m_X8_reportPlainly {w : Nat} {μ : MP} {ν : NC} {x1 : Int32} {p2 : Nat} {r0 : (MP × NC) × Int32} (h : f_X8_reportPlainly w μ ν x1 p2 = some r0) : mn ν r0.1.2 := mb_X8_reportPlainly_0 h
theorem c_X8_reportPlainly (l : Launch) (B : Nat × (Nat → Nat)) (μ : MP) (ν : NC) (a : AS) (Ad : Nat → Nat → Nat) (w : Nat) (x1 : Int32) (p2 : Nat) (r0 : (MP × NC) × Int32) (h : f_X8_reportPlainly w μ ν x1 p2 = some r0) : ∀ D E sz, Met l yX8_reportPlainly gwX8_reportPlainly ({ frames := 8, cells := kc r0.1.2 - kc ν, slots := ks r0.1.2 - ks ν, locals := 246 } : Room) (cPe D E sz B (zS μ ν a Ad) [] [] [.ref (Ad 0 0), .int x1, nv (Ad 20) p2]) (cQ D E sz (zS μ ν a Ad) [] (pV (fun u => ∃ A1, u = (zS r0.1.1 r0.1.2 a A1, []) ∧ kp ν Ad A1))) (kc r0.1.2 - kc ν) (ks r0.1.2 - ks ν) (Aof (zS μ ν a Ad) [] sz) := by
  intro D E sz
  refine g_ofe (cc := cX8_reportPlainly) (maxL := 3) (ret := none) (own := "TradeLine") (by decide) rfl rfl (by cases p2 <;> exact Nat.le_of_ble_eq_true rfl) ?_
  intro p e s m args below meth c C hr hin hz ha hwr hEv
  refine g_lv (lv' := [(0, .ref (Ad 0 0)), (1, .int x1), (2, nv (Ad 20) p2)]) [0, 1, 2] (by cases p2 <;> rfl) ?_
  refine g_widen (k := kc ν - kc ν) (n := ks ν - ks ν) (Nat.zero_le _) (Nat.zero_le _) ?_
  exact lb_X8_reportPlainly_0 C hEv hr hz (mn_rfl _) (kp_rfl _ _) h
noncomputable def b_X8_houseCancels_30  (w : Nat) (μ : MP) (ν : NC) : Option ((MP × NC) × Int32) := some ((μ, ν), (0 : Int32))
theorem mb_X8_houseCancels_30 {w : Nat} {μ : MP} {ν : NC} {r0 : (MP × NC) × Int32}   (h : b_X8_houseCancels_30  w μ ν  = some r0) : mn ν r0.1.2 := by
  unfold b_X8_houseCancels_30 at h
  iterate 40 (try first | (with_reducible replace h := (of_guard h).2) | (with_reducible (replace h := of_guardP h; obtain ⟨hg, h⟩ := h)) | (with_reducible replace h := yl_of h rfl) | (with_reducible replace h := (of_thr h).2) | (with_reducible (replace h := bind_of h; obtain ⟨v, hv, h⟩ := h)) | (with_reducible split at h) | (with_reducible (replace h := Option.some.inj h; obtain rfl := h; exact mn_rfl _)) | (with_reducible exact absurd (congrArg Prod.fst (Option.some.inj h)) (by simp)))
set_option maxHeartbeats 4000000 in
set_option maxRecDepth 100000 in
theorem lb_X8_houseCancels_30 {p : Program} {l : Launch} {e : Env} {s : State} {m : MethodId} {args : Array Value} {below : List Frame} {meth : Method} {c : Code} {D : va_G} {E : Nat → ClassId} {sz : Nat} {μ0 : MP} {ν0 : NC} {a : AS} {Ad0 : Nat → Nat → Nat} {w : Nat} {B : Nat × (Nat → Nat)} {r0 : (MP × NC) × Int32} (C : cx p s m args meth c D E (Aof (zS μ0 ν0 a Ad0) [] s.heap.size) cX8_houseCancels 3 "TradeLine") (hEv : eV (Ad0 30 0) (Ad0 31 0) B (Aof (zS μ0 ν0 a Ad0) [] s.heap.size) s s.heap) (hr : meth.sig.returnType = none) (hz : s.heap.size = sz) {μ : MP} {ν : NC} {Ad : Nat → Nat → Nat} (hm0 : mn ν0 ν) (hp0 : kp ν0 Ad0 Ad)   (h : b_X8_houseCancels_30  w μ ν  = some r0) : G p l e ({ frames := 9, cells := kc r0.1.2 - kc ν0, slots := ks r0.1.2 - ks ν0, locals := 268 } : Room) s m args below meth c D E (Aof (zS μ0 ν0 a Ad0) [] s.heap.size) 3 (MQ below (cQ D E sz (zS μ0 ν0 a Ad0) [] (pV (fun u => ∃ A1, u = (zS r0.1.1 r0.1.2 a A1, []) ∧ kp ν0 Ad0 A1))) args s (kc r0.1.2 - kc ν0) (ks r0.1.2 - ks ν0) (Aof (zS μ0 ν0 a Ad0) [] s.heap.size)) (zS μ ν a Ad) [] (kc ν - kc ν0) (ks ν - ks ν0) 30 [(0, .ref (Ad 0 0))] [] := by
  have m0 := mb_X8_houseCancels_30  h
  have e1 := m0.2.1; have e2 := m0.2.2.1; have e3 := hm0.2.1; have e4 := hm0.2.2.1
  unfold b_X8_houseCancels_30 at h
  obtain rfl := Option.some.inj h
  exact g_vret C hr hz ⟨(hm0.2.2.2 30 (by decide) (by decide)).1, (hm0.2.2.2 31 (by decide) (by decide)).1, hp0.2.1, hp0.2.2⟩ ⟨Ad, rfl, hp0⟩ (fun j x h => by simp at h) dX8_houseCancels_30
noncomputable def b_X8_houseCancels_24  (w : Nat) (μ : MP) (ν : NC) (p1 : Nat) : Option ((MP × NC) × Int32) := bif ltB 0 (ν.2 0) then (f_X8_reportPlainly w μ ν (4 : Int32) p1).bind (fun v5 => b_X8_houseCancels_30  w v5.1.1 v5.1.2 ) else none
theorem mb_X8_houseCancels_24 {w : Nat} {μ : MP} {ν : NC} {p1 : Nat} {r0 : (MP × NC) × Int32}   (h : b_X8_houseCancels_24  w μ ν p1 = some r0) : mn ν r0.1.2 := by
  unfold b_X8_houseCancels_24 at h
  iterate 40 (try first | (with_reducible replace h := (of_guard h).2) | (with_reducible (replace h := of_guardP h; obtain ⟨hg, h⟩ := h)) | (with_reducible replace h := yl_of h rfl) | (with_reducible replace h := (of_thr h).2) | (with_reducible (replace h := bind_of h; obtain ⟨v, hv, h⟩ := h)) | (with_reducible split at h) | (with_reducible (exact mn_trans (m_X8_reportPlainly hv) (mb_X8_houseCancels_30  h))) | (with_reducible exact absurd (congrArg Prod.fst (Option.some.inj h)) (by simp)))
set_option maxHeartbeats 4000000 in
set_option maxRecDepth 100000 in
theorem lb_X8_houseCancels_24 {p : Program} {l : Launch} {e : Env} {s : State} {m : MethodId} {args : Array Value} {below : List Frame} {meth : Method} {c : Code} {D : va_G} {E : Nat → ClassId} {sz : Nat} {μ0 : MP} {ν0 : NC} {a : AS} {Ad0 : Nat → Nat → Nat} {w : Nat} {B : Nat × (Nat → Nat)} {r0 : (MP × NC) × Int32} (C : cx p s m args meth c D E (Aof (zS μ0 ν0 a Ad0) [] s.heap.size) cX8_houseCancels 3 "TradeLine") (hEv : eV (Ad0 30 0) (Ad0 31 0) B (Aof (zS μ0 ν0 a Ad0) [] s.heap.size) s s.heap) (hr : meth.sig.returnType = none) (hz : s.heap.size = sz) {μ : MP} {ν : NC} {Ad : Nat → Nat → Nat} (hm0 : mn ν0 ν) (hp0 : kp ν0 Ad0 Ad) {p1 : Nat}   (h : b_X8_houseCancels_24  w μ ν p1 = some r0) : G p l e ({ frames := 9, cells := kc r0.1.2 - kc ν0, slots := ks r0.1.2 - ks ν0, locals := 268 } : Room) s m args below meth c D E (Aof (zS μ0 ν0 a Ad0) [] s.heap.size) 3 (MQ below (cQ D E sz (zS μ0 ν0 a Ad0) [] (pV (fun u => ∃ A1, u = (zS r0.1.1 r0.1.2 a A1, []) ∧ kp ν0 Ad0 A1))) args s (kc r0.1.2 - kc ν0) (ks r0.1.2 - ks ν0) (Aof (zS μ0 ν0 a Ad0) [] s.heap.size)) (zS μ ν a Ad) [] (kc ν - kc ν0) (ks ν - ks ν0) 24 [(0, .ref (Ad 0 0)), (1, nv (Ad 20) p1)] [] := by
  have m0 := mb_X8_houseCancels_24  h
  have e1 := m0.2.1; have e2 := m0.2.2.1; have e3 := hm0.2.1; have e4 := hm0.2.2.1
  unfold b_X8_houseCancels_24 at h
  refine g_aload_n C dX8_houseCancels_24 rfl 0 rfl ?_
  refine g_iconst (v := (4 : Int32)) C dX8_houseCancels_25 (by decide) ?_
  refine z_aload_n C dX8_houseCancels_26 rfl 1 rfl (nv_or _ _) ?_
  obtain ⟨g4, h⟩ := of_guard h
  obtain ⟨v5, hv5, h⟩ := bind_of h
  have m2 := m_X8_reportPlainly hv5
  have m3 := mb_X8_houseCancels_30  h
  have a1 := hm0.2.1; have a2 := hm0.2.2.1; have b1 := m2.2.1; have b2 := m2.2.2.1; have d1 := m3.2.1; have d2 := m3.2.2.1
  refine g_lv [0] rfl ?_
  refine g_cVve (n := 2) (exc := []) (exr := []) C hEv ⟨hp0.2.1 0, hp0.2.2 0⟩ [_, _] _ rfl rfl [] [] rfl rfl rfl rfl (fun _ h => absurd h (by simp)) (fun _ h => absurd h (by simp)) (fun _ h => absurd h (by simp)) (fun sz => c_X8_reportPlainly l B μ ν a Ad w (4 : Int32) p1 _ hv5 D E sz) rfl gw_867 gw_1 gw_864 gw_866 gs_23 ⟨by decide +kernel, by decide +kernel, by decide +kernel⟩ ⟨rfl, rfl⟩ ⟨Nat.le_of_ble_eq_true rfl, Nat.le_of_ble_eq_true rfl⟩ (rcvT (lvZ g4 rfl) rfl rfl rfl) (by first | exact Nat.le_of_ble_eq_true rfl | simp [nv_cat, cat_i, cat_r, cat_n]) dX8_houseCancels_27 ⟨by show (kc ν - kc ν0) + (kc v5.1.2 - kc ν) ≤ kc r0.1.2 - kc ν0; omega, by show (ks ν - ks ν0) + (ks v5.1.2 - ks ν) ≤ ks r0.1.2 - ks ν0; omega⟩ (fun u hp hx => ?_)
  obtain ⟨A1, rfl, hkp⟩ := hp
  try dsimp only [List.append_nil]
  refine g_widen (k := kc v5.1.2 - kc ν0) (n := ks v5.1.2 - ks ν0) (by omega) (by omega) ?_
  rw [show Ad 0 0 = A1 0 0 from (hkp.1 0 _ rfl (of_decide_eq_true g4)).symm]
  exact lb_X8_houseCancels_30 C hEv hr hz (mn_trans hm0 m2) (kp_trans hp0 hm0 hkp)   h
noncomputable def b_X8_houseCancels_86  (w : Nat) (μ : MP) (ν : NC) : Option ((MP × NC) × Int32) := some ((μ, ν), (0 : Int32))
theorem mb_X8_houseCancels_86 {w : Nat} {μ : MP} {ν : NC} {r0 : (MP × NC) × Int32}   (h : b_X8_houseCancels_86  w μ ν  = some r0) : mn ν r0.1.2 := by
  unfold b_X8_houseCancels_86 at h
  iterate 40 (try first | (with_reducible replace h := (of_guard h).2) | (with_reducible (replace h := of_guardP h; obtain ⟨hg, h⟩ := h)) | (with_reducible replace h := yl_of h rfl) | (with_reducible replace h := (of_thr h).2) | (with_reducible (replace h := bind_of h; obtain ⟨v, hv, h⟩ := h)) | (with_reducible split at h) | (with_reducible (replace h := Option.some.inj h; obtain rfl := h; exact mn_rfl _)) | (with_reducible exact absurd (congrArg Prod.fst (Option.some.inj h)) (by simp)))
set_option maxHeartbeats 4000000 in
set_option maxRecDepth 100000 in
theorem lb_X8_houseCancels_86 {p : Program} {l : Launch} {e : Env} {s : State} {m : MethodId} {args : Array Value} {below : List Frame} {meth : Method} {c : Code} {D : va_G} {E : Nat → ClassId} {sz : Nat} {μ0 : MP} {ν0 : NC} {a : AS} {Ad0 : Nat → Nat → Nat} {w : Nat} {B : Nat × (Nat → Nat)} {r0 : (MP × NC) × Int32} (C : cx p s m args meth c D E (Aof (zS μ0 ν0 a Ad0) [] s.heap.size) cX8_houseCancels 3 "TradeLine") (hEv : eV (Ad0 30 0) (Ad0 31 0) B (Aof (zS μ0 ν0 a Ad0) [] s.heap.size) s s.heap) (hr : meth.sig.returnType = none) (hz : s.heap.size = sz) {μ : MP} {ν : NC} {Ad : Nat → Nat → Nat} (hm0 : mn ν0 ν) (hp0 : kp ν0 Ad0 Ad)   (h : b_X8_houseCancels_86  w μ ν  = some r0) : G p l e ({ frames := 9, cells := kc r0.1.2 - kc ν0, slots := ks r0.1.2 - ks ν0, locals := 268 } : Room) s m args below meth c D E (Aof (zS μ0 ν0 a Ad0) [] s.heap.size) 3 (MQ below (cQ D E sz (zS μ0 ν0 a Ad0) [] (pV (fun u => ∃ A1, u = (zS r0.1.1 r0.1.2 a A1, []) ∧ kp ν0 Ad0 A1))) args s (kc r0.1.2 - kc ν0) (ks r0.1.2 - ks ν0) (Aof (zS μ0 ν0 a Ad0) [] s.heap.size)) (zS μ ν a Ad) [] (kc ν - kc ν0) (ks ν - ks ν0) 86 [(0, .ref (Ad 0 0))] [] := by
  have m0 := mb_X8_houseCancels_86  h
  have e1 := m0.2.1; have e2 := m0.2.2.1; have e3 := hm0.2.1; have e4 := hm0.2.2.1
  unfold b_X8_houseCancels_86 at h
  obtain rfl := Option.some.inj h
  exact g_vret C hr hz ⟨(hm0.2.2.2 30 (by decide) (by decide)).1, (hm0.2.2.2 31 (by decide) (by decide)).1, hp0.2.1, hp0.2.2⟩ ⟨Ad, rfl, hp0⟩ (fun j x h => by simp at h) dX8_houseCancels_86
noncomputable def b_X8_houseCancels_52  (w : Nat) (μ : MP) (ν : NC) (p1 : Nat) (x2 : Int32) (s1 : Int32) (s2 : Int32) (f0 : Nat → Int32) : Option ((MP × NC) × Int32) := bif nzB p1 then bif ltB (p1 - 1) (ν.2 20) then bif ltB 0 (ν.2 0) then (f_X8_send_L w μ ν s2 s1 6 (up1 (up1 (up1 (up1 (up1 (up1 f0 0 (150 : Int32)) 1 (2 : Int32)) 2 (37 : Int32)) 3 (μ.1 20 (p1 - 1) 0)) 4 (32 : Int32)) 5 x2)).bind (fun v10 => b_X8_houseCancels_86  w v10.1.1 v10.1.2 ) else none else none else none
theorem mb_X8_houseCancels_52 {w : Nat} {μ : MP} {ν : NC} {p1 : Nat} {x2 : Int32} {s1 : Int32} {s2 : Int32} {f0 : Nat → Int32} {r0 : (MP × NC) × Int32}   (h : b_X8_houseCancels_52  w μ ν p1 x2 s1 s2 f0 = some r0) : mn ν r0.1.2 := by
  unfold b_X8_houseCancels_52 at h
  iterate 40 (try first | (with_reducible replace h := (of_guard h).2) | (with_reducible (replace h := of_guardP h; obtain ⟨hg, h⟩ := h)) | (with_reducible replace h := yl_of h rfl) | (with_reducible replace h := (of_thr h).2) | (with_reducible (replace h := bind_of h; obtain ⟨v, hv, h⟩ := h)) | (with_reducible split at h) | (with_reducible (exact mn_trans (m_X8_send_L hv) (mb_X8_houseCancels_86  h))) | (with_reducible exact absurd (congrArg Prod.fst (Option.some.inj h)) (by simp)))
set_option maxHeartbeats 4000000 in
set_option maxRecDepth 100000 in
theorem lb_X8_houseCancels_52 {p : Program} {l : Launch} {e : Env} {s : State} {m : MethodId} {args : Array Value} {below : List Frame} {meth : Method} {c : Code} {D : va_G} {E : Nat → ClassId} {sz : Nat} {μ0 : MP} {ν0 : NC} {a : AS} {Ad0 : Nat → Nat → Nat} {w : Nat} {B : Nat × (Nat → Nat)} {r0 : (MP × NC) × Int32} (C : cx p s m args meth c D E (Aof (zS μ0 ν0 a Ad0) [] s.heap.size) cX8_houseCancels 3 "TradeLine") (hEv : eV (Ad0 30 0) (Ad0 31 0) B (Aof (zS μ0 ν0 a Ad0) [] s.heap.size) s s.heap) (hr : meth.sig.returnType = none) (hz : s.heap.size = sz) {μ : MP} {ν : NC} {Ad : Nat → Nat → Nat} (hm0 : mn ν0 ν) (hp0 : kp ν0 Ad0 Ad) {p1 : Nat} {x2 : Int32} {s1 : Int32} {s2 : Int32} {f0 : Nat → Int32} {q0 : Nat} (hq0 : (Aof (zS μ0 ν0 a Ad0) [] s.heap.size) q0)   (h : b_X8_houseCancels_52  w μ ν p1 x2 s1 s2 f0 = some r0) : G p l e ({ frames := 9, cells := kc r0.1.2 - kc ν0, slots := ks r0.1.2 - ks ν0, locals := 268 } : Room) s m args below meth c D E (Aof (zS μ0 ν0 a Ad0) [] s.heap.size) 3 (MQ below (cQ D E sz (zS μ0 ν0 a Ad0) [] (pV (fun u => ∃ A1, u = (zS r0.1.1 r0.1.2 a A1, []) ∧ kp ν0 Ad0 A1))) args s (kc r0.1.2 - kc ν0) (ks r0.1.2 - ks ν0) (Aof (zS μ0 ν0 a Ad0) [] s.heap.size)) (zS μ ν a Ad) [(q0, .inl (E 0, 6, .inl f0))] (kc ν - kc ν0) (ks ν - ks ν0) 52 [(0, .ref (Ad 0 0)), (1, nv (Ad 20) p1), (2, .int x2)] [.ref q0, .int s1, .int s2, .ref (Ad 0 0)] := by
  have m0 := mb_X8_houseCancels_52  h
  have e1 := m0.2.1; have e2 := m0.2.2.1; have e3 := hm0.2.1; have e4 := hm0.2.2.1
  unfold b_X8_houseCancels_52 at h
  refine g_dup C dX8_houseCancels_52 rfl ?_
  refine g_iconst (v := (0 : Int32)) C dX8_houseCancels_53 (by decide) ?_
  refine g_sipush (v := (150 : Int32)) C dX8_houseCancels_54 (by decide) ?_
  refine g_iastL C 0 rfl hq0 (ixB_in rfl) (ex' := [(q0, .inl (E 0, 6, .inl (up1 f0 0 (150 : Int32))))]) rfl dX8_houseCancels_57 ?_
  refine g_dup C dX8_houseCancels_58 rfl ?_
  refine g_iconst (v := (1 : Int32)) C dX8_houseCancels_59 (by decide) ?_
  refine g_iconst (v := (2 : Int32)) C dX8_houseCancels_60 (by decide) ?_
  refine g_iastL C 0 rfl hq0 (ixB_in rfl) (ex' := [(q0, .inl (E 0, 6, .inl (up1 (up1 f0 0 (150 : Int32)) 1 (2 : Int32))))]) rfl dX8_houseCancels_61 ?_
  refine g_dup C dX8_houseCancels_62 rfl ?_
  refine g_iconst (v := (2 : Int32)) C dX8_houseCancels_63 (by decide) ?_
  refine g_bipush (v := (37 : Int32)) C dX8_houseCancels_64 (by decide) ?_
  refine g_iastL C 0 rfl hq0 (ixB_in rfl) (ex' := [(q0, .inl (E 0, 6, .inl (up1 (up1 (up1 f0 0 (150 : Int32)) 1 (2 : Int32)) 2 (37 : Int32))))]) rfl dX8_houseCancels_66 ?_
  refine g_dup C dX8_houseCancels_67 rfl ?_
  refine g_iconst (v := (3 : Int32)) C dX8_houseCancels_68 (by decide) ?_
  refine z_aload_n C dX8_houseCancels_69 rfl 1 rfl (nv_or _ _) ?_
  obtain ⟨g7, h⟩ := of_guard h
  rw [nzB_e g7]
  obtain ⟨g8, h⟩ := of_guard h
  refine g_get (k := 20) (i := (p1 - 1)) (ref := "TradeLine$Order") (v := .int (μ.1 20 (p1 - 1) 0)) C rfl (lvZ g8 rfl) rfl rfl inGX4 0 (by decide) gw_1110 (fun _ h => h) rfl dX8_houseCancels_70 ?_
  refine g_iastL C 0 rfl hq0 (ixB_in rfl) (ex' := [(q0, .inl (E 0, 6, .inl (up1 (up1 (up1 (up1 f0 0 (150 : Int32)) 1 (2 : Int32)) 2 (37 : Int32)) 3 (μ.1 20 (p1 - 1) 0))))]) rfl dX8_houseCancels_73 ?_
  refine g_dup C dX8_houseCancels_74 rfl ?_
  refine g_iconst (v := (4 : Int32)) C dX8_houseCancels_75 (by decide) ?_
  refine g_bipush (v := (32 : Int32)) C dX8_houseCancels_76 (by decide) ?_
  refine g_iastL C 0 rfl hq0 (ixB_in rfl) (ex' := [(q0, .inl (E 0, 6, .inl (up1 (up1 (up1 (up1 (up1 f0 0 (150 : Int32)) 1 (2 : Int32)) 2 (37 : Int32)) 3 (μ.1 20 (p1 - 1) 0)) 4 (32 : Int32))))]) rfl dX8_houseCancels_78 ?_
  refine g_dup C dX8_houseCancels_79 rfl ?_
  refine g_iconst (v := (5 : Int32)) C dX8_houseCancels_80 (by decide) ?_
  refine g_iload_n C dX8_houseCancels_81 rfl 2 rfl ?_
  refine g_iastL C 0 rfl hq0 (ixB_in rfl) (ex' := [(q0, .inl (E 0, 6, .inl (up1 (up1 (up1 (up1 (up1 (up1 f0 0 (150 : Int32)) 1 (2 : Int32)) 2 (37 : Int32)) 3 (μ.1 20 (p1 - 1) 0)) 4 (32 : Int32)) 5 x2)))]) rfl dX8_houseCancels_82 ?_
  obtain ⟨g9, h⟩ := of_guard h
  obtain ⟨v10, hv10, h⟩ := bind_of h
  have m2 := m_X8_send_L hv10
  have m3 := mb_X8_houseCancels_86  h
  have a1 := hm0.2.1; have a2 := hm0.2.2.1; have b1 := m2.2.1; have b2 := m2.2.2.1; have d1 := m3.2.1; have d2 := m3.2.2.1
  refine g_lv [0] rfl ?_
  refine g_cVve (n := 3) (exc := [(q0, .inl (E 0, 6, .inl (up1 (up1 (up1 (up1 (up1 (up1 f0 0 (150 : Int32)) 1 (2 : Int32)) 2 (37 : Int32)) 3 (μ.1 20 (p1 - 1) 0)) 4 (32 : Int32)) 5 x2)))]) (exr := []) C hEv ⟨hp0.2.1 0, hp0.2.2 0⟩ [_, _, _] _ rfl rfl [0] [] rfl rfl rfl rfl (fun _ h => by simp at h) (fun _ h => absurd h (by simp)) (fun _ h => absurd h (by simp)) (fun sz => c_X8_send_L l B μ ν a Ad w s2 s1 q0 6 (up1 (up1 (up1 (up1 (up1 (up1 f0 0 (150 : Int32)) 1 (2 : Int32)) 2 (37 : Int32)) 3 (μ.1 20 (p1 - 1) 0)) 4 (32 : Int32)) 5 x2) _ hv10 D E sz) rfl gw_300 gw_1 gw_297 gw_299 gs_1 ⟨by decide +kernel, by decide +kernel, by decide +kernel⟩ ⟨rfl, rfl⟩ ⟨Nat.le_of_ble_eq_true rfl, Nat.le_of_ble_eq_true rfl⟩ (rcvT (lvZ g9 rfl) rfl rfl rfl) (by first | exact Nat.le_of_ble_eq_true rfl | simp [nv_cat, cat_i, cat_r, cat_n]) dX8_houseCancels_83 ⟨by show (kc ν - kc ν0) + (kc v10.1.2 - kc ν) ≤ kc r0.1.2 - kc ν0; omega, by show (ks ν - ks ν0) + (ks v10.1.2 - ks ν) ≤ ks r0.1.2 - ks ν0; omega⟩ (fun u hp hx => ?_)
  obtain ⟨A1, rfl, hkp⟩ := hp
  try dsimp only [List.append_nil]
  refine g_widen (k := kc v10.1.2 - kc ν0) (n := ks v10.1.2 - ks ν0) (by omega) (by omega) ?_
  rw [show Ad 0 0 = A1 0 0 from (hkp.1 0 _ rfl (of_decide_eq_true g9)).symm]
  exact lb_X8_houseCancels_86 C hEv hr hz (mn_trans hm0 m2) (kp_trans hp0 hm0 hkp)   h
noncomputable def f_X8_houseCancels  (w : Nat) (μ : MP) (ν : NC) (p1 : Nat) : Option ((MP × NC) × Int32) := (if p1 = 0 then (some ((μ, ν), (0 : Int32))) else (bif ltB (p1 - 1) (ν.2 20) then bif ltB (2 * (p1 - 1) + 1) (ν.2 21) then (f_X1_rest w μ ν (2 * (p1 - 1) + 1) ).bind (fun v3 => (if (μ.1 20 (p1 - 1) 6) = (0 : Int32) then (b_X8_houseCancels_24  w μ ν ((p1 - 1) + 1)) else ((if (0 : Int32) < v3 then (yl (uM μ 21 (2 * (p1 - 1) + 1) 3 ((μ.1 21 (2 * (p1 - 1) + 1) 3) + v3)) (fun m6 => b_X8_houseCancels_52  w m6 (chg ν 1 6) ((p1 - 1) + 1) v3 (8 : Int32) (1 : Int32) (fun _ => 0))) else (b_X8_houseCancels_24  w μ ν ((p1 - 1) + 1)))))) else none else none))
theorem mb_X8_houseCancels_0 {w : Nat} {μ : MP} {ν : NC} {p1 : Nat} {r0 : (MP × NC) × Int32}   (h : f_X8_houseCancels  w μ ν p1 = some r0) : mn ν r0.1.2 := by
  unfold f_X8_houseCancels at h
  iterate 40 (try first | (with_reducible replace h := (of_guard h).2) | (with_reducible (replace h := of_guardP h; obtain ⟨hg, h⟩ := h)) | (with_reducible replace h := yl_of h rfl) | (with_reducible replace h := (of_thr h).2) | (with_reducible (replace h := bind_of h; obtain ⟨v, hv, h⟩ := h)) | (with_reducible split at h) | (with_reducible (replace h := Option.some.inj h; obtain rfl := h; exact mn_rfl _)) | (with_reducible (exact mb_X8_houseCancels_24  h)) | (with_reducible (exact mn_trans (mn_chg _ _ _) (mb_X8_houseCancels_52  h))) | (with_reducible exact absurd (congrArg Prod.fst (Option.some.inj h)) (by simp)))
set_option maxHeartbeats 4000000 in
set_option maxRecDepth 100000 in
theorem lb_X8_houseCancels_0 {p : Program} {l : Launch} {e : Env} {s : State} {m : MethodId} {args : Array Value} {below : List Frame} {meth : Method} {c : Code} {D : va_G} {E : Nat → ClassId} {sz : Nat} {μ0 : MP} {ν0 : NC} {a : AS} {Ad0 : Nat → Nat → Nat} {w : Nat} {B : Nat × (Nat → Nat)} {r0 : (MP × NC) × Int32} (C : cx p s m args meth c D E (Aof (zS μ0 ν0 a Ad0) [] s.heap.size) cX8_houseCancels 3 "TradeLine") (hEv : eV (Ad0 30 0) (Ad0 31 0) B (Aof (zS μ0 ν0 a Ad0) [] s.heap.size) s s.heap) (hr : meth.sig.returnType = none) (hz : s.heap.size = sz) {μ : MP} {ν : NC} {Ad : Nat → Nat → Nat} (hm0 : mn ν0 ν) (hp0 : kp ν0 Ad0 Ad) {p1 : Nat}   (h : f_X8_houseCancels  w μ ν p1 = some r0) : G p l e ({ frames := 9, cells := kc r0.1.2 - kc ν0, slots := ks r0.1.2 - ks ν0, locals := 268 } : Room) s m args below meth c D E (Aof (zS μ0 ν0 a Ad0) [] s.heap.size) 3 (MQ below (cQ D E sz (zS μ0 ν0 a Ad0) [] (pV (fun u => ∃ A1, u = (zS r0.1.1 r0.1.2 a A1, []) ∧ kp ν0 Ad0 A1))) args s (kc r0.1.2 - kc ν0) (ks r0.1.2 - ks ν0) (Aof (zS μ0 ν0 a Ad0) [] s.heap.size)) (zS μ ν a Ad) [] (kc ν - kc ν0) (ks ν - ks ν0) 0 [(0, .ref (Ad 0 0)), (1, nv (Ad 20) p1)] [] := by
  have m0 := mb_X8_houseCancels_0  h
  have e1 := m0.2.1; have e2 := m0.2.2.1; have e3 := hm0.2.1; have e4 := hm0.2.2.1
  unfold f_X8_houseCancels at h
  refine z_aload_n C dX8_houseCancels_0 rfl 1 rfl (nv_or _ _) ?_
  by_cases c1 : p1 = 0
  · replace h := (if_pos c1).symm.trans h
    rw [nv_z c1]
    refine z_ifnonnullN C dX8_houseCancels_1 ?_
    obtain rfl := Option.some.inj h
    exact g_vret C hr hz ⟨(hm0.2.2.2 30 (by decide) (by decide)).1, (hm0.2.2.2 31 (by decide) (by decide)).1, hp0.2.1, hp0.2.2⟩ ⟨Ad, rfl, hp0⟩ (fun j x h => by simp at h) dX8_houseCancels_4
  · replace h := (if_neg c1).symm.trans h
    rw [nv_n c1]
    refine z_ifnonnull (tgt := 5) C dX8_houseCancels_1 (by decide) ?_
    refine g_aload_n C dX8_houseCancels_5 rfl 1 rfl ?_
    obtain ⟨g1, h⟩ := of_guard h
    refine g_get (k := 20) (i := (p1 - 1)) (ref := "TradeLine$Order") (v := .ref (Ad 21 (2 * (p1 - 1) + 1))) C rfl (lvZ g1 rfl) rfl rfl inGX4 3 (by decide) gw_1116 (fun _ h => h) rfl dX8_houseCancels_6 ?_
    obtain ⟨g2, h⟩ := of_guard h
    obtain ⟨v3, hv3, h⟩ := bind_of h
    refine g_cVi (n := 0) (exc := []) (exr := []) C [] _ rfl rfl [] [] rfl rfl rfl rfl (fun _ h => absurd h (by simp)) (fun _ h => absurd h (by simp)) (fun _ h => absurd h (by simp)) (fun sz => c_X1_rest l μ ν a Ad w (2 * (p1 - 1) + 1)  _ hv3 D E sz) rfl gw_887 gw_31 gw_892 gw_885 gw_886 ⟨by decide +kernel, by decide +kernel, by decide +kernel⟩ ⟨rfl, rfl⟩ ⟨Nat.le_of_ble_eq_true rfl, Nat.le_of_ble_eq_true rfl⟩ (rcvT (lvZ g2 rfl) rfl rfl rfl) (by first | exact Nat.le_of_ble_eq_true rfl | simp [nv_cat, cat_i, cat_r, cat_n]) dX8_houseCancels_9 ⟨by show (kc ν - kc ν0) + 0 ≤ kc r0.1.2 - kc ν0; omega, by show (ks ν - ks ν0) + 0 ≤ ks r0.1.2 - ks ν0; omega⟩ (fun r u hp hx => ?_)
    obtain ⟨er, rfl⟩ := hp
    rw [er]
    try dsimp only [List.append_nil]
    refine g_istore_n (i := 2) (lv' := [(2, .int v3), (0, .ref (Ad 0 0)), (1, .ref (Ad 20 (p1 - 1)))]) C dX8_houseCancels_12 rfl (by decide) rfl ?_
    refine g_aload_n C dX8_houseCancels_13 rfl 2 rfl ?_
    refine g_get (k := 20) (i := (p1 - 1)) (ref := "TradeLine$Order") (v := .int (μ.1 20 (p1 - 1) 6)) C rfl (lvZ g1 rfl) rfl rfl inGX4 6 (by decide) gw_1121 (fun _ h => h) rfl dX8_houseCancels_14 ?_
    refine g_if_eq (tgt := 24) C dX8_houseCancels_17 (by decide) (fun c17 => ?_) (fun c17 => ?_)
    · replace h := (if_pos c17).symm.trans h
      refine g_lv [1, 2] rfl ?_
      exact lb_X8_houseCancels_24 C hEv hr hz hm0 hp0   h
    · replace h := (if_neg c17).symm.trans h
      refine g_iload_n C dX8_houseCancels_20 rfl 0 rfl ?_
      refine g_if_gt (tgt := 31) C dX8_houseCancels_21 (by decide) (fun c21 => ?_) (fun c21 => ?_)
      · replace h := (if_pos c21).symm.trans h
        refine g_aload_n C dX8_houseCancels_31 rfl 2 rfl ?_
        refine g_get (k := 20) (i := (p1 - 1)) (ref := "TradeLine$Order") (v := .ref (Ad 21 (2 * (p1 - 1) + 1))) C rfl (lvZ g1 rfl) rfl rfl inGX4 3 (by decide) gw_1116 (fun _ h => h) rfl dX8_houseCancels_32 ?_
        refine g_dup C dX8_houseCancels_35 rfl ?_
        refine g_get (k := 21) (i := (2 * (p1 - 1) + 1)) (ref := "TradeLine$Book") (v := .int (μ.1 21 (2 * (p1 - 1) + 1) 3)) C rfl (lvZ g2 rfl) rfl rfl inGX1 3 (by decide) gw_1099 (fun _ h => h) rfl dX8_houseCancels_36 ?_
        refine g_iload_n C dX8_houseCancels_39 rfl 0 rfl ?_
        refine g_iadd C dX8_houseCancels_40 ?_
        refine z_put (k := 21) (i := (2 * (p1 - 1) + 1)) (ref := "TradeLine$Book") C rfl g2 rfl rfl rfl inGX1 tyX1 tyX1_ok nmX1 3 (by decide) gw_1099 (fun _ h => h) rfl (tyX1_ok 3 (by decide)) rfl rfl (by simp [fvs]) (by simp [fvs, up1]) dX8_houseCancels_41 (fun m6 em6 => ?_)
        replace h := yl_of h em6
        refine g_aload_n C dX8_houseCancels_44 rfl 1 rfl ?_
        refine g_iconst (v := (1 : Int32)) C dX8_houseCancels_45 (by decide) ?_
        refine g_bipush (v := (8 : Int32)) C dX8_houseCancels_46 (by decide) ?_
        refine g_bipush (v := (6 : Int32)) C dX8_houseCancels_48 (by decide) ?_
        refine g_lv [1, 2, 0] rfl ?_
        have m2 := mn_chg ν 1 6
        have m3 := mb_X8_houseCancels_52  h
        have a1 := hm0.2.1; have a2 := hm0.2.2.1; have b1 := m2.2.1; have b2 := m2.2.2.1; have d1 := m3.2.1; have d2 := m3.2.2.1
        rw [kc_chg] at b1 d1
        rw [ks_chg] at b2 d2
        refine g_newa (atype := .int) (ty := .int) (t := 0) (N' := 6) (a0 := (6, .inl (fun _ => 0))) C gw_95 rfl rfl (fun _ h => by cases h) (fun _ => rfl) (by decide) (by decide) (by decide) (by show (kc ν - kc ν0) + 1 ≤ kc r0.1.2 - kc ν0; omega) (by show (ks ν - ks ν0) + 6 ≤ ks r0.1.2 - ks ν0; omega) dX8_houseCancels_50 (fun q0 hq0 hs0 => ?_)
        refine g_chg 1 6 ?_
        refine g_widen (k := kc (chg ν 1 6) - kc ν0) (n := ks (chg ν 1 6) - ks ν0) (by rw [kc_chg]; omega) (by rw [ks_chg]; omega) ?_
        exact lb_X8_houseCancels_52 C hEv hr hz (mn_trans hm0 m2) hp0 hq0  h
      · replace h := (if_neg c21).symm.trans h
        refine g_lv [1, 2] rfl ?_
        exact lb_X8_houseCancels_24 C hEv hr hz hm0 hp0   h
theorem m_X8_houseCancels {w : Nat} {μ : MP} {ν : NC} {p1 : Nat} {r0 : (MP × NC) × Int32} (h : f_X8_houseCancels w μ ν p1 = some r0) : mn ν r0.1.2 := mb_X8_houseCancels_0 h
theorem c_X8_houseCancels (l : Launch) (B : Nat × (Nat → Nat)) (μ : MP) (ν : NC) (a : AS) (Ad : Nat → Nat → Nat) (w : Nat) (p1 : Nat) (r0 : (MP × NC) × Int32) (h : f_X8_houseCancels w μ ν p1 = some r0) : ∀ D E sz, Met l yX8_houseCancels gwX8_houseCancels ({ frames := 9, cells := kc r0.1.2 - kc ν, slots := ks r0.1.2 - ks ν, locals := 268 } : Room) (cPe D E sz B (zS μ ν a Ad) [] [] [.ref (Ad 0 0), nv (Ad 20) p1]) (cQ D E sz (zS μ ν a Ad) [] (pV (fun u => ∃ A1, u = (zS r0.1.1 r0.1.2 a A1, []) ∧ kp ν Ad A1))) (kc r0.1.2 - kc ν) (ks r0.1.2 - ks ν) (Aof (zS μ ν a Ad) [] sz) := by
  intro D E sz
  refine g_ofe (cc := cX8_houseCancels) (maxL := 3) (ret := none) (own := "TradeLine") (by decide) rfl rfl (by cases p1 <;> exact Nat.le_of_ble_eq_true rfl) ?_
  intro p e s m args below meth c C hr hin hz ha hwr hEv
  refine g_lv (lv' := [(0, .ref (Ad 0 0)), (1, nv (Ad 20) p1)]) [0, 1] (by cases p1 <;> rfl) ?_
  refine g_widen (k := kc ν - kc ν) (n := ks ν - ks ν) (Nat.zero_le _) (Nat.zero_le _) ?_
  exact lb_X8_houseCancels_0 C hEv hr hz (mn_rfl _) (kp_rfl _ _) h
noncomputable def b_X8_rankBehindItsPrice_80  (w : Nat) (μ : MP) (ν : NC) : Option ((MP × NC) × Int32) := some ((μ, ν), (0 : Int32))
theorem mb_X8_rankBehindItsPrice_80 {w : Nat} {μ : MP} {ν : NC} {r0 : (MP × NC) × Int32}   (h : b_X8_rankBehindItsPrice_80  w μ ν  = some r0) : mn ν r0.1.2 := by
  unfold b_X8_rankBehindItsPrice_80 at h
  iterate 40 (try first | (with_reducible replace h := (of_guard h).2) | (with_reducible (replace h := of_guardP h; obtain ⟨hg, h⟩ := h)) | (with_reducible replace h := yl_of h rfl) | (with_reducible replace h := (of_thr h).2) | (with_reducible (replace h := bind_of h; obtain ⟨v, hv, h⟩ := h)) | (with_reducible split at h) | (with_reducible (replace h := Option.some.inj h; obtain rfl := h; exact mn_rfl _)) | (with_reducible exact absurd (congrArg Prod.fst (Option.some.inj h)) (by simp)))
set_option maxHeartbeats 4000000 in
set_option maxRecDepth 100000 in
theorem lb_X8_rankBehindItsPrice_80 {p : Program} {l : Launch} {e : Env} {s : State} {m : MethodId} {args : Array Value} {below : List Frame} {meth : Method} {c : Code} {D : va_G} {E : Nat → ClassId} {sz : Nat} {μ0 : MP} {ν0 : NC} {a : AS} {Ad0 : Nat → Nat → Nat} {w : Nat} {B : Nat × (Nat → Nat)} {r0 : (MP × NC) × Int32} (C : cx p s m args meth c D E (Aof (zS μ0 ν0 a Ad0) [] s.heap.size) cX8_rankBehindItsPrice 4 "TradeLine") (hEv : eV (Ad0 30 0) (Ad0 31 0) B (Aof (zS μ0 ν0 a Ad0) [] s.heap.size) s s.heap) (hr : meth.sig.returnType = none) (hz : s.heap.size = sz) {μ : MP} {ν : NC} {Ad : Nat → Nat → Nat} (hm0 : mn ν0 ν) (hp0 : kp ν0 Ad0 Ad)   (h : b_X8_rankBehindItsPrice_80  w μ ν  = some r0) : G p l e ({ frames := 7, cells := kc r0.1.2 - kc ν0, slots := ks r0.1.2 - ks ν0, locals := 224 } : Room) s m args below meth c D E (Aof (zS μ0 ν0 a Ad0) [] s.heap.size) 4 (MQ below (cQ D E sz (zS μ0 ν0 a Ad0) [] (pV (fun u => ∃ A1, u = (zS r0.1.1 r0.1.2 a A1, []) ∧ kp ν0 Ad0 A1))) args s (kc r0.1.2 - kc ν0) (ks r0.1.2 - ks ν0) (Aof (zS μ0 ν0 a Ad0) [] s.heap.size)) (zS μ ν a Ad) [] (kc ν - kc ν0) (ks ν - ks ν0) 80 [(0, .ref (Ad 0 0))] [] := by
  have m0 := mb_X8_rankBehindItsPrice_80  h
  have e1 := m0.2.1; have e2 := m0.2.2.1; have e3 := hm0.2.1; have e4 := hm0.2.2.1
  unfold b_X8_rankBehindItsPrice_80 at h
  obtain rfl := Option.some.inj h
  exact g_vret C hr hz ⟨(hm0.2.2.2 30 (by decide) (by decide)).1, (hm0.2.2.2 31 (by decide) (by decide)).1, hp0.2.1, hp0.2.2⟩ ⟨Ad, rfl, hp0⟩ (fun j x h => by simp at h) dX8_rankBehindItsPrice_80
noncomputable def b_X8_rankBehindItsPrice_74  (w : Nat) (μ : MP) (ν : NC) (p1 : Nat) (p2 : Nat) (x3 : Int32) : Option ((MP × NC) × Int32) := bif nzB p2 then bif ltB (p2 - 1) (ν.2 4) then bif eqB (eK 5 (p2 - 1)) 20 then bif ltB 0 (ν.2 0) then (f_Jx4a65c_add_7a177 w μ ν (p2 - 1) x3 p1).bind (fun v12 => b_X8_rankBehindItsPrice_80  w v12.1.1 v12.1.2 ) else none else none else none else none
theorem mb_X8_rankBehindItsPrice_74 {w : Nat} {μ : MP} {ν : NC} {p1 : Nat} {p2 : Nat} {x3 : Int32} {r0 : (MP × NC) × Int32}   (h : b_X8_rankBehindItsPrice_74  w μ ν p1 p2 x3 = some r0) : mn ν r0.1.2 := by
  unfold b_X8_rankBehindItsPrice_74 at h
  iterate 40 (try first | (with_reducible replace h := (of_guard h).2) | (with_reducible (replace h := of_guardP h; obtain ⟨hg, h⟩ := h)) | (with_reducible replace h := yl_of h rfl) | (with_reducible replace h := (of_thr h).2) | (with_reducible (replace h := bind_of h; obtain ⟨v, hv, h⟩ := h)) | (with_reducible split at h) | (with_reducible (exact mn_trans (m_Jx4a65c_add_7a177 hv) (mb_X8_rankBehindItsPrice_80  h))) | (with_reducible exact absurd (congrArg Prod.fst (Option.some.inj h)) (by simp)))
set_option maxHeartbeats 4000000 in
set_option maxRecDepth 100000 in
theorem lb_X8_rankBehindItsPrice_74 {p : Program} {l : Launch} {e : Env} {s : State} {m : MethodId} {args : Array Value} {below : List Frame} {meth : Method} {c : Code} {D : va_G} {E : Nat → ClassId} {sz : Nat} {μ0 : MP} {ν0 : NC} {a : AS} {Ad0 : Nat → Nat → Nat} {w : Nat} {B : Nat × (Nat → Nat)} {r0 : (MP × NC) × Int32} (C : cx p s m args meth c D E (Aof (zS μ0 ν0 a Ad0) [] s.heap.size) cX8_rankBehindItsPrice 4 "TradeLine") (hEv : eV (Ad0 30 0) (Ad0 31 0) B (Aof (zS μ0 ν0 a Ad0) [] s.heap.size) s s.heap) (hr : meth.sig.returnType = none) (hz : s.heap.size = sz) {μ : MP} {ν : NC} {Ad : Nat → Nat → Nat} (hm0 : mn ν0 ν) (hp0 : kp ν0 Ad0 Ad) {p1 : Nat} {p2 : Nat} {x3 : Int32}   (h : b_X8_rankBehindItsPrice_74  w μ ν p1 p2 x3 = some r0) : G p l e ({ frames := 7, cells := kc r0.1.2 - kc ν0, slots := ks r0.1.2 - ks ν0, locals := 224 } : Room) s m args below meth c D E (Aof (zS μ0 ν0 a Ad0) [] s.heap.size) 4 (MQ below (cQ D E sz (zS μ0 ν0 a Ad0) [] (pV (fun u => ∃ A1, u = (zS r0.1.1 r0.1.2 a A1, []) ∧ kp ν0 Ad0 A1))) args s (kc r0.1.2 - kc ν0) (ks r0.1.2 - ks ν0) (Aof (zS μ0 ν0 a Ad0) [] s.heap.size)) (zS μ ν a Ad) [] (kc ν - kc ν0) (ks ν - ks ν0) 74 [(0, .ref (Ad 0 0)), (1, nv (Ad 20) p1), (2, nv (Ad 4) p2), (3, .int x3)] [] := by
  have m0 := mb_X8_rankBehindItsPrice_74  h
  have e1 := m0.2.1; have e2 := m0.2.2.1; have e3 := hm0.2.1; have e4 := hm0.2.2.1
  unfold b_X8_rankBehindItsPrice_74 at h
  refine z_aload_n C dX8_rankBehindItsPrice_74 rfl 2 rfl (nv_or _ _) ?_
  refine g_iload_n C dX8_rankBehindItsPrice_75 rfl 3 rfl ?_
  refine z_aload_n C dX8_rankBehindItsPrice_76 rfl 1 rfl (nv_or _ _) ?_
  obtain ⟨g9, h⟩ := of_guard h
  rw [nzB_e g9]
  obtain ⟨g10, h⟩ := of_guard h
  obtain ⟨g11, h⟩ := of_guard h
  obtain ⟨g13, h⟩ := of_guard h
  obtain ⟨v12, hv12, h⟩ := bind_of h
  have m2 := m_Jx4a65c_add_7a177 hv12
  have m3 := mb_X8_rankBehindItsPrice_80  h
  have a1 := hm0.2.1; have a2 := hm0.2.2.1; have b1 := m2.2.1; have b2 := m2.2.2.1; have d1 := m3.2.1; have d2 := m3.2.2.1
  refine g_lv [0] rfl ?_
  rw [show nv (Ad 20) p1 = nv (Ad (eK 5 (p2 - 1))) p1 from by rw [eqB_e g11]]
  refine g_cVve (n := 2) (exc := []) (exr := []) C hEv ⟨hp0.2.1 0, hp0.2.2 0⟩ [_, _] _ rfl rfl [] [] rfl rfl rfl rfl (fun _ h => absurd h (by simp)) (fun _ h => absurd h (by simp)) (fun _ h => absurd h (by simp)) (fun sz => c_Jx4a65c_add_7a177 l B μ ν a Ad w (p2 - 1) x3 p1 _ hv12 D E sz) rfl gw_624 gw_5 gw_621 gw_622 gw_623 ⟨by decide +kernel, by decide +kernel, by decide +kernel⟩ ⟨rfl, rfl⟩ ⟨Nat.le_of_ble_eq_true rfl, Nat.le_of_ble_eq_true rfl⟩ (rcvT (lvZ g10 rfl) rfl rfl rfl) (by first | exact Nat.le_of_ble_eq_true rfl | simp [nv_cat, cat_i, cat_r, cat_n]) dX8_rankBehindItsPrice_77 ⟨by show (kc ν - kc ν0) + (kc v12.1.2 - kc ν) ≤ kc r0.1.2 - kc ν0; omega, by show (ks ν - ks ν0) + (ks v12.1.2 - ks ν) ≤ ks r0.1.2 - ks ν0; omega⟩ (fun u hp hx => ?_)
  obtain ⟨A1, rfl, hkp⟩ := hp
  try dsimp only [List.append_nil]
  refine g_widen (k := kc v12.1.2 - kc ν0) (n := ks v12.1.2 - ks ν0) (by omega) (by omega) ?_
  rw [show Ad 0 0 = A1 0 0 from (hkp.1 0 _ rfl (of_decide_eq_true g13)).symm]
  exact lb_X8_rankBehindItsPrice_80 C hEv hr hz (mn_trans hm0 m2) (kp_trans hp0 hm0 hkp)   h
noncomputable def b_X8_rankBehindItsPrice_45 (k45 : MP → NC → Nat → Nat → Int32 → Option ((MP × NC) × Int32)) (w : Nat) (μ : MP) (ν : NC) (p1 : Nat) (p2 : Nat) (x3 : Int32) : Option ((MP × NC) × Int32) := bif nzB p2 then bif ltB (p2 - 1) (ν.2 4) then (if (μ.1 4 (p2 - 1) 2) ≤ x3 then (b_X8_rankBehindItsPrice_74  w μ ν p1 ((p2 - 1) + 1) x3) else ((ls_get μ ν (p2 - 1) x3).bind (fun v14 => bif eqB (eK 5 (p2 - 1)) 20 then bif ltB v14 (ν.2 20) then bif nzB p1 then bif ltB (p1 - 1) (ν.2 20) then (f_X4_hasBetterPriceThan w μ ν (p1 - 1) (v14 + 1)).bind (fun v19 => (if v19 = (0 : Int32) then (yl (x3 + (1 : Int32)) (fun t20 => k45 μ ν ((p1 - 1) + 1) ((p2 - 1) + 1) t20)) else (b_X8_rankBehindItsPrice_74  w μ ν ((p1 - 1) + 1) ((p2 - 1) + 1) x3))) else none else none else none else none))) else none else none
theorem mb_X8_rankBehindItsPrice_45 {w : Nat} {μ : MP} {ν : NC} {p1 : Nat} {p2 : Nat} {x3 : Int32} {r0 : (MP × NC) × Int32} {k45 : MP → NC → Nat → Nat → Int32 → Option ((MP × NC) × Int32)} (hmk45 : ∀ (μ : MP) (ν : NC) (z1 : Nat) (z2 : Nat) (z3 : Int32), k45 μ ν z1 z2 z3 = some r0 → mn ν r0.1.2) (h : b_X8_rankBehindItsPrice_45 k45 w μ ν p1 p2 x3 = some r0) : mn ν r0.1.2 := by
  unfold b_X8_rankBehindItsPrice_45 at h
  iterate 40 (try first | (with_reducible replace h := (of_guard h).2) | (with_reducible (replace h := of_guardP h; obtain ⟨hg, h⟩ := h)) | (with_reducible replace h := yl_of h rfl) | (with_reducible replace h := (of_thr h).2) | (with_reducible (replace h := bind_of h; obtain ⟨v, hv, h⟩ := h)) | (with_reducible split at h) | (with_reducible (exact mb_X8_rankBehindItsPrice_74  h)) | (with_reducible (exact hmk45 _ _ _ _ _ h)) | (with_reducible exact absurd (congrArg Prod.fst (Option.some.inj h)) (by simp)))
set_option maxHeartbeats 4000000 in
set_option maxRecDepth 100000 in
theorem lb_X8_rankBehindItsPrice_45 {p : Program} {l : Launch} {e : Env} {s : State} {m : MethodId} {args : Array Value} {below : List Frame} {meth : Method} {c : Code} {D : va_G} {E : Nat → ClassId} {sz : Nat} {μ0 : MP} {ν0 : NC} {a : AS} {Ad0 : Nat → Nat → Nat} {w : Nat} {B : Nat × (Nat → Nat)} {r0 : (MP × NC) × Int32} (C : cx p s m args meth c D E (Aof (zS μ0 ν0 a Ad0) [] s.heap.size) cX8_rankBehindItsPrice 4 "TradeLine") (hEv : eV (Ad0 30 0) (Ad0 31 0) B (Aof (zS μ0 ν0 a Ad0) [] s.heap.size) s s.heap) (hr : meth.sig.returnType = none) (hz : s.heap.size = sz) {μ : MP} {ν : NC} {Ad : Nat → Nat → Nat} (hm0 : mn ν0 ν) (hp0 : kp ν0 Ad0 Ad) {p1 : Nat} {p2 : Nat} {x3 : Int32} {k45 : MP → NC → Nat → Nat → Int32 → Option ((MP × NC) × Int32)} (hmk45 : ∀ (μ : MP) (ν : NC) (z1 : Nat) (z2 : Nat) (z3 : Int32), k45 μ ν z1 z2 z3 = some r0 → mn ν r0.1.2) (hk45 : ∀ (μ : MP) (ν : NC) (Ad : Nat → Nat → Nat) (z1 : Nat) (z2 : Nat) (z3 : Int32), mn ν0 ν → kp ν0 Ad0 Ad → k45 μ ν z1 z2 z3 = some r0 → G p l e ({ frames := 7, cells := kc r0.1.2 - kc ν0, slots := ks r0.1.2 - ks ν0, locals := 224 } : Room) s m args below meth c D E (Aof (zS μ0 ν0 a Ad0) [] s.heap.size) 4 (MQ below (cQ D E sz (zS μ0 ν0 a Ad0) [] (pV (fun u => ∃ A1, u = (zS r0.1.1 r0.1.2 a A1, []) ∧ kp ν0 Ad0 A1))) args s (kc r0.1.2 - kc ν0) (ks r0.1.2 - ks ν0) (Aof (zS μ0 ν0 a Ad0) [] s.heap.size)) (zS μ ν a Ad) [] (kc ν - kc ν0) (ks ν - ks ν0) 45 [(0, .ref (Ad 0 0)), (1, nv (Ad 20) z1), (2, nv (Ad 4) z2), (3, .int z3)] []) (h : b_X8_rankBehindItsPrice_45 k45 w μ ν p1 p2 x3 = some r0) : G p l e ({ frames := 7, cells := kc r0.1.2 - kc ν0, slots := ks r0.1.2 - ks ν0, locals := 224 } : Room) s m args below meth c D E (Aof (zS μ0 ν0 a Ad0) [] s.heap.size) 4 (MQ below (cQ D E sz (zS μ0 ν0 a Ad0) [] (pV (fun u => ∃ A1, u = (zS r0.1.1 r0.1.2 a A1, []) ∧ kp ν0 Ad0 A1))) args s (kc r0.1.2 - kc ν0) (ks r0.1.2 - ks ν0) (Aof (zS μ0 ν0 a Ad0) [] s.heap.size)) (zS μ ν a Ad) [] (kc ν - kc ν0) (ks ν - ks ν0) 45 [(0, .ref (Ad 0 0)), (1, nv (Ad 20) p1), (2, nv (Ad 4) p2), (3, .int x3)] [] := by
  have m0 := mb_X8_rankBehindItsPrice_45 hmk45 h
  have e1 := m0.2.1; have e2 := m0.2.2.1; have e3 := hm0.2.1; have e4 := hm0.2.2.1
  unfold b_X8_rankBehindItsPrice_45 at h
  refine g_iload_n C dX8_rankBehindItsPrice_45 rfl 3 rfl ?_
  refine z_aload_n C dX8_rankBehindItsPrice_46 rfl 2 rfl (nv_or _ _) ?_
  obtain ⟨g7, h⟩ := of_guard h
  rw [nzB_e g7]
  obtain ⟨g8, h⟩ := of_guard h
  refine g_cVi (n := 0) (exc := []) (exr := []) C [] _ rfl rfl [] [] rfl rfl rfl rfl (fun _ h => absurd h (by simp)) (fun _ h => absurd h (by simp)) (fun _ h => absurd h (by simp)) (fun sz => c_Jx4a65c_size_8abf5 l μ ν a Ad _ g8 D E sz) rfl gw_308 gw_5 gw_305 gw_306 gw_307 ⟨by decide +kernel, by decide +kernel, by decide +kernel⟩ ⟨rfl, rfl⟩ ⟨Nat.le_of_ble_eq_true rfl, Nat.le_of_ble_eq_true rfl⟩ (rcvT (lvZ g8 rfl) rfl rfl rfl) (by first | exact Nat.le_of_ble_eq_true rfl | simp [nv_cat, cat_i, cat_r, cat_n]) dX8_rankBehindItsPrice_47 ⟨by show (kc ν - kc ν0) + 0 ≤ kc r0.1.2 - kc ν0; omega, by show (ks ν - ks ν0) + 0 ≤ ks r0.1.2 - ks ν0; omega⟩ (fun r u hp hx => ?_)
  obtain ⟨er, rfl⟩ := hp
  rw [er]
  try dsimp only [List.append_nil]
  refine g_icmp_ge (tgt := 74) C dX8_rankBehindItsPrice_50 (by decide) (fun c50 => ?_) (fun c50 => ?_)
  · replace h := (if_pos c50).symm.trans h
    refine g_lv [0, 1, 2, 3] rfl ?_
    exact lb_X8_rankBehindItsPrice_74 C hEv hr hz hm0 hp0   h
  · replace h := (if_neg c50).symm.trans h
    refine z_aload_n C dX8_rankBehindItsPrice_53 rfl 1 rfl (nv_or _ _) ?_
    refine g_aload_n C dX8_rankBehindItsPrice_54 rfl 2 rfl ?_
    refine g_iload_n C dX8_rankBehindItsPrice_55 rfl 3 rfl ?_
    obtain ⟨v14, hv14, h⟩ := bind_of h
    refine g_cVq (n := 1) (exc := []) (exr := []) C [_] _ rfl rfl [] [] rfl rfl rfl rfl (fun _ h => absurd h (by simp)) (fun _ h => absurd h (by simp)) (fun _ h => absurd h (by simp)) (fun sz => c_Jx4a65c_get_915e3 l μ ν a Ad _ _ _ hv14 D E sz) rfl gw_543 gw_5 gw_576 gw_541 gw_542 ⟨by decide +kernel, by decide +kernel, by decide +kernel⟩ ⟨rfl, rfl⟩ ⟨Nat.le_of_ble_eq_true rfl, Nat.le_of_ble_eq_true rfl⟩ (rcvT (lvZ g8 rfl) rfl rfl rfl) (by first | exact Nat.le_of_ble_eq_true rfl | simp [nv_cat, cat_i, cat_r, cat_n]) dX8_rankBehindItsPrice_56 ⟨by show (kc ν - kc ν0) + 0 ≤ kc r0.1.2 - kc ν0; omega, by show (ks ν - ks ν0) + 0 ≤ ks r0.1.2 - ks ν0; omega⟩ (fun r u hp hx => ?_)
    obtain ⟨er, rfl⟩ := hp
    rw [er]
    try dsimp only [List.append_nil]
    obtain ⟨g15, h⟩ := of_guard h
    rw [eqB_e g15]
    obtain ⟨g16, h⟩ := of_guard h
    refine z_cast (k := 20) (i := v14) C (lvZ g16 rfl) rfl rfl gw_577 dX8_rankBehindItsPrice_59 ?_
    obtain ⟨g17, h⟩ := of_guard h
    rw [nzB_e g17]
    obtain ⟨g18, h⟩ := of_guard h
    obtain ⟨v19, hv19, h⟩ := bind_of h
    refine g_cVi (n := 1) (exc := []) (exr := []) C [_] _ rfl rfl [] [] rfl rfl rfl rfl (fun _ h => absurd h (by simp)) (fun _ h => absurd h (by simp)) (fun _ h => absurd h (by simp)) (fun sz => c_X4_hasBetterPriceThan l μ ν a Ad w (p1 - 1) (v14 + 1) _ hv19 D E sz) rfl gw_620 gw_30 gw_617 gw_618 gw_619 ⟨by decide +kernel, by decide +kernel, by decide +kernel⟩ ⟨rfl, rfl⟩ ⟨Nat.le_of_ble_eq_true rfl, Nat.le_of_ble_eq_true rfl⟩ (rcvT (lvZ g18 rfl) rfl rfl rfl) (by first | exact Nat.le_of_ble_eq_true rfl | simp [nv_cat, cat_i, cat_r, cat_n]) dX8_rankBehindItsPrice_62 ⟨by show (kc ν - kc ν0) + 0 ≤ kc r0.1.2 - kc ν0; omega, by show (ks ν - ks ν0) + 0 ≤ ks r0.1.2 - ks ν0; omega⟩ (fun r u hp hx => ?_)
    obtain ⟨er, rfl⟩ := hp
    rw [er]
    try dsimp only [List.append_nil]
    refine g_if_ne (tgt := 74) C dX8_rankBehindItsPrice_65 (by decide) (fun c65 => ?_) (fun c65 => ?_)
    · replace h := (if_neg c65).symm.trans h
      refine g_lv [0, 1, 2, 3] rfl ?_
      exact lb_X8_rankBehindItsPrice_74 C hEv hr hz hm0 hp0   h
    · replace h := (if_pos c65).symm.trans h
      obtain ⟨t20, et20⟩ : ∃ y : Int32, x3 + (1 : Int32) = y := ⟨_, rfl⟩
      replace h := yl_of h et20
      refine g_iinc (v := t20) (lv' := [(3, .int t20), (0, .ref (Ad 0 0)), (1, .ref (Ad 20 (p1 - 1))), (2, .ref (Ad 4 (p2 - 1)))]) C dX8_rankBehindItsPrice_68 3 rfl (by rw [← et20]; rfl) (by decide) rfl ?_
      refine g_goto (tgt := 45) C dX8_rankBehindItsPrice_71 (by decide) ?_
      refine g_lv [1, 2, 3, 0] rfl ?_
      exact hk45 _ _ _ _ _ _ hm0 hp0 h
noncomputable def l_X8_rankBehindItsPrice_45  (w : Nat) : Nat → MP → NC → Nat → Nat → Int32 → Option ((MP × NC) × Int32)
  | 0 => fun _ _ _ _ _ => none
  | n + 1 => fun μ ν p1 p2 x3 => b_X8_rankBehindItsPrice_45  (l_X8_rankBehindItsPrice_45  w n) w μ ν p1 p2 x3
theorem ml_X8_rankBehindItsPrice_45 {w : Nat} {r0 : (MP × NC) × Int32}   : ∀ (n : Nat) (μ : MP) (ν : NC) (p1 : Nat) (p2 : Nat) (x3 : Int32), l_X8_rankBehindItsPrice_45  w n μ ν p1 p2 x3 = some r0 → mn ν r0.1.2 := by
  intro n
  induction n with
  | zero => exact fun μ ν p1 p2 x3 h => absurd (show (none : Option ((MP × NC) × Int32)) = some r0 from h) (by simp)
  | succ n ih => exact fun μ ν p1 p2 x3 h => mb_X8_rankBehindItsPrice_45 (w := w)  ih h
theorem ll_X8_rankBehindItsPrice_45 {p : Program} {l : Launch} {e : Env} {s : State} {m : MethodId} {args : Array Value} {below : List Frame} {meth : Method} {c : Code} {D : va_G} {E : Nat → ClassId} {sz : Nat} {μ0 : MP} {ν0 : NC} {a : AS} {Ad0 : Nat → Nat → Nat} {w : Nat} {B : Nat × (Nat → Nat)} {r0 : (MP × NC) × Int32} (C : cx p s m args meth c D E (Aof (zS μ0 ν0 a Ad0) [] s.heap.size) cX8_rankBehindItsPrice 4 "TradeLine") (hEv : eV (Ad0 30 0) (Ad0 31 0) B (Aof (zS μ0 ν0 a Ad0) [] s.heap.size) s s.heap) (hr : meth.sig.returnType = none) (hz : s.heap.size = sz)    : ∀ (n : Nat) (μ : MP) (ν : NC) (Ad : Nat → Nat → Nat) (p1 : Nat) (p2 : Nat) (x3 : Int32), mn ν0 ν → kp ν0 Ad0 Ad → l_X8_rankBehindItsPrice_45  w n μ ν p1 p2 x3 = some r0 → G p l e ({ frames := 7, cells := kc r0.1.2 - kc ν0, slots := ks r0.1.2 - ks ν0, locals := 224 } : Room) s m args below meth c D E (Aof (zS μ0 ν0 a Ad0) [] s.heap.size) 4 (MQ below (cQ D E sz (zS μ0 ν0 a Ad0) [] (pV (fun u => ∃ A1, u = (zS r0.1.1 r0.1.2 a A1, []) ∧ kp ν0 Ad0 A1))) args s (kc r0.1.2 - kc ν0) (ks r0.1.2 - ks ν0) (Aof (zS μ0 ν0 a Ad0) [] s.heap.size)) (zS μ ν a Ad) [] (kc ν - kc ν0) (ks ν - ks ν0) 45 [(0, .ref (Ad 0 0)), (1, nv (Ad 20) p1), (2, nv (Ad 4) p2), (3, .int x3)] [] := by
  intro n
  induction n with
  | zero => exact fun μ ν Ad p1 p2 x3 hm0 hp0 h => absurd (show (none : Option ((MP × NC) × Int32)) = some r0 from h) (by simp)
  | succ n ih => exact fun μ ν Ad p1 p2 x3 hm0 hp0 h => lb_X8_rankBehindItsPrice_45 (w := w) C hEv hr hz hm0 hp0   (ml_X8_rankBehindItsPrice_45  n) ih h
noncomputable def b_X8_rankBehindItsPrice_43  (w : Nat) (μ : MP) (ν : NC) (p1 : Nat) (p2 : Nat) : Option ((MP × NC) × Int32) := l_X8_rankBehindItsPrice_45  w w μ ν p1 p2 (0 : Int32)
theorem mb_X8_rankBehindItsPrice_43 {w : Nat} {μ : MP} {ν : NC} {p1 : Nat} {p2 : Nat} {r0 : (MP × NC) × Int32}   (h : b_X8_rankBehindItsPrice_43  w μ ν p1 p2 = some r0) : mn ν r0.1.2 := by
  unfold b_X8_rankBehindItsPrice_43 at h
  iterate 40 (try first | (with_reducible replace h := (of_guard h).2) | (with_reducible (replace h := of_guardP h; obtain ⟨hg, h⟩ := h)) | (with_reducible replace h := yl_of h rfl) | (with_reducible replace h := (of_thr h).2) | (with_reducible (replace h := bind_of h; obtain ⟨v, hv, h⟩ := h)) | (with_reducible split at h) | (with_reducible (exact ml_X8_rankBehindItsPrice_45  _ _ _ _ _ _ h)) | (with_reducible exact absurd (congrArg Prod.fst (Option.some.inj h)) (by simp)))
set_option maxHeartbeats 4000000 in
set_option maxRecDepth 100000 in
theorem lb_X8_rankBehindItsPrice_43 {p : Program} {l : Launch} {e : Env} {s : State} {m : MethodId} {args : Array Value} {below : List Frame} {meth : Method} {c : Code} {D : va_G} {E : Nat → ClassId} {sz : Nat} {μ0 : MP} {ν0 : NC} {a : AS} {Ad0 : Nat → Nat → Nat} {w : Nat} {B : Nat × (Nat → Nat)} {r0 : (MP × NC) × Int32} (C : cx p s m args meth c D E (Aof (zS μ0 ν0 a Ad0) [] s.heap.size) cX8_rankBehindItsPrice 4 "TradeLine") (hEv : eV (Ad0 30 0) (Ad0 31 0) B (Aof (zS μ0 ν0 a Ad0) [] s.heap.size) s s.heap) (hr : meth.sig.returnType = none) (hz : s.heap.size = sz) {μ : MP} {ν : NC} {Ad : Nat → Nat → Nat} (hm0 : mn ν0 ν) (hp0 : kp ν0 Ad0 Ad) {p1 : Nat} {p2 : Nat}   (h : b_X8_rankBehindItsPrice_43  w μ ν p1 p2 = some r0) : G p l e ({ frames := 7, cells := kc r0.1.2 - kc ν0, slots := ks r0.1.2 - ks ν0, locals := 224 } : Room) s m args below meth c D E (Aof (zS μ0 ν0 a Ad0) [] s.heap.size) 4 (MQ below (cQ D E sz (zS μ0 ν0 a Ad0) [] (pV (fun u => ∃ A1, u = (zS r0.1.1 r0.1.2 a A1, []) ∧ kp ν0 Ad0 A1))) args s (kc r0.1.2 - kc ν0) (ks r0.1.2 - ks ν0) (Aof (zS μ0 ν0 a Ad0) [] s.heap.size)) (zS μ ν a Ad) [] (kc ν - kc ν0) (ks ν - ks ν0) 43 [(0, .ref (Ad 0 0)), (1, nv (Ad 20) p1), (2, nv (Ad 4) p2)] [] := by
  have m0 := mb_X8_rankBehindItsPrice_43  h
  have e1 := m0.2.1; have e2 := m0.2.2.1; have e3 := hm0.2.1; have e4 := hm0.2.2.1
  unfold b_X8_rankBehindItsPrice_43 at h
  refine g_iconst (v := (0 : Int32)) C dX8_rankBehindItsPrice_43 (by decide) ?_
  refine g_istore_n (i := 3) (lv' := [(3, .int (0 : Int32)), (0, .ref (Ad 0 0)), (1, nv (Ad 20) p1), (2, nv (Ad 4) p2)]) C dX8_rankBehindItsPrice_44 rfl (by decide) (by simp [nv_cat, cat_i, cat_r, cat_n]) ?_
  refine g_lv [1, 2, 3, 0] rfl ?_
  exact ll_X8_rankBehindItsPrice_45 C hEv hr hz   w _ _ _ _ _ _ hm0 hp0 h
noncomputable def b_X8_rankBehindItsPrice_34  (w : Nat) (μ : MP) (ν : NC) (p1 : Nat) (p2 : Nat) : Option ((MP × NC) × Int32) := b_X8_rankBehindItsPrice_43  w μ ν p1 p2
theorem mb_X8_rankBehindItsPrice_34 {w : Nat} {μ : MP} {ν : NC} {p1 : Nat} {p2 : Nat} {r0 : (MP × NC) × Int32}   (h : b_X8_rankBehindItsPrice_34  w μ ν p1 p2 = some r0) : mn ν r0.1.2 := by
  unfold b_X8_rankBehindItsPrice_34 at h
  iterate 40 (try first | (with_reducible replace h := (of_guard h).2) | (with_reducible (replace h := of_guardP h; obtain ⟨hg, h⟩ := h)) | (with_reducible replace h := yl_of h rfl) | (with_reducible replace h := (of_thr h).2) | (with_reducible (replace h := bind_of h; obtain ⟨v, hv, h⟩ := h)) | (with_reducible split at h) | (with_reducible (exact mb_X8_rankBehindItsPrice_43  h)) | (with_reducible exact absurd (congrArg Prod.fst (Option.some.inj h)) (by simp)))
set_option maxHeartbeats 4000000 in
set_option maxRecDepth 100000 in
theorem lb_X8_rankBehindItsPrice_34 {p : Program} {l : Launch} {e : Env} {s : State} {m : MethodId} {args : Array Value} {below : List Frame} {meth : Method} {c : Code} {D : va_G} {E : Nat → ClassId} {sz : Nat} {μ0 : MP} {ν0 : NC} {a : AS} {Ad0 : Nat → Nat → Nat} {w : Nat} {B : Nat × (Nat → Nat)} {r0 : (MP × NC) × Int32} (C : cx p s m args meth c D E (Aof (zS μ0 ν0 a Ad0) [] s.heap.size) cX8_rankBehindItsPrice 4 "TradeLine") (hEv : eV (Ad0 30 0) (Ad0 31 0) B (Aof (zS μ0 ν0 a Ad0) [] s.heap.size) s s.heap) (hr : meth.sig.returnType = none) (hz : s.heap.size = sz) {μ : MP} {ν : NC} {Ad : Nat → Nat → Nat} (hm0 : mn ν0 ν) (hp0 : kp ν0 Ad0 Ad) {p1 : Nat} {p2 : Nat}   (h : b_X8_rankBehindItsPrice_34  w μ ν p1 p2 = some r0) : G p l e ({ frames := 7, cells := kc r0.1.2 - kc ν0, slots := ks r0.1.2 - ks ν0, locals := 224 } : Room) s m args below meth c D E (Aof (zS μ0 ν0 a Ad0) [] s.heap.size) 4 (MQ below (cQ D E sz (zS μ0 ν0 a Ad0) [] (pV (fun u => ∃ A1, u = (zS r0.1.1 r0.1.2 a A1, []) ∧ kp ν0 Ad0 A1))) args s (kc r0.1.2 - kc ν0) (ks r0.1.2 - ks ν0) (Aof (zS μ0 ν0 a Ad0) [] s.heap.size)) (zS μ ν a Ad) [] (kc ν - kc ν0) (ks ν - ks ν0) 34 [(0, .ref (Ad 0 0)), (1, nv (Ad 20) p1), (2, nv (Ad 4) p2)] [] := by
  have m0 := mb_X8_rankBehindItsPrice_34  h
  have e1 := m0.2.1; have e2 := m0.2.2.1; have e3 := hm0.2.1; have e4 := hm0.2.2.1
  unfold b_X8_rankBehindItsPrice_34 at h
  refine g_goto (tgt := 43) C dX8_rankBehindItsPrice_34 (by decide) ?_
  refine g_lv [0, 1, 2] rfl ?_
  exact lb_X8_rankBehindItsPrice_43 C hEv hr hz hm0 hp0   h
noncomputable def b_X8_rankBehindItsPrice_11 (k11 : MP → NC → Nat → Nat → Int32 → Option ((MP × NC) × Int32)) (w : Nat) (μ : MP) (ν : NC) (p1 : Nat) (p2 : Nat) (x3 : Int32) : Option ((MP × NC) × Int32) := bif nzB p2 then bif ltB (p2 - 1) (ν.2 4) then (if (μ.1 4 (p2 - 1) 2) ≤ x3 then (b_X8_rankBehindItsPrice_43  w μ ν p1 ((p2 - 1) + 1)) else ((ls_get μ ν (p2 - 1) x3).bind (fun v21 => bif eqB (eK 5 (p2 - 1)) 20 then bif nzB p1 then bif ltB (p1 - 1) (ν.2 20) then bif ltB v21 (ν.2 20) then (if v21 = (p1 - 1) then (bif ltB 0 (ν.2 0) then (f_Jx4a65c_remove_915e3 w μ ν (p2 - 1) x3).bind (fun v27 => b_X8_rankBehindItsPrice_34  w v27.1.1 v27.1.2 ((p1 - 1) + 1) ((p2 - 1) + 1)) else none) else (yl (x3 + (1 : Int32)) (fun t26 => k11 μ ν ((p1 - 1) + 1) ((p2 - 1) + 1) t26))) else none else none else none else none))) else none else none
theorem mb_X8_rankBehindItsPrice_11 {w : Nat} {μ : MP} {ν : NC} {p1 : Nat} {p2 : Nat} {x3 : Int32} {r0 : (MP × NC) × Int32} {k11 : MP → NC → Nat → Nat → Int32 → Option ((MP × NC) × Int32)} (hmk11 : ∀ (μ : MP) (ν : NC) (z1 : Nat) (z2 : Nat) (z3 : Int32), k11 μ ν z1 z2 z3 = some r0 → mn ν r0.1.2) (h : b_X8_rankBehindItsPrice_11 k11 w μ ν p1 p2 x3 = some r0) : mn ν r0.1.2 := by
  unfold b_X8_rankBehindItsPrice_11 at h
  iterate 40 (try first | (with_reducible replace h := (of_guard h).2) | (with_reducible (replace h := of_guardP h; obtain ⟨hg, h⟩ := h)) | (with_reducible replace h := yl_of h rfl) | (with_reducible replace h := (of_thr h).2) | (with_reducible (replace h := bind_of h; obtain ⟨v, hv, h⟩ := h)) | (with_reducible split at h) | (with_reducible (exact mb_X8_rankBehindItsPrice_43  h)) | (with_reducible (exact hmk11 _ _ _ _ _ h)) | (with_reducible (exact mn_trans (m_Jx4a65c_remove_915e3 hv) (mb_X8_rankBehindItsPrice_34  h))) | (with_reducible exact absurd (congrArg Prod.fst (Option.some.inj h)) (by simp)))
set_option maxHeartbeats 4000000 in
set_option maxRecDepth 100000 in
theorem lb_X8_rankBehindItsPrice_11 {p : Program} {l : Launch} {e : Env} {s : State} {m : MethodId} {args : Array Value} {below : List Frame} {meth : Method} {c : Code} {D : va_G} {E : Nat → ClassId} {sz : Nat} {μ0 : MP} {ν0 : NC} {a : AS} {Ad0 : Nat → Nat → Nat} {w : Nat} {B : Nat × (Nat → Nat)} {r0 : (MP × NC) × Int32} (C : cx p s m args meth c D E (Aof (zS μ0 ν0 a Ad0) [] s.heap.size) cX8_rankBehindItsPrice 4 "TradeLine") (hEv : eV (Ad0 30 0) (Ad0 31 0) B (Aof (zS μ0 ν0 a Ad0) [] s.heap.size) s s.heap) (hr : meth.sig.returnType = none) (hz : s.heap.size = sz) {μ : MP} {ν : NC} {Ad : Nat → Nat → Nat} (hm0 : mn ν0 ν) (hp0 : kp ν0 Ad0 Ad) {p1 : Nat} {p2 : Nat} {x3 : Int32} {k11 : MP → NC → Nat → Nat → Int32 → Option ((MP × NC) × Int32)} (hmk11 : ∀ (μ : MP) (ν : NC) (z1 : Nat) (z2 : Nat) (z3 : Int32), k11 μ ν z1 z2 z3 = some r0 → mn ν r0.1.2) (hk11 : ∀ (μ : MP) (ν : NC) (Ad : Nat → Nat → Nat) (z1 : Nat) (z2 : Nat) (z3 : Int32), mn ν0 ν → kp ν0 Ad0 Ad → k11 μ ν z1 z2 z3 = some r0 → G p l e ({ frames := 7, cells := kc r0.1.2 - kc ν0, slots := ks r0.1.2 - ks ν0, locals := 224 } : Room) s m args below meth c D E (Aof (zS μ0 ν0 a Ad0) [] s.heap.size) 4 (MQ below (cQ D E sz (zS μ0 ν0 a Ad0) [] (pV (fun u => ∃ A1, u = (zS r0.1.1 r0.1.2 a A1, []) ∧ kp ν0 Ad0 A1))) args s (kc r0.1.2 - kc ν0) (ks r0.1.2 - ks ν0) (Aof (zS μ0 ν0 a Ad0) [] s.heap.size)) (zS μ ν a Ad) [] (kc ν - kc ν0) (ks ν - ks ν0) 11 [(0, .ref (Ad 0 0)), (1, nv (Ad 20) z1), (2, nv (Ad 4) z2), (3, .int z3)] []) (h : b_X8_rankBehindItsPrice_11 k11 w μ ν p1 p2 x3 = some r0) : G p l e ({ frames := 7, cells := kc r0.1.2 - kc ν0, slots := ks r0.1.2 - ks ν0, locals := 224 } : Room) s m args below meth c D E (Aof (zS μ0 ν0 a Ad0) [] s.heap.size) 4 (MQ below (cQ D E sz (zS μ0 ν0 a Ad0) [] (pV (fun u => ∃ A1, u = (zS r0.1.1 r0.1.2 a A1, []) ∧ kp ν0 Ad0 A1))) args s (kc r0.1.2 - kc ν0) (ks r0.1.2 - ks ν0) (Aof (zS μ0 ν0 a Ad0) [] s.heap.size)) (zS μ ν a Ad) [] (kc ν - kc ν0) (ks ν - ks ν0) 11 [(0, .ref (Ad 0 0)), (1, nv (Ad 20) p1), (2, nv (Ad 4) p2), (3, .int x3)] [] := by
  have m0 := mb_X8_rankBehindItsPrice_11 hmk11 h
  have e1 := m0.2.1; have e2 := m0.2.2.1; have e3 := hm0.2.1; have e4 := hm0.2.2.1
  unfold b_X8_rankBehindItsPrice_11 at h
  refine g_iload_n C dX8_rankBehindItsPrice_11 rfl 3 rfl ?_
  refine z_aload_n C dX8_rankBehindItsPrice_12 rfl 2 rfl (nv_or _ _) ?_
  obtain ⟨g5, h⟩ := of_guard h
  rw [nzB_e g5]
  obtain ⟨g6, h⟩ := of_guard h
  refine g_cVi (n := 0) (exc := []) (exr := []) C [] _ rfl rfl [] [] rfl rfl rfl rfl (fun _ h => absurd h (by simp)) (fun _ h => absurd h (by simp)) (fun _ h => absurd h (by simp)) (fun sz => c_Jx4a65c_size_8abf5 l μ ν a Ad _ g6 D E sz) rfl gw_308 gw_5 gw_305 gw_306 gw_307 ⟨by decide +kernel, by decide +kernel, by decide +kernel⟩ ⟨rfl, rfl⟩ ⟨Nat.le_of_ble_eq_true rfl, Nat.le_of_ble_eq_true rfl⟩ (rcvT (lvZ g6 rfl) rfl rfl rfl) (by first | exact Nat.le_of_ble_eq_true rfl | simp [nv_cat, cat_i, cat_r, cat_n]) dX8_rankBehindItsPrice_13 ⟨by show (kc ν - kc ν0) + 0 ≤ kc r0.1.2 - kc ν0; omega, by show (ks ν - ks ν0) + 0 ≤ ks r0.1.2 - ks ν0; omega⟩ (fun r u hp hx => ?_)
  obtain ⟨er, rfl⟩ := hp
  rw [er]
  try dsimp only [List.append_nil]
  refine g_icmp_ge (tgt := 43) C dX8_rankBehindItsPrice_16 (by decide) (fun c16 => ?_) (fun c16 => ?_)
  · replace h := (if_pos c16).symm.trans h
    refine g_lv [0, 1, 2] rfl ?_
    exact lb_X8_rankBehindItsPrice_43 C hEv hr hz hm0 hp0   h
  · replace h := (if_neg c16).symm.trans h
    refine g_aload_n C dX8_rankBehindItsPrice_19 rfl 2 rfl ?_
    refine g_iload_n C dX8_rankBehindItsPrice_20 rfl 3 rfl ?_
    obtain ⟨v21, hv21, h⟩ := bind_of h
    refine g_cVq (n := 1) (exc := []) (exr := []) C [_] _ rfl rfl [] [] rfl rfl rfl rfl (fun _ h => absurd h (by simp)) (fun _ h => absurd h (by simp)) (fun _ h => absurd h (by simp)) (fun sz => c_Jx4a65c_get_915e3 l μ ν a Ad _ _ _ hv21 D E sz) rfl gw_543 gw_5 gw_576 gw_541 gw_542 ⟨by decide +kernel, by decide +kernel, by decide +kernel⟩ ⟨rfl, rfl⟩ ⟨Nat.le_of_ble_eq_true rfl, Nat.le_of_ble_eq_true rfl⟩ (rcvT (lvZ g6 rfl) rfl rfl rfl) (by first | exact Nat.le_of_ble_eq_true rfl | simp [nv_cat, cat_i, cat_r, cat_n]) dX8_rankBehindItsPrice_21 ⟨by show (kc ν - kc ν0) + 0 ≤ kc r0.1.2 - kc ν0; omega, by show (ks ν - ks ν0) + 0 ≤ ks r0.1.2 - ks ν0; omega⟩ (fun r u hp hx => ?_)
    obtain ⟨er, rfl⟩ := hp
    rw [er]
    try dsimp only [List.append_nil]
    refine z_aload_n C dX8_rankBehindItsPrice_24 rfl 1 rfl (nv_or _ _) ?_
    obtain ⟨g22, h⟩ := of_guard h
    rw [eqB_e g22]
    obtain ⟨g23, h⟩ := of_guard h
    rw [nzB_e g23]
    obtain ⟨g24, h⟩ := of_guard h
    obtain ⟨g25, h⟩ := of_guard h
    refine z_acmp_ne (k := 20) (i := v21) (j := (p1 - 1)) (tgt := 37) C (lvZ g25 rfl) (lvZ g24 rfl) dX8_rankBehindItsPrice_25 (by decide) (fun c25 => ?_) (fun c25 => ?_)
    · replace h := (if_neg c25).symm.trans h
      obtain ⟨t26, et26⟩ : ∃ y : Int32, x3 + (1 : Int32) = y := ⟨_, rfl⟩
      replace h := yl_of h et26
      refine g_iinc (v := t26) (lv' := [(3, .int t26), (0, .ref (Ad 0 0)), (1, .ref (Ad 20 (p1 - 1))), (2, .ref (Ad 4 (p2 - 1)))]) C dX8_rankBehindItsPrice_37 3 rfl (by rw [← et26]; rfl) (by decide) rfl ?_
      refine g_goto (tgt := 11) C dX8_rankBehindItsPrice_40 (by decide) ?_
      refine g_lv [1, 2, 3, 0] rfl ?_
      exact hk11 _ _ _ _ _ _ hm0 hp0 h
    · replace h := (if_pos c25).symm.trans h
      refine g_aload_n C dX8_rankBehindItsPrice_28 rfl 2 rfl ?_
      refine g_iload_n C dX8_rankBehindItsPrice_29 rfl 3 rfl ?_
      obtain ⟨g28, h⟩ := of_guard h
      obtain ⟨v27, hv27, h⟩ := bind_of h
      have m2 := m_Jx4a65c_remove_915e3 hv27
      have m3 := mb_X8_rankBehindItsPrice_34  h
      have a1 := hm0.2.1; have a2 := hm0.2.2.1; have b1 := m2.2.1; have b2 := m2.2.2.1; have d1 := m3.2.1; have d2 := m3.2.2.1
      refine g_lv [0, 1, 2] rfl ?_
      refine g_cVqe (n := 1) (exc := []) (exr := []) C hEv ⟨hp0.2.1 0, hp0.2.2 0⟩ [_] _ rfl rfl [] [] rfl rfl rfl rfl (fun _ h => absurd h (by simp)) (fun _ h => absurd h (by simp)) (fun _ h => absurd h (by simp)) (fun sz => c_Jx4a65c_remove_915e3 l B μ ν a Ad w (p2 - 1) x3 _ hv27 D E sz) rfl gw_611 gw_5 gw_608 gw_609 gw_610 ⟨by decide +kernel, by decide +kernel, by decide +kernel⟩ ⟨rfl, rfl⟩ ⟨Nat.le_of_ble_eq_true rfl, Nat.le_of_ble_eq_true rfl⟩ (rcvT (lvZ g6 rfl) rfl rfl rfl) (by first | exact Nat.le_of_ble_eq_true rfl | simp [nv_cat, cat_i, cat_r, cat_n]) dX8_rankBehindItsPrice_30 ⟨by show (kc ν - kc ν0) + (kc v27.1.2 - kc ν) ≤ kc r0.1.2 - kc ν0; omega, by show (ks ν - ks ν0) + (ks v27.1.2 - ks ν) ≤ ks r0.1.2 - ks ν0; omega⟩ (fun r u hp hx => ?_)
      obtain ⟨er, A1, rfl, hkp⟩ := hp
      rw [er]
      try dsimp only [List.append_nil]
      refine g_widen (k := kc v27.1.2 - kc ν0) (n := ks v27.1.2 - ks ν0) (by omega) (by omega) ?_
      rw [show Ad 0 0 = A1 0 0 from (hkp.1 0 _ rfl (of_decide_eq_true g28)).symm]
      rw [show Ad 20 (p1 - 1) = A1 20 (p1 - 1) from (hkp.1 20 _ rfl (of_decide_eq_true g24)).symm]
      rw [show Ad 4 (p2 - 1) = A1 4 (p2 - 1) from (hkp.1 4 _ rfl (of_decide_eq_true g6)).symm]
      refine g_pop C dX8_rankBehindItsPrice_33 (nv_cat _ _) ?_
      refine g_lv [0, 1, 2] rfl ?_
      exact lb_X8_rankBehindItsPrice_34 C hEv hr hz (mn_trans hm0 m2) (kp_trans hp0 hm0 hkp)   h
noncomputable def l_X8_rankBehindItsPrice_11  (w : Nat) : Nat → MP → NC → Nat → Nat → Int32 → Option ((MP × NC) × Int32)
  | 0 => fun _ _ _ _ _ => none
  | n + 1 => fun μ ν p1 p2 x3 => b_X8_rankBehindItsPrice_11  (l_X8_rankBehindItsPrice_11  w n) w μ ν p1 p2 x3
theorem ml_X8_rankBehindItsPrice_11 {w : Nat} {r0 : (MP × NC) × Int32}   : ∀ (n : Nat) (μ : MP) (ν : NC) (p1 : Nat) (p2 : Nat) (x3 : Int32), l_X8_rankBehindItsPrice_11  w n μ ν p1 p2 x3 = some r0 → mn ν r0.1.2 := by
  intro n
  induction n with
  | zero => exact fun μ ν p1 p2 x3 h => absurd (show (none : Option ((MP × NC) × Int32)) = some r0 from h) (by simp)
  | succ n ih => exact fun μ ν p1 p2 x3 h => mb_X8_rankBehindItsPrice_11 (w := w)  ih h
theorem ll_X8_rankBehindItsPrice_11 {p : Program} {l : Launch} {e : Env} {s : State} {m : MethodId} {args : Array Value} {below : List Frame} {meth : Method} {c : Code} {D : va_G} {E : Nat → ClassId} {sz : Nat} {μ0 : MP} {ν0 : NC} {a : AS} {Ad0 : Nat → Nat → Nat} {w : Nat} {B : Nat × (Nat → Nat)} {r0 : (MP × NC) × Int32} (C : cx p s m args meth c D E (Aof (zS μ0 ν0 a Ad0) [] s.heap.size) cX8_rankBehindItsPrice 4 "TradeLine") (hEv : eV (Ad0 30 0) (Ad0 31 0) B (Aof (zS μ0 ν0 a Ad0) [] s.heap.size) s s.heap) (hr : meth.sig.returnType = none) (hz : s.heap.size = sz)    : ∀ (n : Nat) (μ : MP) (ν : NC) (Ad : Nat → Nat → Nat) (p1 : Nat) (p2 : Nat) (x3 : Int32), mn ν0 ν → kp ν0 Ad0 Ad → l_X8_rankBehindItsPrice_11  w n μ ν p1 p2 x3 = some r0 → G p l e ({ frames := 7, cells := kc r0.1.2 - kc ν0, slots := ks r0.1.2 - ks ν0, locals := 224 } : Room) s m args below meth c D E (Aof (zS μ0 ν0 a Ad0) [] s.heap.size) 4 (MQ below (cQ D E sz (zS μ0 ν0 a Ad0) [] (pV (fun u => ∃ A1, u = (zS r0.1.1 r0.1.2 a A1, []) ∧ kp ν0 Ad0 A1))) args s (kc r0.1.2 - kc ν0) (ks r0.1.2 - ks ν0) (Aof (zS μ0 ν0 a Ad0) [] s.heap.size)) (zS μ ν a Ad) [] (kc ν - kc ν0) (ks ν - ks ν0) 11 [(0, .ref (Ad 0 0)), (1, nv (Ad 20) p1), (2, nv (Ad 4) p2), (3, .int x3)] [] := by
  intro n
  induction n with
  | zero => exact fun μ ν Ad p1 p2 x3 hm0 hp0 h => absurd (show (none : Option ((MP × NC) × Int32)) = some r0 from h) (by simp)
  | succ n ih => exact fun μ ν Ad p1 p2 x3 hm0 hp0 h => lb_X8_rankBehindItsPrice_11 (w := w) C hEv hr hz hm0 hp0   (ml_X8_rankBehindItsPrice_11  n) ih h
noncomputable def f_X8_rankBehindItsPrice  (w : Nat) (μ : MP) (ν : NC) (p1 : Nat) : Option ((MP × NC) × Int32) := bif nzB p1 then bif ltB (p1 - 1) (ν.2 20) then bif ltB 0 (ν.2 0) then (f_X8_byRank w μ ν (μ.1 20 (p1 - 1) 1)).bind (fun v4 => l_X8_rankBehindItsPrice_11  w w μ ν ((p1 - 1) + 1) v4 (0 : Int32)) else none else none else none
theorem mb_X8_rankBehindItsPrice_0 {w : Nat} {μ : MP} {ν : NC} {p1 : Nat} {r0 : (MP × NC) × Int32}   (h : f_X8_rankBehindItsPrice  w μ ν p1 = some r0) : mn ν r0.1.2 := by
  unfold f_X8_rankBehindItsPrice at h
  iterate 40 (try first | (with_reducible replace h := (of_guard h).2) | (with_reducible (replace h := of_guardP h; obtain ⟨hg, h⟩ := h)) | (with_reducible replace h := yl_of h rfl) | (with_reducible replace h := (of_thr h).2) | (with_reducible (replace h := bind_of h; obtain ⟨v, hv, h⟩ := h)) | (with_reducible split at h) | (with_reducible (exact ml_X8_rankBehindItsPrice_11  _ _ _ _ _ _ h)) | (with_reducible exact absurd (congrArg Prod.fst (Option.some.inj h)) (by simp)))
set_option maxHeartbeats 4000000 in
set_option maxRecDepth 100000 in
theorem lb_X8_rankBehindItsPrice_0 {p : Program} {l : Launch} {e : Env} {s : State} {m : MethodId} {args : Array Value} {below : List Frame} {meth : Method} {c : Code} {D : va_G} {E : Nat → ClassId} {sz : Nat} {μ0 : MP} {ν0 : NC} {a : AS} {Ad0 : Nat → Nat → Nat} {w : Nat} {B : Nat × (Nat → Nat)} {r0 : (MP × NC) × Int32} (C : cx p s m args meth c D E (Aof (zS μ0 ν0 a Ad0) [] s.heap.size) cX8_rankBehindItsPrice 4 "TradeLine") (hEv : eV (Ad0 30 0) (Ad0 31 0) B (Aof (zS μ0 ν0 a Ad0) [] s.heap.size) s s.heap) (hr : meth.sig.returnType = none) (hz : s.heap.size = sz) {μ : MP} {ν : NC} {Ad : Nat → Nat → Nat} (hm0 : mn ν0 ν) (hp0 : kp ν0 Ad0 Ad) {p1 : Nat}   (h : f_X8_rankBehindItsPrice  w μ ν p1 = some r0) : G p l e ({ frames := 7, cells := kc r0.1.2 - kc ν0, slots := ks r0.1.2 - ks ν0, locals := 224 } : Room) s m args below meth c D E (Aof (zS μ0 ν0 a Ad0) [] s.heap.size) 4 (MQ below (cQ D E sz (zS μ0 ν0 a Ad0) [] (pV (fun u => ∃ A1, u = (zS r0.1.1 r0.1.2 a A1, []) ∧ kp ν0 Ad0 A1))) args s (kc r0.1.2 - kc ν0) (ks r0.1.2 - ks ν0) (Aof (zS μ0 ν0 a Ad0) [] s.heap.size)) (zS μ ν a Ad) [] (kc ν - kc ν0) (ks ν - ks ν0) 0 [(0, .ref (Ad 0 0)), (1, nv (Ad 20) p1)] [] := by
  have m0 := mb_X8_rankBehindItsPrice_0  h
  have e1 := m0.2.1; have e2 := m0.2.2.1; have e3 := hm0.2.1; have e4 := hm0.2.2.1
  unfold f_X8_rankBehindItsPrice at h
  refine g_aload_n C dX8_rankBehindItsPrice_0 rfl 0 rfl ?_
  refine z_aload_n C dX8_rankBehindItsPrice_1 rfl 1 rfl (nv_or _ _) ?_
  obtain ⟨g1, h⟩ := of_guard h
  rw [nzB_e g1]
  obtain ⟨g2, h⟩ := of_guard h
  refine g_get (k := 20) (i := (p1 - 1)) (ref := "TradeLine$Order") (v := .int (μ.1 20 (p1 - 1) 1)) C rfl (lvZ g2 rfl) rfl rfl inGX4 1 (by decide) gw_1112 (fun _ h => h) rfl dX8_rankBehindItsPrice_2 ?_
  obtain ⟨g3, h⟩ := of_guard h
  obtain ⟨v4, hv4, h⟩ := bind_of h
  refine g_cVq (n := 1) (exc := []) (exr := []) C [_] _ rfl rfl [] [] rfl rfl rfl rfl (fun _ h => absurd h (by simp)) (fun _ h => absurd h (by simp)) (fun _ h => absurd h (by simp)) (fun sz => c_X8_byRank l μ ν a Ad w (μ.1 20 (p1 - 1) 1) _ hv4 D E sz) rfl gw_607 gw_1 gw_604 gw_606 gs_19 ⟨by decide +kernel, by decide +kernel, by decide +kernel⟩ ⟨rfl, rfl⟩ ⟨Nat.le_of_ble_eq_true rfl, Nat.le_of_ble_eq_true rfl⟩ (rcvT (lvZ g3 rfl) rfl rfl rfl) (by first | exact Nat.le_of_ble_eq_true rfl | simp [nv_cat, cat_i, cat_r, cat_n]) dX8_rankBehindItsPrice_5 ⟨by show (kc ν - kc ν0) + 0 ≤ kc r0.1.2 - kc ν0; omega, by show (ks ν - ks ν0) + 0 ≤ ks r0.1.2 - ks ν0; omega⟩ (fun r u hp hx => ?_)
  obtain ⟨er, rfl⟩ := hp
  rw [er]
  try dsimp only [List.append_nil]
  refine z_astore_n (i := 2) (lv' := [(2, nv (Ad 4) v4), (0, .ref (Ad 0 0)), (1, .ref (Ad 20 (p1 - 1)))]) C dX8_rankBehindItsPrice_8 (nv_or _ _) rfl (by decide) (by simp [nv_cat, cat_i, cat_r, cat_n]) ?_
  refine g_iconst (v := (0 : Int32)) C dX8_rankBehindItsPrice_9 (by decide) ?_
  refine g_istore_n (i := 3) (lv' := [(3, .int (0 : Int32)), (2, nv (Ad 4) v4), (0, .ref (Ad 0 0)), (1, .ref (Ad 20 (p1 - 1)))]) C dX8_rankBehindItsPrice_10 rfl (by decide) (by simp [nv_cat, cat_i, cat_r, cat_n]) ?_
  refine g_lv [2, 3, 1, 0] rfl ?_
  exact ll_X8_rankBehindItsPrice_11 C hEv hr hz   w _ _ _ _ _ _ hm0 hp0 h
theorem m_X8_rankBehindItsPrice {w : Nat} {μ : MP} {ν : NC} {p1 : Nat} {r0 : (MP × NC) × Int32} (h : f_X8_rankBehindItsPrice w μ ν p1 = some r0) : mn ν r0.1.2 := mb_X8_rankBehindItsPrice_0 h
theorem c_X8_rankBehindItsPrice (l : Launch) (B : Nat × (Nat → Nat)) (μ : MP) (ν : NC) (a : AS) (Ad : Nat → Nat → Nat) (w : Nat) (p1 : Nat) (r0 : (MP × NC) × Int32) (h : f_X8_rankBehindItsPrice w μ ν p1 = some r0) : ∀ D E sz, Met l yX8_rankBehindItsPrice gwX8_rankBehindItsPrice ({ frames := 7, cells := kc r0.1.2 - kc ν, slots := ks r0.1.2 - ks ν, locals := 224 } : Room) (cPe D E sz B (zS μ ν a Ad) [] [] [.ref (Ad 0 0), nv (Ad 20) p1]) (cQ D E sz (zS μ ν a Ad) [] (pV (fun u => ∃ A1, u = (zS r0.1.1 r0.1.2 a A1, []) ∧ kp ν Ad A1))) (kc r0.1.2 - kc ν) (ks r0.1.2 - ks ν) (Aof (zS μ ν a Ad) [] sz) := by
  intro D E sz
  refine g_ofe (cc := cX8_rankBehindItsPrice) (maxL := 4) (ret := none) (own := "TradeLine") (by decide) rfl rfl (by cases p1 <;> exact Nat.le_of_ble_eq_true rfl) ?_
  intro p e s m args below meth c C hr hin hz ha hwr hEv
  refine g_lv (lv' := [(0, .ref (Ad 0 0)), (1, nv (Ad 20) p1)]) [0, 1] (by cases p1 <;> rfl) ?_
  refine g_widen (k := kc ν - kc ν) (n := ks ν - ks ν) (Nat.zero_le _) (Nat.zero_le _) ?_
  exact lb_X8_rankBehindItsPrice_0 C hEv hr hz (mn_rfl _) (kp_rfl _ _) h
noncomputable def b_X8_tick_62  (w : Nat) (μ : MP) (ν : NC) : Option ((MP × NC) × Int32) := some ((μ, ν), (0 : Int32))
theorem mb_X8_tick_62 {w : Nat} {μ : MP} {ν : NC} {r0 : (MP × NC) × Int32}   (h : b_X8_tick_62  w μ ν  = some r0) : mn ν r0.1.2 := by
  unfold b_X8_tick_62 at h
  iterate 40 (try first | (with_reducible replace h := (of_guard h).2) | (with_reducible (replace h := of_guardP h; obtain ⟨hg, h⟩ := h)) | (with_reducible replace h := yl_of h rfl) | (with_reducible replace h := (of_thr h).2) | (with_reducible (replace h := bind_of h; obtain ⟨v, hv, h⟩ := h)) | (with_reducible split at h) | (with_reducible (replace h := Option.some.inj h; obtain rfl := h; exact mn_rfl _)) | (with_reducible exact absurd (congrArg Prod.fst (Option.some.inj h)) (by simp)))
set_option maxHeartbeats 4000000 in
set_option maxRecDepth 100000 in
theorem lb_X8_tick_62 {p : Program} {l : Launch} {e : Env} {s : State} {m : MethodId} {args : Array Value} {below : List Frame} {meth : Method} {c : Code} {D : va_G} {E : Nat → ClassId} {sz : Nat} {μ0 : MP} {ν0 : NC} {a : AS} {Ad0 : Nat → Nat → Nat} {w : Nat} {B : Nat × (Nat → Nat)} {r0 : (MP × NC) × Int32} (C : cx p s m args meth c D E (Aof (zS μ0 ν0 a Ad0) [] s.heap.size) cX8_tick 4 "TradeLine") (hEv : eV (Ad0 30 0) (Ad0 31 0) B (Aof (zS μ0 ν0 a Ad0) [] s.heap.size) s s.heap) (hr : meth.sig.returnType = none) (hz : s.heap.size = sz) {μ : MP} {ν : NC} {Ad : Nat → Nat → Nat} (hm0 : mn ν0 ν) (hp0 : kp ν0 Ad0 Ad)   (h : b_X8_tick_62  w μ ν  = some r0) : G p l e ({ frames := 8, cells := kc r0.1.2 - kc ν0, slots := ks r0.1.2 - ks ν0, locals := 246 } : Room) s m args below meth c D E (Aof (zS μ0 ν0 a Ad0) [] s.heap.size) 4 (MQ below (cQ D E sz (zS μ0 ν0 a Ad0) [] (pV (fun u => ∃ A1, u = (zS r0.1.1 r0.1.2 a A1, []) ∧ kp ν0 Ad0 A1))) args s (kc r0.1.2 - kc ν0) (ks r0.1.2 - ks ν0) (Aof (zS μ0 ν0 a Ad0) [] s.heap.size)) (zS μ ν a Ad) [] (kc ν - kc ν0) (ks ν - ks ν0) 62 [(0, .ref (Ad 0 0))] [] := by
  have m0 := mb_X8_tick_62  h
  have e1 := m0.2.1; have e2 := m0.2.2.1; have e3 := hm0.2.1; have e4 := hm0.2.2.1
  unfold b_X8_tick_62 at h
  refine g_goto (tgt := 75) C dX8_tick_62 (by decide) ?_
  obtain rfl := Option.some.inj h
  exact g_vret C hr hz ⟨(hm0.2.2.2 30 (by decide) (by decide)).1, (hm0.2.2.2 31 (by decide) (by decide)).1, hp0.2.1, hp0.2.2⟩ ⟨Ad, rfl, hp0⟩ (fun j x h => by simp at h) dX8_tick_75
noncomputable def b_X8_tick_37  (w : Nat) (μ : MP) (ν : NC) (x1 : Int32) (p2 : Nat) : Option ((MP × NC) × Int32) := bif ltB 0 (ν.2 0) then bif nzB p2 then bif ltB (p2 - 1) (ν.2 1) then yl (((μ.1 0 0 9) - (μ.1 1 (p2 - 1) 8))) (fun t8 => (if t8 = (15 : Int32) then ((f_X8_send_N w μ ν x1 (2 : Int32)).bind (fun v10 => b_X8_tick_62  w v10.1.1 v10.1.2 )) else ((if t8 < (25 : Int32) then (some ((μ, ν), (0 : Int32))) else ((f_X8_goDown w μ ν ).bind (fun v9 => some ((v9.1, ν), (0 : Int32)))))))) else none else none else none
theorem mb_X8_tick_37 {w : Nat} {μ : MP} {ν : NC} {x1 : Int32} {p2 : Nat} {r0 : (MP × NC) × Int32}   (h : b_X8_tick_37  w μ ν x1 p2 = some r0) : mn ν r0.1.2 := by
  unfold b_X8_tick_37 at h
  iterate 40 (try first | (with_reducible replace h := (of_guard h).2) | (with_reducible (replace h := of_guardP h; obtain ⟨hg, h⟩ := h)) | (with_reducible replace h := yl_of h rfl) | (with_reducible replace h := (of_thr h).2) | (with_reducible (replace h := bind_of h; obtain ⟨v, hv, h⟩ := h)) | (with_reducible split at h) | (with_reducible (replace h := Option.some.inj h; obtain rfl := h; exact mn_rfl _)) | (with_reducible (exact mn_trans (m_X8_send_N hv) (mb_X8_tick_62  h))) | (with_reducible exact absurd (congrArg Prod.fst (Option.some.inj h)) (by simp)))
set_option maxHeartbeats 4000000 in
set_option maxRecDepth 100000 in
theorem lb_X8_tick_37 {p : Program} {l : Launch} {e : Env} {s : State} {m : MethodId} {args : Array Value} {below : List Frame} {meth : Method} {c : Code} {D : va_G} {E : Nat → ClassId} {sz : Nat} {μ0 : MP} {ν0 : NC} {a : AS} {Ad0 : Nat → Nat → Nat} {w : Nat} {B : Nat × (Nat → Nat)} {r0 : (MP × NC) × Int32} (C : cx p s m args meth c D E (Aof (zS μ0 ν0 a Ad0) [] s.heap.size) cX8_tick 4 "TradeLine") (hEv : eV (Ad0 30 0) (Ad0 31 0) B (Aof (zS μ0 ν0 a Ad0) [] s.heap.size) s s.heap) (hr : meth.sig.returnType = none) (hz : s.heap.size = sz) {μ : MP} {ν : NC} {Ad : Nat → Nat → Nat} (hm0 : mn ν0 ν) (hp0 : kp ν0 Ad0 Ad) {x1 : Int32} {p2 : Nat}   (h : b_X8_tick_37  w μ ν x1 p2 = some r0) : G p l e ({ frames := 8, cells := kc r0.1.2 - kc ν0, slots := ks r0.1.2 - ks ν0, locals := 246 } : Room) s m args below meth c D E (Aof (zS μ0 ν0 a Ad0) [] s.heap.size) 4 (MQ below (cQ D E sz (zS μ0 ν0 a Ad0) [] (pV (fun u => ∃ A1, u = (zS r0.1.1 r0.1.2 a A1, []) ∧ kp ν0 Ad0 A1))) args s (kc r0.1.2 - kc ν0) (ks r0.1.2 - ks ν0) (Aof (zS μ0 ν0 a Ad0) [] s.heap.size)) (zS μ ν a Ad) [] (kc ν - kc ν0) (ks ν - ks ν0) 37 [(0, .ref (Ad 0 0)), (1, .int x1), (2, nv (Ad 1) p2)] [] := by
  have m0 := mb_X8_tick_37  h
  have e1 := m0.2.1; have e2 := m0.2.2.1; have e3 := hm0.2.1; have e4 := hm0.2.2.1
  unfold b_X8_tick_37 at h
  refine g_aload_n C dX8_tick_37 rfl 0 rfl ?_
  obtain ⟨g5, h⟩ := of_guard h
  refine g_get (k := 0) (i := 0) (ref := "TradeLine") (v := .int (μ.1 0 0 9)) C rfl (lvZ g5 rfl) rfl rfl inGX8 9 (by decide) gw_179 (fun _ h => h) rfl dX8_tick_38 ?_
  refine z_aload_n C dX8_tick_41 rfl 2 rfl (nv_or _ _) ?_
  obtain ⟨g6, h⟩ := of_guard h
  rw [nzB_e g6]
  obtain ⟨g7, h⟩ := of_guard h
  refine g_get (k := 1) (i := (p2 - 1)) (ref := "TradeLine$Party") (v := .int (μ.1 1 (p2 - 1) 8)) C rfl (lvZ g7 rfl) rfl rfl inGX5 8 (by decide) gw_125 (fun _ h => h) rfl dX8_tick_42 ?_
  refine g_isub C dX8_tick_45 ?_
  refine q_topi (fun t8 et8 => ?_)
  replace h := yl_of h et8
  refine g_istore_n (i := 3) (lv' := [(3, .int t8), (0, .ref (Ad 0 0)), (1, .int x1), (2, .ref (Ad 1 (p2 - 1)))]) C dX8_tick_46 rfl (by decide) rfl ?_
  refine g_iload_n C dX8_tick_47 rfl 0 rfl ?_
  refine g_bipush (v := (15 : Int32)) C dX8_tick_48 (by decide) ?_
  refine g_icmp_ne (tgt := 65) C dX8_tick_50 (by decide) (fun c50 => ?_) (fun c50 => ?_)
  · replace h := (if_neg c50).symm.trans h
    refine g_iload_n C dX8_tick_65 rfl 0 rfl ?_
    refine g_bipush (v := (25 : Int32)) C dX8_tick_66 (by decide) ?_
    refine g_icmp_lt (tgt := 75) C dX8_tick_68 (by decide) (fun c68 => ?_) (fun c68 => ?_)
    · replace h := (if_pos c68).symm.trans h
      obtain rfl := Option.some.inj h
      exact g_vret C hr hz ⟨(hm0.2.2.2 30 (by decide) (by decide)).1, (hm0.2.2.2 31 (by decide) (by decide)).1, hp0.2.1, hp0.2.2⟩ ⟨Ad, rfl, hp0⟩ (fun j x h => by simp at h) dX8_tick_75
    · replace h := (if_neg c68).symm.trans h
      refine g_aload_n C dX8_tick_71 rfl 1 rfl ?_
      obtain ⟨v9, hv9, h⟩ := bind_of h
      refine g_cVv (n := 0) (exc := []) (exr := []) C [] _ rfl rfl [] [] rfl rfl rfl rfl (fun _ h => absurd h (by simp)) (fun _ h => absurd h (by simp)) (fun _ h => absurd h (by simp)) (fun sz => c_X8_goDown l μ ν a Ad w  _ hv9 D E sz) rfl gw_434 gw_1 gw_431 gw_433 gs_8 ⟨by decide +kernel, by decide +kernel, by decide +kernel⟩ ⟨rfl, rfl⟩ ⟨Nat.le_of_ble_eq_true rfl, Nat.le_of_ble_eq_true rfl⟩ (rcvT (lvZ g5 rfl) rfl rfl rfl) (by first | exact Nat.le_of_ble_eq_true rfl | simp [nv_cat, cat_i, cat_r, cat_n]) dX8_tick_72 ⟨by show (kc ν - kc ν0) + 0 ≤ kc r0.1.2 - kc ν0; omega, by show (ks ν - ks ν0) + 0 ≤ ks r0.1.2 - ks ν0; omega⟩ (fun u hp hx => ?_)
      obtain rfl := hp
      try dsimp only [List.append_nil]
      obtain rfl := Option.some.inj h
      exact g_vret C hr hz ⟨(hm0.2.2.2 30 (by decide) (by decide)).1, (hm0.2.2.2 31 (by decide) (by decide)).1, hp0.2.1, hp0.2.2⟩ ⟨Ad, rfl, hp0⟩ (fun j x h => by simp at h) dX8_tick_75
  · replace h := (if_pos c50).symm.trans h
    refine g_aload_n C dX8_tick_53 rfl 1 rfl ?_
    refine g_iload_n C dX8_tick_54 rfl 2 rfl ?_
    refine g_iconst (v := (2 : Int32)) C dX8_tick_55 (by decide) ?_
    refine g_getsN C hEv gw_295 dX8_tick_56 ?_
    rw [show Ad0 30 0 = Ad 30 0 from (hp0.2.1 0).symm]
    obtain ⟨v10, hv10, h⟩ := bind_of h
    have m2 := m_X8_send_N hv10
    have m3 := mb_X8_tick_62  h
    have a1 := hm0.2.1; have a2 := hm0.2.2.1; have b1 := m2.2.1; have b2 := m2.2.2.1; have d1 := m3.2.1; have d2 := m3.2.2.1
    refine g_lv [1] rfl ?_
    refine g_cVve (n := 3) (exc := []) (exr := []) C hEv ⟨hp0.2.1 0, hp0.2.2 0⟩ [_, _, _] _ rfl rfl [] [] rfl rfl rfl rfl (fun _ h => absurd h (by simp)) (fun _ h => absurd h (by simp)) (fun _ h => absurd h (by simp)) (fun sz => c_X8_send_N l B μ ν a Ad w x1 (2 : Int32) _ hv10 D E sz) rfl gw_300 gw_1 gw_297 gw_299 gs_1 ⟨by decide +kernel, by decide +kernel, by decide +kernel⟩ ⟨rfl, rfl⟩ ⟨Nat.le_of_ble_eq_true rfl, Nat.le_of_ble_eq_true rfl⟩ (rcvT (lvZ g5 rfl) rfl rfl rfl) (by first | exact Nat.le_of_ble_eq_true rfl | simp [nv_cat, cat_i, cat_r, cat_n]) dX8_tick_59 ⟨by show (kc ν - kc ν0) + (kc v10.1.2 - kc ν) ≤ kc r0.1.2 - kc ν0; omega, by show (ks ν - ks ν0) + (ks v10.1.2 - ks ν) ≤ ks r0.1.2 - ks ν0; omega⟩ (fun u hp hx => ?_)
    obtain ⟨A1, rfl, hkp⟩ := hp
    try dsimp only [List.append_nil]
    refine g_widen (k := kc v10.1.2 - kc ν0) (n := ks v10.1.2 - ks ν0) (by omega) (by omega) ?_
    rw [show Ad 0 0 = A1 0 0 from (hkp.1 0 _ rfl (of_decide_eq_true g5)).symm]
    exact lb_X8_tick_62 C hEv hr hz (mn_trans hm0 m2) (kp_trans hp0 hm0 hkp)   h
noncomputable def f_X8_tick  (w : Nat) (μ : MP) (ν : NC) (x1 : Int32) : Option ((MP × NC) × Int32) := bif ltB 0 (ν.2 0) then (f_X8_party w μ ν x1).bind (fun v2 => bif nzB v2 then bif ltB (v2 - 1) (ν.2 1) then (if (μ.1 1 (v2 - 1) 3) = (0 : Int32) then (some ((μ, ν), (0 : Int32))) else ((if ((μ.1 0 0 9) - (μ.1 1 (v2 - 1) 7)) < (10 : Int32) then (b_X8_tick_37  w μ ν x1 ((v2 - 1) + 1)) else ((f_X8_send_N w μ ν x1 (1 : Int32)).bind (fun v11 => b_X8_tick_37  w v11.1.1 v11.1.2 x1 ((v2 - 1) + 1)))))) else none else none) else none
theorem mb_X8_tick_0 {w : Nat} {μ : MP} {ν : NC} {x1 : Int32} {r0 : (MP × NC) × Int32}   (h : f_X8_tick  w μ ν x1 = some r0) : mn ν r0.1.2 := by
  unfold f_X8_tick at h
  iterate 40 (try first | (with_reducible replace h := (of_guard h).2) | (with_reducible (replace h := of_guardP h; obtain ⟨hg, h⟩ := h)) | (with_reducible replace h := yl_of h rfl) | (with_reducible replace h := (of_thr h).2) | (with_reducible (replace h := bind_of h; obtain ⟨v, hv, h⟩ := h)) | (with_reducible split at h) | (with_reducible (exact mb_X8_tick_37  h)) | (with_reducible (exact mn_trans (m_X8_send_N hv) (mb_X8_tick_37  h))) | (with_reducible (replace h := Option.some.inj h; obtain rfl := h; exact mn_rfl _)) | (with_reducible exact absurd (congrArg Prod.fst (Option.some.inj h)) (by simp)))
set_option maxHeartbeats 4000000 in
set_option maxRecDepth 100000 in
theorem lb_X8_tick_0 {p : Program} {l : Launch} {e : Env} {s : State} {m : MethodId} {args : Array Value} {below : List Frame} {meth : Method} {c : Code} {D : va_G} {E : Nat → ClassId} {sz : Nat} {μ0 : MP} {ν0 : NC} {a : AS} {Ad0 : Nat → Nat → Nat} {w : Nat} {B : Nat × (Nat → Nat)} {r0 : (MP × NC) × Int32} (C : cx p s m args meth c D E (Aof (zS μ0 ν0 a Ad0) [] s.heap.size) cX8_tick 4 "TradeLine") (hEv : eV (Ad0 30 0) (Ad0 31 0) B (Aof (zS μ0 ν0 a Ad0) [] s.heap.size) s s.heap) (hr : meth.sig.returnType = none) (hz : s.heap.size = sz) {μ : MP} {ν : NC} {Ad : Nat → Nat → Nat} (hm0 : mn ν0 ν) (hp0 : kp ν0 Ad0 Ad) {x1 : Int32}   (h : f_X8_tick  w μ ν x1 = some r0) : G p l e ({ frames := 8, cells := kc r0.1.2 - kc ν0, slots := ks r0.1.2 - ks ν0, locals := 246 } : Room) s m args below meth c D E (Aof (zS μ0 ν0 a Ad0) [] s.heap.size) 4 (MQ below (cQ D E sz (zS μ0 ν0 a Ad0) [] (pV (fun u => ∃ A1, u = (zS r0.1.1 r0.1.2 a A1, []) ∧ kp ν0 Ad0 A1))) args s (kc r0.1.2 - kc ν0) (ks r0.1.2 - ks ν0) (Aof (zS μ0 ν0 a Ad0) [] s.heap.size)) (zS μ ν a Ad) [] (kc ν - kc ν0) (ks ν - ks ν0) 0 [(0, .ref (Ad 0 0)), (1, .int x1)] [] := by
  have m0 := mb_X8_tick_0  h
  have e1 := m0.2.1; have e2 := m0.2.2.1; have e3 := hm0.2.1; have e4 := hm0.2.2.1
  unfold f_X8_tick at h
  refine g_aload_n C dX8_tick_0 rfl 0 rfl ?_
  refine g_iload_n C dX8_tick_1 rfl 1 rfl ?_
  obtain ⟨g1, h⟩ := of_guard h
  obtain ⟨v2, hv2, h⟩ := bind_of h
  refine g_cVq (n := 1) (exc := []) (exr := []) C [_] _ rfl rfl [] [] rfl rfl rfl rfl (fun _ h => absurd h (by simp)) (fun _ h => absurd h (by simp)) (fun _ h => absurd h (by simp)) (fun sz => c_X8_party l μ ν a Ad w x1 _ hv2 D E sz) rfl gw_304 gw_1 gw_301 gw_303 gs_2 ⟨by decide +kernel, by decide +kernel, by decide +kernel⟩ ⟨rfl, rfl⟩ ⟨Nat.le_of_ble_eq_true rfl, Nat.le_of_ble_eq_true rfl⟩ (rcvT (lvZ g1 rfl) rfl rfl rfl) (by first | exact Nat.le_of_ble_eq_true rfl | simp [nv_cat, cat_i, cat_r, cat_n]) dX8_tick_2 ⟨by show (kc ν - kc ν0) + 0 ≤ kc r0.1.2 - kc ν0; omega, by show (ks ν - ks ν0) + 0 ≤ ks r0.1.2 - ks ν0; omega⟩ (fun r u hp hx => ?_)
  obtain ⟨er, rfl⟩ := hp
  rw [er]
  try dsimp only [List.append_nil]
  refine z_astore_n (i := 2) (lv' := [(2, nv (Ad 1) v2), (0, .ref (Ad 0 0)), (1, .int x1)]) C dX8_tick_5 (nv_or _ _) rfl (by decide) (by simp [nv_cat, cat_i, cat_r, cat_n]) ?_
  refine z_aload_n C dX8_tick_6 rfl 0 rfl (nv_or _ _) ?_
  obtain ⟨g3, h⟩ := of_guard h
  rw [nzB_e g3]
  obtain ⟨g4, h⟩ := of_guard h
  refine g_get (k := 1) (i := (v2 - 1)) (ref := "TradeLine$Party") (v := .int (μ.1 1 (v2 - 1) 3)) C rfl (lvZ g4 rfl) rfl rfl inGX5 3 (by decide) gw_118 (fun _ h => h) rfl dX8_tick_7 ?_
  refine g_if_ne (tgt := 14) C dX8_tick_10 (by decide) (fun c10 => ?_) (fun c10 => ?_)
  · replace h := (if_neg c10).symm.trans h
    refine g_aload_n C dX8_tick_14 rfl 1 rfl ?_
    refine g_get (k := 0) (i := 0) (ref := "TradeLine") (v := .int (μ.1 0 0 9)) C rfl (lvZ g1 rfl) rfl rfl inGX8 9 (by decide) gw_179 (fun _ h => h) rfl dX8_tick_15 ?_
    refine g_aload_n C dX8_tick_18 rfl 0 rfl ?_
    refine g_get (k := 1) (i := (v2 - 1)) (ref := "TradeLine$Party") (v := .int (μ.1 1 (v2 - 1) 7)) C rfl (lvZ g4 rfl) rfl rfl inGX5 7 (by decide) gw_124 (fun _ h => h) rfl dX8_tick_19 ?_
    refine g_isub C dX8_tick_22 ?_
    refine g_bipush (v := (10 : Int32)) C dX8_tick_23 (by decide) ?_
    refine g_icmp_lt (tgt := 37) C dX8_tick_25 (by decide) (fun c25 => ?_) (fun c25 => ?_)
    · replace h := (if_pos c25).symm.trans h
      refine g_lv [1, 2, 0] rfl ?_
      exact lb_X8_tick_37 C hEv hr hz hm0 hp0   h
    · replace h := (if_neg c25).symm.trans h
      refine g_aload_n C dX8_tick_28 rfl 1 rfl ?_
      refine g_iload_n C dX8_tick_29 rfl 2 rfl ?_
      refine g_iconst (v := (1 : Int32)) C dX8_tick_30 (by decide) ?_
      refine g_getsN C hEv gw_295 dX8_tick_31 ?_
      rw [show Ad0 30 0 = Ad 30 0 from (hp0.2.1 0).symm]
      obtain ⟨v11, hv11, h⟩ := bind_of h
      have m2 := m_X8_send_N hv11
      have m3 := mb_X8_tick_37  h
      have a1 := hm0.2.1; have a2 := hm0.2.2.1; have b1 := m2.2.1; have b2 := m2.2.2.1; have d1 := m3.2.1; have d2 := m3.2.2.1
      refine g_lv [1, 2, 0] rfl ?_
      refine g_cVve (n := 3) (exc := []) (exr := []) C hEv ⟨hp0.2.1 0, hp0.2.2 0⟩ [_, _, _] _ rfl rfl [] [] rfl rfl rfl rfl (fun _ h => absurd h (by simp)) (fun _ h => absurd h (by simp)) (fun _ h => absurd h (by simp)) (fun sz => c_X8_send_N l B μ ν a Ad w x1 (1 : Int32) _ hv11 D E sz) rfl gw_300 gw_1 gw_297 gw_299 gs_1 ⟨by decide +kernel, by decide +kernel, by decide +kernel⟩ ⟨rfl, rfl⟩ ⟨Nat.le_of_ble_eq_true rfl, Nat.le_of_ble_eq_true rfl⟩ (rcvT (lvZ g1 rfl) rfl rfl rfl) (by first | exact Nat.le_of_ble_eq_true rfl | simp [nv_cat, cat_i, cat_r, cat_n]) dX8_tick_34 ⟨by show (kc ν - kc ν0) + (kc v11.1.2 - kc ν) ≤ kc r0.1.2 - kc ν0; omega, by show (ks ν - ks ν0) + (ks v11.1.2 - ks ν) ≤ ks r0.1.2 - ks ν0; omega⟩ (fun u hp hx => ?_)
      obtain ⟨A1, rfl, hkp⟩ := hp
      try dsimp only [List.append_nil]
      refine g_widen (k := kc v11.1.2 - kc ν0) (n := ks v11.1.2 - ks ν0) (by omega) (by omega) ?_
      rw [show Ad 0 0 = A1 0 0 from (hkp.1 0 _ rfl (of_decide_eq_true g1)).symm]
      rw [show Ad 1 (v2 - 1) = A1 1 (v2 - 1) from (hkp.1 1 _ rfl (of_decide_eq_true g4)).symm]
      exact lb_X8_tick_37 C hEv hr hz (mn_trans hm0 m2) (kp_trans hp0 hm0 hkp)   h
  · replace h := (if_pos c10).symm.trans h
    obtain rfl := Option.some.inj h
    exact g_vret C hr hz ⟨(hm0.2.2.2 30 (by decide) (by decide)).1, (hm0.2.2.2 31 (by decide) (by decide)).1, hp0.2.1, hp0.2.2⟩ ⟨Ad, rfl, hp0⟩ (fun j x h => by simp at h) dX8_tick_13
theorem m_X8_tick {w : Nat} {μ : MP} {ν : NC} {x1 : Int32} {r0 : (MP × NC) × Int32} (h : f_X8_tick w μ ν x1 = some r0) : mn ν r0.1.2 := mb_X8_tick_0 h
theorem c_X8_tick (l : Launch) (B : Nat × (Nat → Nat)) (μ : MP) (ν : NC) (a : AS) (Ad : Nat → Nat → Nat) (w : Nat) (x1 : Int32) (r0 : (MP × NC) × Int32) (h : f_X8_tick w μ ν x1 = some r0) : ∀ D E sz, Met l yX8_tick gwX8_tick ({ frames := 8, cells := kc r0.1.2 - kc ν, slots := ks r0.1.2 - ks ν, locals := 246 } : Room) (cPe D E sz B (zS μ ν a Ad) [] [] [.ref (Ad 0 0), .int x1]) (cQ D E sz (zS μ ν a Ad) [] (pV (fun u => ∃ A1, u = (zS r0.1.1 r0.1.2 a A1, []) ∧ kp ν Ad A1))) (kc r0.1.2 - kc ν) (ks r0.1.2 - ks ν) (Aof (zS μ ν a Ad) [] sz) := by
  intro D E sz
  refine g_ofe (cc := cX8_tick) (maxL := 4) (ret := none) (own := "TradeLine") (by decide) rfl rfl (Nat.le_of_ble_eq_true rfl) ?_
  intro p e s m args below meth c C hr hin hz ha hwr hEv
  refine g_lv (lv' := [(0, .ref (Ad 0 0)), (1, .int x1)]) [0, 1] rfl ?_
  refine g_widen (k := kc ν - kc ν) (n := ks ν - ks ν) (Nat.zero_le _) (Nat.zero_le _) ?_
  exact lb_X8_tick_0 C hEv hr hz (mn_rfl _) (kp_rfl _ _) h
