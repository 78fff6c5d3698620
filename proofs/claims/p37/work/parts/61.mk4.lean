noncomputable def b_X8_order_40  (w : Nat) (μ : MP) (ν : NC) : Option (Nat × ((MP × NC) × Int32)) := some ((3 : Nat), ((μ, ν), (0 : Int32)))
theorem mb_X8_order_40 {w : Nat} {μ : MP} {ν : NC} {r0 : (MP × NC) × Int32}   (h : b_X8_order_40  w μ ν  = some (0, r0)) : mn ν r0.1.2 := by
  unfold b_X8_order_40 at h
  iterate 40 (try first | (with_reducible replace h := (of_guard h).2) | (with_reducible (replace h := of_guardP h; obtain ⟨hg, h⟩ := h)) | (with_reducible replace h := yl_of h rfl) | (with_reducible replace h := (of_thr h).2) | (with_reducible (replace h := bind_of h; obtain ⟨v, hv, h⟩ := h)) | (with_reducible split at h) | (with_reducible exact absurd (congrArg Prod.fst (Option.some.inj h)) (by simp)))
set_option maxHeartbeats 4000000 in
set_option maxRecDepth 100000 in
theorem lb_X8_order_40 {p : Program} {l : Launch} {e : Env} {s : State} {m : MethodId} {args : Array Value} {below : List Frame} {meth : Method} {c : Code} {D : va_G} {E : Nat → ClassId} {sz : Nat} {μ0 : MP} {ν0 : NC} {a : AS} {Ad0 : Nat → Nat → Nat} {w : Nat} {B : Nat × (Nat → Nat)} {r0 : (MP × NC) × Int32} (C : cx p s m args meth c D E (Aof (zS μ0 ν0 a Ad0) [] s.heap.size) cX8_order 5 "TradeLine") (hEv : eV (Ad0 30 0) (Ad0 31 0) B (Aof (zS μ0 ν0 a Ad0) [] s.heap.size) s s.heap) (hr : meth.sig.returnType = (some .int)) (hz : s.heap.size = sz) {μ : MP} {ν : NC} {Ad : Nat → Nat → Nat} (hm0 : mn ν0 ν) (hp0 : kp ν0 Ad0 Ad)   (h : b_X8_order_40  w μ ν  = some (0, r0)) : G p l e ({ frames := 8, cells := kc r0.1.2 - kc ν0, slots := ks r0.1.2 - ks ν0, locals := 246 } : Room) s m args below meth c D E (Aof (zS μ0 ν0 a Ad0) [] s.heap.size) 5 (MQ below (cQ D E sz (zS μ0 ν0 a Ad0) [] (pI (fun r u => r = r0.2 ∧ ∃ A1, u = (zS r0.1.1 r0.1.2 a A1, []) ∧ kp ν0 Ad0 A1))) args s (kc r0.1.2 - kc ν0) (ks r0.1.2 - ks ν0) (Aof (zS μ0 ν0 a Ad0) [] s.heap.size)) (zS μ ν a Ad) [] (kc ν - kc ν0) (ks ν - ks ν0) 40 [(0, .ref (Ad 0 0))] [] := by
  have m0 := mb_X8_order_40  h
  have e1 := m0.2.1; have e2 := m0.2.2.1; have e3 := hm0.2.1; have e4 := hm0.2.2.1
  unfold b_X8_order_40 at h
  exact absurd (congrArg Prod.fst (Option.some.inj h)) (by simp)
noncomputable def b_X8_order_127  (w : Nat) (μ : MP) (ν : NC) (x4 : Int32) : Option ((MP × NC) × Int32) := some ((μ, ν), x4)
theorem mb_X8_order_127 {w : Nat} {μ : MP} {ν : NC} {x4 : Int32} {r0 : (MP × NC) × Int32}   (h : b_X8_order_127  w μ ν x4 = some r0) : mn ν r0.1.2 := by
  unfold b_X8_order_127 at h
  iterate 40 (try first | (with_reducible replace h := (of_guard h).2) | (with_reducible (replace h := of_guardP h; obtain ⟨hg, h⟩ := h)) | (with_reducible replace h := yl_of h rfl) | (with_reducible replace h := (of_thr h).2) | (with_reducible (replace h := bind_of h; obtain ⟨v, hv, h⟩ := h)) | (with_reducible split at h) | (with_reducible (replace h := Option.some.inj h; obtain rfl := h; exact mn_rfl _)) | (with_reducible exact absurd (congrArg Prod.fst (Option.some.inj h)) (by simp)))
set_option maxHeartbeats 4000000 in
set_option maxRecDepth 100000 in
theorem lb_X8_order_127 {p : Program} {l : Launch} {e : Env} {s : State} {m : MethodId} {args : Array Value} {below : List Frame} {meth : Method} {c : Code} {D : va_G} {E : Nat → ClassId} {sz : Nat} {μ0 : MP} {ν0 : NC} {a : AS} {Ad0 : Nat → Nat → Nat} {w : Nat} {B : Nat × (Nat → Nat)} {r0 : (MP × NC) × Int32} (C : cx p s m args meth c D E (Aof (zS μ0 ν0 a Ad0) [] s.heap.size) cX8_order 5 "TradeLine") (hEv : eV (Ad0 30 0) (Ad0 31 0) B (Aof (zS μ0 ν0 a Ad0) [] s.heap.size) s s.heap) (hr : meth.sig.returnType = (some .int)) (hz : s.heap.size = sz) {μ : MP} {ν : NC} {Ad : Nat → Nat → Nat} (hm0 : mn ν0 ν) (hp0 : kp ν0 Ad0 Ad) {x4 : Int32}   (h : b_X8_order_127  w μ ν x4 = some r0) : G p l e ({ frames := 8, cells := kc r0.1.2 - kc ν0, slots := ks r0.1.2 - ks ν0, locals := 246 } : Room) s m args below meth c D E (Aof (zS μ0 ν0 a Ad0) [] s.heap.size) 5 (MQ below (cQ D E sz (zS μ0 ν0 a Ad0) [] (pI (fun r u => r = r0.2 ∧ ∃ A1, u = (zS r0.1.1 r0.1.2 a A1, []) ∧ kp ν0 Ad0 A1))) args s (kc r0.1.2 - kc ν0) (ks r0.1.2 - ks ν0) (Aof (zS μ0 ν0 a Ad0) [] s.heap.size)) (zS μ ν a Ad) [] (kc ν - kc ν0) (ks ν - ks ν0) 127 [(0, .ref (Ad 0 0)), (4, .int x4)] [] := by
  have m0 := mb_X8_order_127  h
  have e1 := m0.2.1; have e2 := m0.2.2.1; have e3 := hm0.2.1; have e4 := hm0.2.2.1
  unfold b_X8_order_127 at h
  refine g_iload C dX8_order_127 1 rfl ?_
  obtain rfl := Option.some.inj h
  exact g_iret C hr rfl hz ⟨(hm0.2.2.2 30 (by decide) (by decide)).1, (hm0.2.2.2 31 (by decide) (by decide)).1, hp0.2.1, hp0.2.2⟩ ⟨rfl, Ad, rfl, hp0⟩ (fun j x h => by simp at h) dX8_order_129
noncomputable def b_X8_order_103  (w : Nat) (μ : MP) (ν : NC) (x2 : Int32) (x3 : Int32) (x4 : Int32) (s0 : Int32) (s1 : Int32) (s4 : Int32) (s5 : Int32) (f0 : Nat → Int32) : Option ((MP × NC) × Int32) := bif ixB s1 8 then bif ltB 0 (ν.2 0) then (f_X8_send_L w μ ν s5 s4 8 (up1 (up1 (up1 (up1 (up1 f0 s1.toNatClampNeg s0) 4 (44 : Int32)) 5 x2) 6 (38 : Int32)) 7 x3)).bind (fun v17 => b_X8_order_127  w v17.1.1 v17.1.2 x4) else none else none
theorem mb_X8_order_103 {w : Nat} {μ : MP} {ν : NC} {x2 : Int32} {x3 : Int32} {x4 : Int32} {s0 : Int32} {s1 : Int32} {s4 : Int32} {s5 : Int32} {f0 : Nat → Int32} {r0 : (MP × NC) × Int32}   (h : b_X8_order_103  w μ ν x2 x3 x4 s0 s1 s4 s5 f0 = some r0) : mn ν r0.1.2 := by
  unfold b_X8_order_103 at h
  iterate 40 (try first | (with_reducible replace h := (of_guard h).2) | (with_reducible (replace h := of_guardP h; obtain ⟨hg, h⟩ := h)) | (with_reducible replace h := yl_of h rfl) | (with_reducible replace h := (of_thr h).2) | (with_reducible (replace h := bind_of h; obtain ⟨v, hv, h⟩ := h)) | (with_reducible split at h) | (with_reducible (exact mn_trans (m_X8_send_L hv) (mb_X8_order_127  h))) | (with_reducible exact absurd (congrArg Prod.fst (Option.some.inj h)) (by simp)))
set_option maxHeartbeats 4000000 in
set_option maxRecDepth 100000 in
theorem lb_X8_order_103 {p : Program} {l : Launch} {e : Env} {s : State} {m : MethodId} {args : Array Value} {below : List Frame} {meth : Method} {c : Code} {D : va_G} {E : Nat → ClassId} {sz : Nat} {μ0 : MP} {ν0 : NC} {a : AS} {Ad0 : Nat → Nat → Nat} {w : Nat} {B : Nat × (Nat → Nat)} {r0 : (MP × NC) × Int32} (C : cx p s m args meth c D E (Aof (zS μ0 ν0 a Ad0) [] s.heap.size) cX8_order 5 "TradeLine") (hEv : eV (Ad0 30 0) (Ad0 31 0) B (Aof (zS μ0 ν0 a Ad0) [] s.heap.size) s s.heap) (hr : meth.sig.returnType = (some .int)) (hz : s.heap.size = sz) {μ : MP} {ν : NC} {Ad : Nat → Nat → Nat} (hm0 : mn ν0 ν) (hp0 : kp ν0 Ad0 Ad) {x2 : Int32} {x3 : Int32} {x4 : Int32} {s0 : Int32} {s1 : Int32} {s4 : Int32} {s5 : Int32} {f0 : Nat → Int32} {q0 : Nat} (hq0 : (Aof (zS μ0 ν0 a Ad0) [] s.heap.size) q0)   (h : b_X8_order_103  w μ ν x2 x3 x4 s0 s1 s4 s5 f0 = some r0) : G p l e ({ frames := 8, cells := kc r0.1.2 - kc ν0, slots := ks r0.1.2 - ks ν0, locals := 246 } : Room) s m args below meth c D E (Aof (zS μ0 ν0 a Ad0) [] s.heap.size) 5 (MQ below (cQ D E sz (zS μ0 ν0 a Ad0) [] (pI (fun r u => r = r0.2 ∧ ∃ A1, u = (zS r0.1.1 r0.1.2 a A1, []) ∧ kp ν0 Ad0 A1))) args s (kc r0.1.2 - kc ν0) (ks r0.1.2 - ks ν0) (Aof (zS μ0 ν0 a Ad0) [] s.heap.size)) (zS μ ν a Ad) [(q0, .inl (E 0, 8, .inl f0))] (kc ν - kc ν0) (ks ν - ks ν0) 103 [(0, .ref (Ad 0 0)), (2, .int x2), (3, .int x3), (4, .int x4)] [.int s0, .int s1, .ref q0, .ref q0, .int s4, .int s5, .ref (Ad 0 0)] := by
  have m0 := mb_X8_order_103  h
  have e1 := m0.2.1; have e2 := m0.2.2.1; have e3 := hm0.2.1; have e4 := hm0.2.2.1
  unfold b_X8_order_103 at h
  obtain ⟨g15, h⟩ := of_guard h
  refine g_iastL C 0 rfl hq0 (ixB_in g15) (ex' := [(q0, .inl (E 0, 8, .inl (up1 f0 s1.toNatClampNeg s0)))]) rfl dX8_order_103 ?_
  refine g_dup C dX8_order_104 rfl ?_
  refine g_iconst (v := (4 : Int32)) C dX8_order_105 (by decide) ?_
  refine g_bipush (v := (44 : Int32)) C dX8_order_106 (by decide) ?_
  refine g_iastL C 0 rfl hq0 (ixB_in rfl) (ex' := [(q0, .inl (E 0, 8, .inl (up1 (up1 f0 s1.toNatClampNeg s0) 4 (44 : Int32))))]) rfl dX8_order_108 ?_
  refine g_dup C dX8_order_109 rfl ?_
  refine g_iconst (v := (5 : Int32)) C dX8_order_110 (by decide) ?_
  refine g_iload_n C dX8_order_111 rfl 1 rfl ?_
  refine g_iastL C 0 rfl hq0 (ixB_in rfl) (ex' := [(q0, .inl (E 0, 8, .inl (up1 (up1 (up1 f0 s1.toNatClampNeg s0) 4 (44 : Int32)) 5 x2)))]) rfl dX8_order_112 ?_
  refine g_dup C dX8_order_113 rfl ?_
  refine g_bipush (v := (6 : Int32)) C dX8_order_114 (by decide) ?_
  refine g_bipush (v := (38 : Int32)) C dX8_order_116 (by decide) ?_
  refine g_iastL C 0 rfl hq0 (ixB_in rfl) (ex' := [(q0, .inl (E 0, 8, .inl (up1 (up1 (up1 (up1 f0 s1.toNatClampNeg s0) 4 (44 : Int32)) 5 x2) 6 (38 : Int32))))]) rfl dX8_order_118 ?_
  refine g_dup C dX8_order_119 rfl ?_
  refine g_bipush (v := (7 : Int32)) C dX8_order_120 (by decide) ?_
  refine g_iload_n C dX8_order_122 rfl 2 rfl ?_
  refine g_iastL C 0 rfl hq0 (ixB_in rfl) (ex' := [(q0, .inl (E 0, 8, .inl (up1 (up1 (up1 (up1 (up1 f0 s1.toNatClampNeg s0) 4 (44 : Int32)) 5 x2) 6 (38 : Int32)) 7 x3)))]) rfl dX8_order_123 ?_
  obtain ⟨g16, h⟩ := of_guard h
  obtain ⟨v17, hv17, h⟩ := bind_of h
  have m2 := m_X8_send_L hv17
  have m3 := mb_X8_order_127  h
  have a1 := hm0.2.1; have a2 := hm0.2.2.1; have b1 := m2.2.1; have b2 := m2.2.2.1; have d1 := m3.2.1; have d2 := m3.2.2.1
  refine g_lv [0, 3] rfl ?_
  refine g_cVve (n := 3) (exc := [(q0, .inl (E 0, 8, .inl (up1 (up1 (up1 (up1 (up1 f0 s1.toNatClampNeg s0) 4 (44 : Int32)) 5 x2) 6 (38 : Int32)) 7 x3)))]) (exr := []) C hEv ⟨hp0.2.1 0, hp0.2.2 0⟩ [_, _, _] _ rfl rfl [0] [] rfl rfl rfl rfl (fun _ h => by simp at h) (fun _ h => absurd h (by simp)) (fun _ h => absurd h (by simp)) (fun sz => c_X8_send_L l B μ ν a Ad w s5 s4 q0 8 (up1 (up1 (up1 (up1 (up1 f0 s1.toNatClampNeg s0) 4 (44 : Int32)) 5 x2) 6 (38 : Int32)) 7 x3) _ hv17 D E sz) rfl gw_300 gw_1 gw_297 gw_299 gs_1 ⟨by decide +kernel, by decide +kernel, by decide +kernel⟩ ⟨rfl, rfl⟩ ⟨Nat.le_of_ble_eq_true rfl, Nat.le_of_ble_eq_true rfl⟩ (rcvT (lvZ g16 rfl) rfl rfl rfl) (by first | exact Nat.le_of_ble_eq_true rfl | simp [nv_cat, cat_i, cat_r, cat_n]) dX8_order_124 ⟨by show (kc ν - kc ν0) + (kc v17.1.2 - kc ν) ≤ kc r0.1.2 - kc ν0; omega, by show (ks ν - ks ν0) + (ks v17.1.2 - ks ν) ≤ ks r0.1.2 - ks ν0; omega⟩ (fun u hp hx => ?_)
  obtain ⟨A1, rfl, hkp⟩ := hp
  try dsimp only [List.append_nil]
  refine g_widen (k := kc v17.1.2 - kc ν0) (n := ks v17.1.2 - ks ν0) (by omega) (by omega) ?_
  rw [show Ad 0 0 = A1 0 0 from (hkp.1 0 _ rfl (of_decide_eq_true g16)).symm]
  exact lb_X8_order_127 C hEv hr hz (mn_trans hm0 m2) (kp_trans hp0 hm0 hkp)   h
noncomputable def b_X8_order_77  (w : Nat) (μ : MP) (ν : NC) (x1 : Int32) (x2 : Int32) (x3 : Int32) (x4 : Int32) (s1 : Int32) (s2 : Int32) (f0 : Nat → Int32) : Option ((MP × NC) × Int32) := (if x1 = (0 : Int32) then (b_X8_order_103  w μ ν x2 x3 x4 (0 : Int32) (3 : Int32) s1 s2 (up1 (up1 (up1 f0 0 (11 : Int32)) 1 x4) 2 (54 : Int32))) else (b_X8_order_103  w μ ν x2 x3 x4 (1 : Int32) (3 : Int32) s1 s2 (up1 (up1 (up1 f0 0 (11 : Int32)) 1 x4) 2 (54 : Int32))))
theorem mb_X8_order_77 {w : Nat} {μ : MP} {ν : NC} {x1 : Int32} {x2 : Int32} {x3 : Int32} {x4 : Int32} {s1 : Int32} {s2 : Int32} {f0 : Nat → Int32} {r0 : (MP × NC) × Int32}   (h : b_X8_order_77  w μ ν x1 x2 x3 x4 s1 s2 f0 = some r0) : mn ν r0.1.2 := by
  unfold b_X8_order_77 at h
  iterate 40 (try first | (with_reducible replace h := (of_guard h).2) | (with_reducible (replace h := of_guardP h; obtain ⟨hg, h⟩ := h)) | (with_reducible replace h := yl_of h rfl) | (with_reducible replace h := (of_thr h).2) | (with_reducible (replace h := bind_of h; obtain ⟨v, hv, h⟩ := h)) | (with_reducible split at h) | (with_reducible (exact mb_X8_order_103  h)) | (with_reducible exact absurd (congrArg Prod.fst (Option.some.inj h)) (by simp)))
set_option maxHeartbeats 4000000 in
set_option maxRecDepth 100000 in
theorem lb_X8_order_77 {p : Program} {l : Launch} {e : Env} {s : State} {m : MethodId} {args : Array Value} {below : List Frame} {meth : Method} {c : Code} {D : va_G} {E : Nat → ClassId} {sz : Nat} {μ0 : MP} {ν0 : NC} {a : AS} {Ad0 : Nat → Nat → Nat} {w : Nat} {B : Nat × (Nat → Nat)} {r0 : (MP × NC) × Int32} (C : cx p s m args meth c D E (Aof (zS μ0 ν0 a Ad0) [] s.heap.size) cX8_order 5 "TradeLine") (hEv : eV (Ad0 30 0) (Ad0 31 0) B (Aof (zS μ0 ν0 a Ad0) [] s.heap.size) s s.heap) (hr : meth.sig.returnType = (some .int)) (hz : s.heap.size = sz) {μ : MP} {ν : NC} {Ad : Nat → Nat → Nat} (hm0 : mn ν0 ν) (hp0 : kp ν0 Ad0 Ad) {x1 : Int32} {x2 : Int32} {x3 : Int32} {x4 : Int32} {s1 : Int32} {s2 : Int32} {f0 : Nat → Int32} {q0 : Nat} (hq0 : (Aof (zS μ0 ν0 a Ad0) [] s.heap.size) q0)   (h : b_X8_order_77  w μ ν x1 x2 x3 x4 s1 s2 f0 = some r0) : G p l e ({ frames := 8, cells := kc r0.1.2 - kc ν0, slots := ks r0.1.2 - ks ν0, locals := 246 } : Room) s m args below meth c D E (Aof (zS μ0 ν0 a Ad0) [] s.heap.size) 5 (MQ below (cQ D E sz (zS μ0 ν0 a Ad0) [] (pI (fun r u => r = r0.2 ∧ ∃ A1, u = (zS r0.1.1 r0.1.2 a A1, []) ∧ kp ν0 Ad0 A1))) args s (kc r0.1.2 - kc ν0) (ks r0.1.2 - ks ν0) (Aof (zS μ0 ν0 a Ad0) [] s.heap.size)) (zS μ ν a Ad) [(q0, .inl (E 0, 8, .inl f0))] (kc ν - kc ν0) (ks ν - ks ν0) 77 [(0, .ref (Ad 0 0)), (1, .int x1), (2, .int x2), (3, .int x3), (4, .int x4)] [.ref q0, .int s1, .int s2, .ref (Ad 0 0)] := by
  have m0 := mb_X8_order_77  h
  have e1 := m0.2.1; have e2 := m0.2.2.1; have e3 := hm0.2.1; have e4 := hm0.2.2.1
  unfold b_X8_order_77 at h
  refine g_dup C dX8_order_77 rfl ?_
  refine g_iconst (v := (0 : Int32)) C dX8_order_78 (by decide) ?_
  refine g_bipush (v := (11 : Int32)) C dX8_order_79 (by decide) ?_
  refine g_iastL C 0 rfl hq0 (ixB_in rfl) (ex' := [(q0, .inl (E 0, 8, .inl (up1 f0 0 (11 : Int32))))]) rfl dX8_order_81 ?_
  refine g_dup C dX8_order_82 rfl ?_
  refine g_iconst (v := (1 : Int32)) C dX8_order_83 (by decide) ?_
  refine g_iload C dX8_order_84 4 rfl ?_
  refine g_iastL C 0 rfl hq0 (ixB_in rfl) (ex' := [(q0, .inl (E 0, 8, .inl (up1 (up1 f0 0 (11 : Int32)) 1 x4)))]) rfl dX8_order_86 ?_
  refine g_dup C dX8_order_87 rfl ?_
  refine g_iconst (v := (2 : Int32)) C dX8_order_88 (by decide) ?_
  refine g_bipush (v := (54 : Int32)) C dX8_order_89 (by decide) ?_
  refine g_iastL C 0 rfl hq0 (ixB_in rfl) (ex' := [(q0, .inl (E 0, 8, .inl (up1 (up1 (up1 f0 0 (11 : Int32)) 1 x4) 2 (54 : Int32))))]) rfl dX8_order_91 ?_
  refine g_dup C dX8_order_92 rfl ?_
  refine g_iconst (v := (3 : Int32)) C dX8_order_93 (by decide) ?_
  refine g_iload_n C dX8_order_94 rfl 1 rfl ?_
  refine g_if_eq (tgt := 102) C dX8_order_95 (by decide) (fun c95 => ?_) (fun c95 => ?_)
  · replace h := (if_pos c95).symm.trans h
    refine g_iconst (v := (0 : Int32)) C dX8_order_102 (by decide) ?_
    refine g_lv [0, 2, 3, 4] rfl ?_
    exact lb_X8_order_103 C hEv hr hz hm0 hp0 hq0  h
  · replace h := (if_neg c95).symm.trans h
    refine g_iconst (v := (1 : Int32)) C dX8_order_98 (by decide) ?_
    refine g_goto (tgt := 103) C dX8_order_99 (by decide) ?_
    refine g_lv [0, 2, 3, 4] rfl ?_
    exact lb_X8_order_103 C hEv hr hz hm0 hp0 hq0  h
noncomputable def b_X8_order_69  (w : Nat) (μ : MP) (ν : NC) (x1 : Int32) (x2 : Int32) (x3 : Int32) (x4 : Int32) (s0 : Int32) : Option ((MP × NC) × Int32) := b_X8_order_77  w μ (chg ν 1 8) x1 x2 x3 x4 (5 : Int32) (0 : Int32) (fun _ => 0)
theorem mb_X8_order_69 {w : Nat} {μ : MP} {ν : NC} {x1 : Int32} {x2 : Int32} {x3 : Int32} {x4 : Int32} {s0 : Int32} {r0 : (MP × NC) × Int32}   (h : b_X8_order_69  w μ ν x1 x2 x3 x4 s0 = some r0) : mn ν r0.1.2 := by
  unfold b_X8_order_69 at h
  iterate 40 (try first | (with_reducible replace h := (of_guard h).2) | (with_reducible (replace h := of_guardP h; obtain ⟨hg, h⟩ := h)) | (with_reducible replace h := yl_of h rfl) | (with_reducible replace h := (of_thr h).2) | (with_reducible (replace h := bind_of h; obtain ⟨v, hv, h⟩ := h)) | (with_reducible split at h) | (with_reducible (exact mn_trans (mn_chg _ _ _) (mb_X8_order_77  h))) | (with_reducible exact absurd (congrArg Prod.fst (Option.some.inj h)) (by simp)))
set_option maxHeartbeats 4000000 in
set_option maxRecDepth 100000 in
theorem lb_X8_order_69 {p : Program} {l : Launch} {e : Env} {s : State} {m : MethodId} {args : Array Value} {below : List Frame} {meth : Method} {c : Code} {D : va_G} {E : Nat → ClassId} {sz : Nat} {μ0 : MP} {ν0 : NC} {a : AS} {Ad0 : Nat → Nat → Nat} {w : Nat} {B : Nat × (Nat → Nat)} {r0 : (MP × NC) × Int32} (C : cx p s m args meth c D E (Aof (zS μ0 ν0 a Ad0) [] s.heap.size) cX8_order 5 "TradeLine") (hEv : eV (Ad0 30 0) (Ad0 31 0) B (Aof (zS μ0 ν0 a Ad0) [] s.heap.size) s s.heap) (hr : meth.sig.returnType = (some .int)) (hz : s.heap.size = sz) {μ : MP} {ν : NC} {Ad : Nat → Nat → Nat} (hm0 : mn ν0 ν) (hp0 : kp ν0 Ad0 Ad) {x1 : Int32} {x2 : Int32} {x3 : Int32} {x4 : Int32} {s0 : Int32}   (h : b_X8_order_69  w μ ν x1 x2 x3 x4 s0 = some r0) : G p l e ({ frames := 8, cells := kc r0.1.2 - kc ν0, slots := ks r0.1.2 - ks ν0, locals := 246 } : Room) s m args below meth c D E (Aof (zS μ0 ν0 a Ad0) [] s.heap.size) 5 (MQ below (cQ D E sz (zS μ0 ν0 a Ad0) [] (pI (fun r u => r = r0.2 ∧ ∃ A1, u = (zS r0.1.1 r0.1.2 a A1, []) ∧ kp ν0 Ad0 A1))) args s (kc r0.1.2 - kc ν0) (ks r0.1.2 - ks ν0) (Aof (zS μ0 ν0 a Ad0) [] s.heap.size)) (zS μ ν a Ad) [] (kc ν - kc ν0) (ks ν - ks ν0) 69 [(0, .ref (Ad 0 0)), (1, .int x1), (2, .int x2), (3, .int x3), (4, .int x4)] [.int s0] := by
  have m0 := mb_X8_order_69  h
  have e1 := m0.2.1; have e2 := m0.2.2.1; have e3 := hm0.2.1; have e4 := hm0.2.2.1
  unfold b_X8_order_69 at h
  refine g_pop C dX8_order_69 rfl ?_
  refine g_aload_n C dX8_order_70 rfl 0 rfl ?_
  refine g_iconst (v := (0 : Int32)) C dX8_order_71 (by decide) ?_
  refine g_iconst (v := (5 : Int32)) C dX8_order_72 (by decide) ?_
  refine g_bipush (v := (8 : Int32)) C dX8_order_73 (by decide) ?_
  refine g_lv [0, 1, 2, 3, 4] rfl ?_
  have m2 := mn_chg ν 1 8
  have m3 := mb_X8_order_77  h
  have a1 := hm0.2.1; have a2 := hm0.2.2.1; have b1 := m2.2.1; have b2 := m2.2.2.1; have d1 := m3.2.1; have d2 := m3.2.2.1
  rw [kc_chg] at b1 d1
  rw [ks_chg] at b2 d2
  refine g_newa (atype := .int) (ty := .int) (t := 0) (N' := 8) (a0 := (8, .inl (fun _ => 0))) C gw_95 rfl rfl (fun _ h => by cases h) (fun _ => rfl) (by decide) (by decide) (by decide) (by show (kc ν - kc ν0) + 1 ≤ kc r0.1.2 - kc ν0; omega) (by show (ks ν - ks ν0) + 8 ≤ ks r0.1.2 - ks ν0; omega) dX8_order_75 (fun q0 hq0 hs0 => ?_)
  refine g_chg 1 8 ?_
  refine g_widen (k := kc (chg ν 1 8) - kc ν0) (n := ks (chg ν 1 8) - ks ν0) (by rw [kc_chg]; omega) (by rw [ks_chg]; omega) ?_
  exact lb_X8_order_77 C hEv hr hz (mn_trans hm0 m2) hp0 hq0  h
noncomputable def b_X8_order_66  (w : Nat) (μ : MP) (ν : NC) (x1 : Int32) (x2 : Int32) (x3 : Int32) (x4 : Int32) (sp0 : Nat) (sp1 : Nat) : Option ((MP × NC) × Int32) := bif nzB sp1 then bif ltB (sp1 - 1) (ν.2 4) then bif eqB (eK 5 (sp1 - 1)) 20 then bif ltB 0 (ν.2 0) then (f_Jx4a65c_add_9ea2d w μ ν (sp1 - 1) sp0).bind (fun v13 => b_X8_order_69  w v13.1.1 v13.1.2 x1 x2 x3 x4 v13.2) else none else none else none else none
theorem mb_X8_order_66 {w : Nat} {μ : MP} {ν : NC} {x1 : Int32} {x2 : Int32} {x3 : Int32} {x4 : Int32} {sp0 : Nat} {sp1 : Nat} {r0 : (MP × NC) × Int32}   (h : b_X8_order_66  w μ ν x1 x2 x3 x4 sp0 sp1 = some r0) : mn ν r0.1.2 := by
  unfold b_X8_order_66 at h
  iterate 40 (try first | (with_reducible replace h := (of_guard h).2) | (with_reducible (replace h := of_guardP h; obtain ⟨hg, h⟩ := h)) | (with_reducible replace h := yl_of h rfl) | (with_reducible replace h := (of_thr h).2) | (with_reducible (replace h := bind_of h; obtain ⟨v, hv, h⟩ := h)) | (with_reducible split at h) | (with_reducible (exact mn_trans (m_Jx4a65c_add_9ea2d hv) (mb_X8_order_69  h))) | (with_reducible exact absurd (congrArg Prod.fst (Option.some.inj h)) (by simp)))
set_option maxHeartbeats 4000000 in
set_option maxRecDepth 100000 in
theorem lb_X8_order_66 {p : Program} {l : Launch} {e : Env} {s : State} {m : MethodId} {args : Array Value} {below : List Frame} {meth : Method} {c : Code} {D : va_G} {E : Nat → ClassId} {sz : Nat} {μ0 : MP} {ν0 : NC} {a : AS} {Ad0 : Nat → Nat → Nat} {w : Nat} {B : Nat × (Nat → Nat)} {r0 : (MP × NC) × Int32} (C : cx p s m args meth c D E (Aof (zS μ0 ν0 a Ad0) [] s.heap.size) cX8_order 5 "TradeLine") (hEv : eV (Ad0 30 0) (Ad0 31 0) B (Aof (zS μ0 ν0 a Ad0) [] s.heap.size) s s.heap) (hr : meth.sig.returnType = (some .int)) (hz : s.heap.size = sz) {μ : MP} {ν : NC} {Ad : Nat → Nat → Nat} (hm0 : mn ν0 ν) (hp0 : kp ν0 Ad0 Ad) {x1 : Int32} {x2 : Int32} {x3 : Int32} {x4 : Int32} {sp0 : Nat} {sp1 : Nat}   (h : b_X8_order_66  w μ ν x1 x2 x3 x4 sp0 sp1 = some r0) : G p l e ({ frames := 8, cells := kc r0.1.2 - kc ν0, slots := ks r0.1.2 - ks ν0, locals := 246 } : Room) s m args below meth c D E (Aof (zS μ0 ν0 a Ad0) [] s.heap.size) 5 (MQ below (cQ D E sz (zS μ0 ν0 a Ad0) [] (pI (fun r u => r = r0.2 ∧ ∃ A1, u = (zS r0.1.1 r0.1.2 a A1, []) ∧ kp ν0 Ad0 A1))) args s (kc r0.1.2 - kc ν0) (ks r0.1.2 - ks ν0) (Aof (zS μ0 ν0 a Ad0) [] s.heap.size)) (zS μ ν a Ad) [] (kc ν - kc ν0) (ks ν - ks ν0) 66 [(0, .ref (Ad 0 0)), (1, .int x1), (2, .int x2), (3, .int x3), (4, .int x4)] [nv (Ad 20) sp0, nv (Ad 4) sp1] := by
  have m0 := mb_X8_order_66  h
  have e1 := m0.2.1; have e2 := m0.2.2.1; have e3 := hm0.2.1; have e4 := hm0.2.2.1
  unfold b_X8_order_66 at h
  obtain ⟨g10, h⟩ := of_guard h
  rw [nzB_e g10]
  obtain ⟨g11, h⟩ := of_guard h
  obtain ⟨g12, h⟩ := of_guard h
  obtain ⟨g14, h⟩ := of_guard h
  obtain ⟨v13, hv13, h⟩ := bind_of h
  have m2 := m_Jx4a65c_add_9ea2d hv13
  have m3 := mb_X8_order_69  h
  have a1 := hm0.2.1; have a2 := hm0.2.2.1; have b1 := m2.2.1; have b2 := m2.2.2.1; have d1 := m3.2.1; have d2 := m3.2.2.1
  refine g_lv [0, 1, 2, 3, 4] rfl ?_
  rw [show nv (Ad 20) sp0 = nv (Ad (eK 5 (sp1 - 1))) sp0 from by rw [eqB_e g12]]
  refine g_cVie (n := 1) (exc := []) (exr := []) C hEv ⟨hp0.2.1 0, hp0.2.2 0⟩ [_] _ rfl rfl [] [] rfl rfl rfl rfl (fun _ h => absurd h (by simp)) (fun _ h => absurd h (by simp)) (fun _ h => absurd h (by simp)) (fun sz => c_Jx4a65c_add_9ea2d l B μ ν a Ad w (sp1 - 1) sp0 _ hv13 D E sz) rfl gw_354 gw_5 gw_351 gw_352 gw_353 ⟨by decide +kernel, by decide +kernel, by decide +kernel⟩ ⟨rfl, rfl⟩ ⟨Nat.le_of_ble_eq_true rfl, Nat.le_of_ble_eq_true rfl⟩ (rcvT (lvZ g11 rfl) rfl rfl rfl) (by first | exact Nat.le_of_ble_eq_true rfl | simp [nv_cat, cat_i, cat_r, cat_n]) dX8_order_66 ⟨by show (kc ν - kc ν0) + (kc v13.1.2 - kc ν) ≤ kc r0.1.2 - kc ν0; omega, by show (ks ν - ks ν0) + (ks v13.1.2 - ks ν) ≤ ks r0.1.2 - ks ν0; omega⟩ (fun r u hp hx => ?_)
  obtain ⟨er, A1, rfl, hkp⟩ := hp
  rw [er]
  try dsimp only [List.append_nil]
  refine g_widen (k := kc v13.1.2 - kc ν0) (n := ks v13.1.2 - ks ν0) (by omega) (by omega) ?_
  rw [show Ad 0 0 = A1 0 0 from (hkp.1 0 _ rfl (of_decide_eq_true g14)).symm]
  exact lb_X8_order_69 C hEv hr hz (mn_trans hm0 m2) (kp_trans hp0 hm0 hkp)   h
noncomputable def b_X8_order_50  (w : Nat) (μ : MP) (ν : NC) (x1 : Int32) (x2 : Int32) (x3 : Int32) (x4 : Int32) : Option ((MP × NC) × Int32) := bif ltB 0 (ν.2 0) then bif boB x1 then bif ltB 2 (ν.2 4) then @ite _ (nwOrdOk μ ν) (Classical.propDecidable _) (b_X8_order_66  w (nwOrd μ ν x4 x1 x2 x3).1 (nwOrd μ ν x4 x1 x2 x3).2 x1 x2 x3 x4 (ν.2 20 + 1) (2 + 1)) none else none else none else none
theorem mb_X8_order_50 {w : Nat} {μ : MP} {ν : NC} {x1 : Int32} {x2 : Int32} {x3 : Int32} {x4 : Int32} {r0 : (MP × NC) × Int32}   (h : b_X8_order_50  w μ ν x1 x2 x3 x4 = some r0) : mn ν r0.1.2 := by
  unfold b_X8_order_50 at h
  iterate 40 (try first | (with_reducible replace h := (of_guard h).2) | (with_reducible (replace h := of_guardP h; obtain ⟨hg, h⟩ := h)) | (with_reducible replace h := yl_of h rfl) | (with_reducible replace h := (of_thr h).2) | (with_reducible (replace h := bind_of h; obtain ⟨v, hv, h⟩ := h)) | (with_reducible split at h) | (with_reducible (exact mn_trans (mn_ord hg _ _ _ _) (mb_X8_order_66  h))) | (with_reducible exact absurd (congrArg Prod.fst (Option.some.inj h)) (by simp)))
set_option maxHeartbeats 4000000 in
set_option maxRecDepth 100000 in
theorem lb_X8_order_50 {p : Program} {l : Launch} {e : Env} {s : State} {m : MethodId} {args : Array Value} {below : List Frame} {meth : Method} {c : Code} {D : va_G} {E : Nat → ClassId} {sz : Nat} {μ0 : MP} {ν0 : NC} {a : AS} {Ad0 : Nat → Nat → Nat} {w : Nat} {B : Nat × (Nat → Nat)} {r0 : (MP × NC) × Int32} (C : cx p s m args meth c D E (Aof (zS μ0 ν0 a Ad0) [] s.heap.size) cX8_order 5 "TradeLine") (hEv : eV (Ad0 30 0) (Ad0 31 0) B (Aof (zS μ0 ν0 a Ad0) [] s.heap.size) s s.heap) (hr : meth.sig.returnType = (some .int)) (hz : s.heap.size = sz) {μ : MP} {ν : NC} {Ad : Nat → Nat → Nat} (hm0 : mn ν0 ν) (hp0 : kp ν0 Ad0 Ad) {x1 : Int32} {x2 : Int32} {x3 : Int32} {x4 : Int32}   (h : b_X8_order_50  w μ ν x1 x2 x3 x4 = some r0) : G p l e ({ frames := 8, cells := kc r0.1.2 - kc ν0, slots := ks r0.1.2 - ks ν0, locals := 246 } : Room) s m args below meth c D E (Aof (zS μ0 ν0 a Ad0) [] s.heap.size) 5 (MQ below (cQ D E sz (zS μ0 ν0 a Ad0) [] (pI (fun r u => r = r0.2 ∧ ∃ A1, u = (zS r0.1.1 r0.1.2 a A1, []) ∧ kp ν0 Ad0 A1))) args s (kc r0.1.2 - kc ν0) (ks r0.1.2 - ks ν0) (Aof (zS μ0 ν0 a Ad0) [] s.heap.size)) (zS μ ν a Ad) [] (kc ν - kc ν0) (ks ν - ks ν0) 50 [(0, .ref (Ad 0 0)), (1, .int x1), (2, .int x2), (3, .int x3), (4, .int x4)] [] := by
  have m0 := mb_X8_order_50  h
  have e1 := m0.2.1; have e2 := m0.2.2.1; have e3 := hm0.2.1; have e4 := hm0.2.2.1
  unfold b_X8_order_50 at h
  refine g_aload_n C dX8_order_50 rfl 0 rfl ?_
  obtain ⟨g7, h⟩ := of_guard h
  refine g_get (k := 0) (i := 0) (ref := "TradeLine") (v := .ref (Ad 4 2)) C rfl (lvZ g7 rfl) rfl rfl inGX8 2 (by decide) gw_172 (fun _ h => h) rfl dX8_order_51 ?_
  obtain ⟨g8, h⟩ := of_guard h
  obtain ⟨g9, h⟩ := of_guard h
  obtain ⟨gm, h⟩ := of_guardP h
  have m2 := mn_ord gm x4 x1 x2 x3
  have m3 := mb_X8_order_66  h
  have a1 := hm0.2.1; have a2 := hm0.2.2.1; have b1 := m2.2.1; have b2 := m2.2.2.1; have d1 := m3.2.1; have d2 := m3.2.2.1
  have k1 := (kc_ord μ ν x4 x1 x2 x3).1; have k2 := (kc_ord μ ν x4 x1 x2 x3).2
  refine g_new (ci := 7) C inGX4 tyX4 tyX4_ok gw_577 gw_1078 gw_30 rfl (fs := [.int 0, .int 0, .null, .null, .int 0, .int 0, .int 0, .int 0]) (fun j hj => match j, hj with | 0, _ => rfl | 1, _ => rfl | 2, _ => rfl | 3, _ => rfl | 4, _ => rfl | 5, _ => rfl | 6, _ => rfl | 7, _ => rfl) (by show (kc ν - kc ν0) + 1 ≤ kc r0.1.2 - kc ν0; omega) (by show (ks ν - ks ν0) + 8 ≤ ks r0.1.2 - ks ν0; omega) dX8_order_54 (fun qn hqn hqns => ?_)
  refine g_dup C dX8_order_57 rfl ?_
  refine g_iload C dX8_order_58 4 rfl ?_
  refine g_iload_n C dX8_order_60 rfl 1 rfl ?_
  refine g_iload_n C dX8_order_61 rfl 2 rfl ?_
  refine g_iload_n C dX8_order_62 rfl 3 rfl ?_
  refine g_lv [0, 1, 2, 3, 4] rfl ?_
  refine g_cI (n := 4) (exc := [(qn, .inr (7, [.int 0, .int 0, .null, .null, .int 0, .int 0, .int 0, .int 0]))]) (exr := []) C [_, _, _, _] _ rfl rfl [0] [] rfl rfl rfl rfl (fun _ h => by simp at h) (fun q h => by simp at h; exact ⟨0, _, by rw [h]; rfl⟩) (fun q h => by simp at h; rw [h]; exact hqn) (fun sz => k_ord l (zS μ ν a Ad) qn x4 x1 x2 x3 g8 D E sz) rfl gw_1081 gw_30 gw_1079 gw_1080 rfl ⟨by decide +kernel, by decide +kernel, by decide +kernel⟩ ⟨rfl, rfl⟩ ⟨Nat.le_of_ble_eq_true rfl, Nat.le_of_ble_eq_true rfl⟩ (by first | exact Nat.le_of_ble_eq_true rfl | simp [nv_cat, cat_i, cat_r, cat_n]) dX8_order_63 ⟨by show (kc ν - kc ν0) + 1 + 2 ≤ kc r0.1.2 - kc ν0; omega, by show (ks ν - ks ν0) + 8 + 8 ≤ ks r0.1.2 - ks ν0; omega⟩ (fun u hp hx => ?_)
  obtain ⟨q1, q2, rfl⟩ := hp
  have hq1 := (hx 1 _ rfl).1
  have hq2 := (hx 2 _ rfl).1
  try dsimp only [List.append_nil]
  refine g_adO gm hqn hq1 hq2 ?_
  have hkp : kp ν Ad (up2 (up2 (up2 Ad 21 (2 * ν.2 20) q1) 21 (2 * ν.2 20 + 1) q2) 20 (ν.2 20) qn) := kp_ord gm.1 q1 q2 qn
  have hqe : (up2 (up2 (up2 Ad 21 (2 * ν.2 20) q1) 21 (2 * ν.2 20 + 1) q2) 20 (ν.2 20) qn) 20 (ν.2 20) = qn := up2_s _ _ _ _
  generalize up2 (up2 (up2 Ad 21 (2 * ν.2 20) q1) 21 (2 * ν.2 20 + 1) q2) 20 (ν.2 20) qn = A1 at hkp hqe ⊢
  rw [← hqe]
  refine g_widen (k := kc (nwOrd μ ν x4 x1 x2 x3).2 - kc ν0) (n := ks (nwOrd μ ν x4 x1 x2 x3).2 - ks ν0) (by show (kc ν - kc ν0) + 1 + 2 ≤ kc (nwOrd μ ν x4 x1 x2 x3).2 - kc ν0; omega) (by show (ks ν - ks ν0) + 8 + 8 ≤ ks (nwOrd μ ν x4 x1 x2 x3).2 - ks ν0; omega) ?_
  rw [show Ad 0 0 = A1 0 0 from (hkp.1 0 _ rfl (of_decide_eq_true g7)).symm]
  rw [show Ad 4 2 = A1 4 2 from (hkp.1 4 _ rfl (of_decide_eq_true g9)).symm]
  exact lb_X8_order_66 C hEv hr hz (mn_trans hm0 m2) (kp_trans hp0 hm0 hkp)   h
noncomputable def f_X8_order  (w : Nat) (μ : MP) (ν : NC) (x1 : Int32) (x2 : Int32) (x3 : Int32) : Option (Nat × ((MP × NC) × Int32)) := (f_X8_requireRange w μ ν x2 (1 : Int32) (100 : Int32)).bind (fun v1 => bif eqB v1.1 0 then (f_X8_requireRange w μ ν x3 (1 : Int32) (100 : Int32)).bind (fun v2 => bif eqB v2.1 0 then bif ltB 0 (ν.2 0) then bif ltB 2 (ν.2 4) then yl ((μ.1 4 2 2)) (fun t5 => bif ltB 0 (ν.2 1) then (if (μ.1 1 0 3) = (0 : Int32) then (b_X8_order_40  w μ ν ) else ((if t5 < (40 : Int32) then ((b_X8_order_50  w μ ν x1 x2 x3 t5).bind (fun r => some ((0 : Nat), r))) else (b_X8_order_40  w μ ν )))) else none) else none else none else some (v2.1, ((μ, ν), (0 : Int32)))) else some (v1.1, ((μ, ν), (0 : Int32))))
theorem mb_X8_order_0 {w : Nat} {μ : MP} {ν : NC} {x1 : Int32} {x2 : Int32} {x3 : Int32} {r0 : (MP × NC) × Int32}   (h : f_X8_order  w μ ν x1 x2 x3 = some (0, r0)) : mn ν r0.1.2 := by
  unfold f_X8_order at h
  iterate 40 (try first | (with_reducible (replace h := bind_of h; obtain ⟨rz, hrz, h⟩ := h; replace h := congrArg Prod.snd (Option.some.inj h); obtain rfl := h; exact mb_X8_order_50  hrz)) | (with_reducible replace h := (of_guard h).2) | (with_reducible (replace h := of_guardP h; obtain ⟨hg, h⟩ := h)) | (with_reducible replace h := yl_of h rfl) | (with_reducible replace h := (of_thr h).2) | (with_reducible (replace h := bind_of h; obtain ⟨v, hv, h⟩ := h)) | (with_reducible split at h) | (with_reducible (exact mb_X8_order_40  h)) | (with_reducible exact absurd (congrArg Prod.fst (Option.some.inj h)) (by simp)))
set_option maxHeartbeats 4000000 in
set_option maxRecDepth 100000 in
theorem lb_X8_order_0 {p : Program} {l : Launch} {e : Env} {s : State} {m : MethodId} {args : Array Value} {below : List Frame} {meth : Method} {c : Code} {D : va_G} {E : Nat → ClassId} {sz : Nat} {μ0 : MP} {ν0 : NC} {a : AS} {Ad0 : Nat → Nat → Nat} {w : Nat} {B : Nat × (Nat → Nat)} {r0 : (MP × NC) × Int32} (C : cx p s m args meth c D E (Aof (zS μ0 ν0 a Ad0) [] s.heap.size) cX8_order 5 "TradeLine") (hEv : eV (Ad0 30 0) (Ad0 31 0) B (Aof (zS μ0 ν0 a Ad0) [] s.heap.size) s s.heap) (hr : meth.sig.returnType = (some .int)) (hz : s.heap.size = sz) {μ : MP} {ν : NC} {Ad : Nat → Nat → Nat} (hm0 : mn ν0 ν) (hp0 : kp ν0 Ad0 Ad) {x1 : Int32} {x2 : Int32} {x3 : Int32}   (h : f_X8_order  w μ ν x1 x2 x3 = some (0, r0)) : G p l e ({ frames := 8, cells := kc r0.1.2 - kc ν0, slots := ks r0.1.2 - ks ν0, locals := 246 } : Room) s m args below meth c D E (Aof (zS μ0 ν0 a Ad0) [] s.heap.size) 5 (MQ below (cQ D E sz (zS μ0 ν0 a Ad0) [] (pI (fun r u => r = r0.2 ∧ ∃ A1, u = (zS r0.1.1 r0.1.2 a A1, []) ∧ kp ν0 Ad0 A1))) args s (kc r0.1.2 - kc ν0) (ks r0.1.2 - ks ν0) (Aof (zS μ0 ν0 a Ad0) [] s.heap.size)) (zS μ ν a Ad) [] (kc ν - kc ν0) (ks ν - ks ν0) 0 [(0, .ref (Ad 0 0)), (1, .int x1), (2, .int x2), (3, .int x3)] [] := by
  have m0 := mb_X8_order_0  h
  have e1 := m0.2.1; have e2 := m0.2.2.1; have e3 := hm0.2.1; have e4 := hm0.2.2.1
  unfold f_X8_order at h
  refine g_iload_n C dX8_order_0 rfl 2 rfl ?_
  refine g_iconst (v := (1 : Int32)) C dX8_order_1 (by decide) ?_
  refine g_bipush (v := (100 : Int32)) C dX8_order_2 (by decide) ?_
  obtain ⟨v1, hv1, h⟩ := bind_of h
  obtain ⟨nv1, h⟩ := of_thr h
  refine g_cSv (n := 3) (exc := []) (exr := []) C [_, _, _] _ rfl rfl [] [] rfl rfl rfl rfl (fun _ h => absurd h (by simp)) (fun _ h => absurd h (by simp)) (fun _ h => absurd h (by simp)) (fun sz => c_X8_requireRange l μ ν a Ad w x2 (1 : Int32) (100 : Int32) _ (thr0 hv1 nv1) D E sz) rfl gw_1075 gw_1 gw_1073 gw_1074 ⟨by decide +kernel, by decide +kernel, by decide +kernel⟩ ⟨rfl, rfl⟩ ⟨Nat.le_of_ble_eq_true rfl, Nat.le_of_ble_eq_true rfl⟩ (by first | exact Nat.le_of_ble_eq_true rfl | simp [nv_cat, cat_i, cat_r, cat_n]) dX8_order_4 ⟨by show (kc ν - kc ν0) + 0 ≤ kc r0.1.2 - kc ν0; omega, by show (ks ν - ks ν0) + 0 ≤ ks r0.1.2 - ks ν0; omega⟩ (fun u hp hx => ?_)
  obtain rfl := hp
  try dsimp only [List.append_nil]
  refine g_iload_n C dX8_order_7 rfl 3 rfl ?_
  refine g_iconst (v := (1 : Int32)) C dX8_order_8 (by decide) ?_
  refine g_bipush (v := (100 : Int32)) C dX8_order_9 (by decide) ?_
  obtain ⟨v2, hv2, h⟩ := bind_of h
  obtain ⟨nv2, h⟩ := of_thr h
  refine g_cSv (n := 3) (exc := []) (exr := []) C [_, _, _] _ rfl rfl [] [] rfl rfl rfl rfl (fun _ h => absurd h (by simp)) (fun _ h => absurd h (by simp)) (fun _ h => absurd h (by simp)) (fun sz => c_X8_requireRange l μ ν a Ad w x3 (1 : Int32) (100 : Int32) _ (thr0 hv2 nv2) D E sz) rfl gw_1075 gw_1 gw_1073 gw_1074 ⟨by decide +kernel, by decide +kernel, by decide +kernel⟩ ⟨rfl, rfl⟩ ⟨Nat.le_of_ble_eq_true rfl, Nat.le_of_ble_eq_true rfl⟩ (by first | exact Nat.le_of_ble_eq_true rfl | simp [nv_cat, cat_i, cat_r, cat_n]) dX8_order_11 ⟨by show (kc ν - kc ν0) + 0 ≤ kc r0.1.2 - kc ν0; omega, by show (ks ν - ks ν0) + 0 ≤ ks r0.1.2 - ks ν0; omega⟩ (fun u hp hx => ?_)
  obtain rfl := hp
  try dsimp only [List.append_nil]
  refine g_aload_n C dX8_order_14 rfl 0 rfl ?_
  obtain ⟨g3, h⟩ := of_guard h
  refine g_get (k := 0) (i := 0) (ref := "TradeLine") (v := .ref (Ad 4 2)) C rfl (lvZ g3 rfl) rfl rfl inGX8 2 (by decide) gw_172 (fun _ h => h) rfl dX8_order_15 ?_
  obtain ⟨g4, h⟩ := of_guard h
  refine g_cVi (n := 0) (exc := []) (exr := []) C [] _ rfl rfl [] [] rfl rfl rfl rfl (fun _ h => absurd h (by simp)) (fun _ h => absurd h (by simp)) (fun _ h => absurd h (by simp)) (fun sz => c_Jx4a65c_size_8abf5 l μ ν a Ad _ g4 D E sz) rfl gw_308 gw_5 gw_305 gw_306 gw_307 ⟨by decide +kernel, by decide +kernel, by decide +kernel⟩ ⟨rfl, rfl⟩ ⟨Nat.le_of_ble_eq_true rfl, Nat.le_of_ble_eq_true rfl⟩ (rcvT (lvZ g4 rfl) rfl rfl rfl) (by first | exact Nat.le_of_ble_eq_true rfl | simp [nv_cat, cat_i, cat_r, cat_n]) dX8_order_18 ⟨by show (kc ν - kc ν0) + 0 ≤ kc r0.1.2 - kc ν0; omega, by show (ks ν - ks ν0) + 0 ≤ ks r0.1.2 - ks ν0; omega⟩ (fun r u hp hx => ?_)
  obtain ⟨er, rfl⟩ := hp
  rw [er]
  try dsimp only [List.append_nil]
  refine q_topi (fun t5 et5 => ?_)
  replace h := yl_of h et5
  refine g_istore (lv' := [(4, .int t5), (0, .ref (Ad 0 0)), (1, .int x1), (2, .int x2), (3, .int x3)]) C dX8_order_21 (by decide) rfl ?_
  refine g_aload_n C dX8_order_23 rfl 1 rfl ?_
  refine g_get (k := 0) (i := 0) (ref := "TradeLine") (v := .ref (Ad 1 0)) C rfl (lvZ g3 rfl) rfl rfl inGX8 0 (by decide) gw_170 (fun _ h => h) rfl dX8_order_24 ?_
  obtain ⟨g6, h⟩ := of_guard h
  refine g_get (k := 1) (i := 0) (ref := "TradeLine$Party") (v := .int (μ.1 1 0 3)) C rfl (lvZ g6 rfl) rfl rfl inGX5 3 (by decide) gw_118 (fun _ h => h) rfl dX8_order_27 ?_
  refine g_if_eq (tgt := 40) C dX8_order_30 (by decide) (fun c30 => ?_) (fun c30 => ?_)
  · replace h := (if_pos c30).symm.trans h
    refine g_lv [1] rfl ?_
    exact lb_X8_order_40 C hEv hr hz hm0 hp0   h
  · replace h := (if_neg c30).symm.trans h
    refine g_iload C dX8_order_33 0 rfl ?_
    refine g_bipush (v := (40 : Int32)) C dX8_order_35 (by decide) ?_
    refine g_icmp_lt (tgt := 50) C dX8_order_37 (by decide) (fun c37 => ?_) (fun c37 => ?_)
    · replace h := (if_pos c37).symm.trans h
      refine g_lv [1, 2, 3, 4, 0] rfl ?_
      obtain ⟨rz, hrz, h⟩ := bind_of h
      obtain rfl := congrArg Prod.snd (Option.some.inj h)
      exact lb_X8_order_50 C hEv hr hz hm0 hp0   hrz
    · replace h := (if_neg c37).symm.trans h
      refine g_lv [1] rfl ?_
      exact lb_X8_order_40 C hEv hr hz hm0 hp0   h
theorem m_X8_order {w : Nat} {μ : MP} {ν : NC} {x1 : Int32} {x2 : Int32} {x3 : Int32} {r0 : (MP × NC) × Int32} (h : f_X8_order w μ ν x1 x2 x3 = some (0, r0)) : mn ν r0.1.2 := mb_X8_order_0 h
theorem c_X8_order (l : Launch) (B : Nat × (Nat → Nat)) (μ : MP) (ν : NC) (a : AS) (Ad : Nat → Nat → Nat) (w : Nat) (x1 : Int32) (x2 : Int32) (x3 : Int32) (r0 : (MP × NC) × Int32) (h : f_X8_order w μ ν x1 x2 x3 = some (0, r0)) : ∀ D E sz, Met l yX8_order gwX8_order ({ frames := 8, cells := kc r0.1.2 - kc ν, slots := ks r0.1.2 - ks ν, locals := 246 } : Room) (cPe D E sz B (zS μ ν a Ad) [] [] [.ref (Ad 0 0), .int x1, .int x2, .int x3]) (cQ D E sz (zS μ ν a Ad) [] (pI (fun r u => r = r0.2 ∧ ∃ A1, u = (zS r0.1.1 r0.1.2 a A1, []) ∧ kp ν Ad A1))) (kc r0.1.2 - kc ν) (ks r0.1.2 - ks ν) (Aof (zS μ ν a Ad) [] sz) := by
  intro D E sz
  refine g_ofe (cc := cX8_order) (maxL := 5) (ret := (some .int)) (own := "TradeLine") (by decide) rfl rfl (Nat.le_of_ble_eq_true rfl) ?_
  intro p e s m args below meth c C hr hin hz ha hwr hEv
  refine g_lv (lv' := [(0, .ref (Ad 0 0)), (1, .int x1), (2, .int x2), (3, .int x3)]) [0, 1, 2, 3] rfl ?_
  refine g_widen (k := kc ν - kc ν) (n := ks ν - ks ν) (Nat.zero_le _) (Nat.zero_le _) ?_
  exact lb_X8_order_0 C hEv hr hz (mn_rfl _) (kp_rfl _ _) h
set_option maxHeartbeats 4000000 in
set_option maxRecDepth 100000 in
theorem lx_X8_order_40 {p : Program} {l : Launch} {e : Env} {s : State} {m : MethodId} {args : Array Value} {below : List Frame} {meth : Method} {c : Code} {D : va_G} {E : Nat → ClassId} {sz : Nat} {μ : MP} {ν : NC} {a : AS} {Ad : Nat → Nat → Nat} {w nx : Nat} {B : Nat × (Nat → Nat)} {r0 : (MP × NC) × Int32} (C : cx p s m args meth c D E (Aof (zS μ ν a Ad) [] s.heap.size) cX8_order 5 "TradeLine") (hEv : eV (Ad 30 0) (Ad 31 0) B (Aof (zS μ ν a Ad) [] s.heap.size) s s.heap) (hl : l.stackTraces = false) (hT : ∀ x ∈ c.exceptionTable.toList, False) (hz : s.heap.size = sz) (h : b_X8_order_40  w μ ν  = some (nx + 1, r0)) : G p l e ({ frames := 8, cells := 1, slots := 6, locals := 246 } : Room) s m args below meth c D E (Aof (zS μ ν a Ad) [] s.heap.size) 5 (vx_MQ below (fun _ _ _ _ => False) (cX D E sz (zS μ ν a Ad) (nx + 1)) args s 1 6 (Aof (zS μ ν a Ad) [] s.heap.size)) (zS μ ν a Ad) [] 0 0 40 [(0, .ref (Ad 0 0))] [] := by
  unfold b_X8_order_40 at h
  obtain rfl : nx = 2 := by have := congrArg Prod.fst (Option.some.inj h); simp at this; omega
  exact g_thS (n := 3) (ic := 55) (text := "the trader is not on, or has sent all orders") C hEv hl hT hz (by decide) gw_219 gw_16 (by decide +kernel) exA_3 (by decide) exG_3 dX8_order_40 dX8_order_43 dX8_order_44 dX8_order_46 dX8_order_49 (by decide) (Nat.le_of_ble_eq_true rfl) (by decide) (by decide)
set_option maxHeartbeats 4000000 in
set_option maxRecDepth 100000 in
theorem lx_X8_order_0 {p : Program} {l : Launch} {e : Env} {s : State} {m : MethodId} {args : Array Value} {below : List Frame} {meth : Method} {c : Code} {D : va_G} {E : Nat → ClassId} {sz : Nat} {μ : MP} {ν : NC} {a : AS} {Ad : Nat → Nat → Nat} {w nx : Nat} {B : Nat × (Nat → Nat)} {r0 : (MP × NC) × Int32} (C : cx p s m args meth c D E (Aof (zS μ ν a Ad) [] s.heap.size) cX8_order 5 "TradeLine") (hEv : eV (Ad 30 0) (Ad 31 0) B (Aof (zS μ ν a Ad) [] s.heap.size) s s.heap) (hl : l.stackTraces = false) (hT : ∀ x ∈ c.exceptionTable.toList, False) (hz : s.heap.size = sz) {x1 : Int32} {x2 : Int32} {x3 : Int32} (h : f_X8_order  w μ ν x1 x2 x3 = some (nx + 1, r0)) : G p l e ({ frames := 8, cells := 1, slots := 6, locals := 246 } : Room) s m args below meth c D E (Aof (zS μ ν a Ad) [] s.heap.size) 5 (vx_MQ below (fun _ _ _ _ => False) (cX D E sz (zS μ ν a Ad) (nx + 1)) args s 1 6 (Aof (zS μ ν a Ad) [] s.heap.size)) (zS μ ν a Ad) [] 0 0 0 [(0, .ref (Ad 0 0)), (1, .int x1), (2, .int x2), (3, .int x3)] [] := by
  unfold f_X8_order at h
  refine g_iload_n C dX8_order_0 rfl 2 rfl ?_
  refine g_iconst (v := (1 : Int32)) C dX8_order_1 (by decide) ?_
  refine g_bipush (v := (100 : Int32)) C dX8_order_2 (by decide) ?_
  obtain ⟨v1, hv1, h⟩ := bind_of h
  rcases of_thx h with ⟨nv1, h⟩ | nv1
  · refine g_cSv (n := 3) (exc := []) (exr := []) C [_, _, _] _ rfl rfl [] [] rfl rfl rfl rfl (fun _ h => absurd h (by simp)) (fun _ h => absurd h (by simp)) (fun _ h => absurd h (by simp)) (fun sz => c_X8_requireRange l μ ν a Ad w x2 (1 : Int32) (100 : Int32) _ (thr0 hv1 nv1) D E sz) rfl gw_1075 gw_1 gw_1073 gw_1074 ⟨by decide +kernel, by decide +kernel, by decide +kernel⟩ ⟨rfl, rfl⟩ ⟨Nat.le_of_ble_eq_true rfl, Nat.le_of_ble_eq_true rfl⟩ (by first | exact Nat.le_of_ble_eq_true rfl | simp [nv_cat, cat_i, cat_r, cat_n]) dX8_order_4 ⟨by decide, by decide⟩ (fun u hp hx => ?_)
    obtain rfl := hp
    try dsimp only [List.append_nil]
    refine g_iload_n C dX8_order_7 rfl 3 rfl ?_
    refine g_iconst (v := (1 : Int32)) C dX8_order_8 (by decide) ?_
    refine g_bipush (v := (100 : Int32)) C dX8_order_9 (by decide) ?_
    obtain ⟨v2, hv2, h⟩ := bind_of h
    rcases of_thx h with ⟨nv2, h⟩ | nv2
    · refine g_cSv (n := 3) (exc := []) (exr := []) C [_, _, _] _ rfl rfl [] [] rfl rfl rfl rfl (fun _ h => absurd h (by simp)) (fun _ h => absurd h (by simp)) (fun _ h => absurd h (by simp)) (fun sz => c_X8_requireRange l μ ν a Ad w x3 (1 : Int32) (100 : Int32) _ (thr0 hv2 nv2) D E sz) rfl gw_1075 gw_1 gw_1073 gw_1074 ⟨by decide +kernel, by decide +kernel, by decide +kernel⟩ ⟨rfl, rfl⟩ ⟨Nat.le_of_ble_eq_true rfl, Nat.le_of_ble_eq_true rfl⟩ (by first | exact Nat.le_of_ble_eq_true rfl | simp [nv_cat, cat_i, cat_r, cat_n]) dX8_order_11 ⟨by decide, by decide⟩ (fun u hp hx => ?_)
      obtain rfl := hp
      try dsimp only [List.append_nil]
      refine g_aload_n C dX8_order_14 rfl 0 rfl ?_
      obtain ⟨g3, h⟩ := of_guard h
      refine g_get (k := 0) (i := 0) (ref := "TradeLine") (v := .ref (Ad 4 2)) C rfl (lvZ g3 rfl) rfl rfl inGX8 2 (by decide) gw_172 (fun _ h => h) rfl dX8_order_15 ?_
      obtain ⟨g4, h⟩ := of_guard h
      refine g_cVi (n := 0) (exc := []) (exr := []) C [] _ rfl rfl [] [] rfl rfl rfl rfl (fun _ h => absurd h (by simp)) (fun _ h => absurd h (by simp)) (fun _ h => absurd h (by simp)) (fun sz => c_Jx4a65c_size_8abf5 l μ ν a Ad _ g4 D E sz) rfl gw_308 gw_5 gw_305 gw_306 gw_307 ⟨by decide +kernel, by decide +kernel, by decide +kernel⟩ ⟨rfl, rfl⟩ ⟨Nat.le_of_ble_eq_true rfl, Nat.le_of_ble_eq_true rfl⟩ (rcvT (lvZ g4 rfl) rfl rfl rfl) (by first | exact Nat.le_of_ble_eq_true rfl | simp [nv_cat, cat_i, cat_r, cat_n]) dX8_order_18 ⟨by decide, by decide⟩ (fun r u hp hx => ?_)
      obtain ⟨er, rfl⟩ := hp
      rw [er]
      try dsimp only [List.append_nil]
      refine q_topi (fun t5 et5 => ?_)
      replace h := yl_of h et5
      refine g_istore (lv' := [(4, .int t5), (0, .ref (Ad 0 0)), (1, .int x1), (2, .int x2), (3, .int x3)]) C dX8_order_21 (by decide) rfl ?_
      refine g_aload_n C dX8_order_23 rfl 1 rfl ?_
      refine g_get (k := 0) (i := 0) (ref := "TradeLine") (v := .ref (Ad 1 0)) C rfl (lvZ g3 rfl) rfl rfl inGX8 0 (by decide) gw_170 (fun _ h => h) rfl dX8_order_24 ?_
      obtain ⟨g6, h⟩ := of_guard h
      refine g_get (k := 1) (i := 0) (ref := "TradeLine$Party") (v := .int (μ.1 1 0 3)) C rfl (lvZ g6 rfl) rfl rfl inGX5 3 (by decide) gw_118 (fun _ h => h) rfl dX8_order_27 ?_
      refine g_if_eq (tgt := 40) C dX8_order_30 (by decide) (fun c30 => ?_) (fun c30 => ?_)
      · replace h := (if_pos c30).symm.trans h
        refine g_lv [1] rfl ?_
        exact lx_X8_order_40 C hEv hl hT hz h
      · replace h := (if_neg c30).symm.trans h
        refine g_iload C dX8_order_33 0 rfl ?_
        refine g_bipush (v := (40 : Int32)) C dX8_order_35 (by decide) ?_
        refine g_icmp_lt (tgt := 50) C dX8_order_37 (by decide) (fun c37 => ?_) (fun c37 => ?_)
        · replace h := (if_pos c37).symm.trans h
          obtain ⟨_, _, h⟩ := bind_of h
          exact absurd (congrArg Prod.fst (Option.some.inj h)) (by simp)
        · replace h := (if_neg c37).symm.trans h
          refine g_lv [1] rfl ?_
          exact lx_X8_order_40 C hEv hl hT hz h
    · exact g_xS (index := 3) C hEv ⟨rfl, rfl⟩ hT hz [_, _, _] _ rfl rfl (fun sz => x_X8_requireRange l hl B μ ν a Ad w x3 (1 : Int32) (100 : Int32) _ _ (thrS hv2 nv2) D E sz) rfl gw_1075 gw_1 gw_1073 gw_1074 ⟨by decide +kernel, by decide +kernel, by decide +kernel⟩ ⟨rfl, rfl⟩ ⟨Nat.le_of_ble_eq_true rfl, Nat.le_of_ble_eq_true rfl⟩ (Nat.le_of_ble_eq_true rfl) dX8_order_11 ⟨by decide, by decide⟩
  · exact g_xS (index := 3) C hEv ⟨rfl, rfl⟩ hT hz [_, _, _] _ rfl rfl (fun sz => x_X8_requireRange l hl B μ ν a Ad w x2 (1 : Int32) (100 : Int32) _ _ (thrS hv1 nv1) D E sz) rfl gw_1075 gw_1 gw_1073 gw_1074 ⟨by decide +kernel, by decide +kernel, by decide +kernel⟩ ⟨rfl, rfl⟩ ⟨Nat.le_of_ble_eq_true rfl, Nat.le_of_ble_eq_true rfl⟩ (Nat.le_of_ble_eq_true rfl) dX8_order_4 ⟨by decide, by decide⟩
theorem x_X8_order (l : Launch) (hl : l.stackTraces = false) (B : Nat × (Nat → Nat)) (μ : MP) (ν : NC) (a : AS) (Ad : Nat → Nat → Nat) (w : Nat) (x1 : Int32) (x2 : Int32) (x3 : Int32) (nx : Nat) (r0 : (MP × NC) × Int32) (h : f_X8_order w μ ν x1 x2 x3 = some (nx + 1, r0)) : ∀ D E sz, vx_Met l yX8_order gwX8_order ({ frames := 8, cells := 1, slots := 6, locals := 246 } : Room) (cPe D E sz B (zS μ ν a Ad) [] [] [.ref (Ad 0 0), .int x1, .int x2, .int x3]) (fun _ _ _ _ => False) (cX D E sz (zS μ ν a Ad) (nx + 1)) 1 6 (Aof (zS μ ν a Ad) [] sz) := by
  intro D E sz
  refine g_ofx (cc := cX8_order) (maxL := 5) (ret := (some .int)) (own := "TradeLine") (by decide) rfl rfl (Nat.le_of_ble_eq_true rfl) ?_
  intro p e s m args below meth c C hT hz ha hEv
  refine g_lv (lv' := [(0, .ref (Ad 0 0)), (1, .int x1), (2, .int x2), (3, .int x3)]) [0, 1, 2, 3] rfl ?_
  exact lx_X8_order_0 C hEv hl hT hz h
