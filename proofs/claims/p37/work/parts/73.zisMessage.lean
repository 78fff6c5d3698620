noncomputable def b_L_isMessage_660  (w : Nat) (μ : MP) (ν : NC) (a : AS)  (s0 : Int32) : Option (((MP × NC) × AS) × Int32) := (if s0 = (-7100 : Int32) then (some (((μ, ν), a), (1 : Int32))) else (some (((μ, ν), a), (0 : Int32))))
theorem mb_L_isMessage_660 {w : Nat} {μ : MP} {ν : NC} {a : AS}  {s0 : Int32} {r0 : ((MP × NC) × AS) × Int32}   (h : b_L_isMessage_660  w μ ν a  s0 = some r0) : mn ν r0.1.1.2 := by
  unfold b_L_isMessage_660 at h
  by_cases c663 : s0 = (-7100 : Int32)
  · replace h := (if_pos c663).symm.trans h
    obtain rfl := Option.some.inj h
    exact mn_rfl _
  · replace h := (if_neg c663).symm.trans h
    obtain rfl := Option.some.inj h
    exact mn_rfl _
set_option maxHeartbeats 4000000 in
set_option maxRecDepth 100000 in
theorem lb_L_isMessage_660 {p : Program} {l : Launch} (hl : l.stackTraces = false) {e : Env} {s : State} {m : MethodId} {args : Array Value} {below : List Frame} {meth : Method} {c : Code} {D : va_G} {E : Nat → ClassId} {sz : Nat} {μ0 : MP} {ν0 : NC} {a0 : AS} {Ad0 : Nat → Nat → Nat} {Q : Nat → Nat} {B : Nat × (Nat → Nat)} {w : Nat} {r0 : ((MP × NC) × AS) × Int32} (C : cx p s m args meth c D E (Aof (zS μ0 ν0 a0 Ad0) [] s.heap.size) cL_isMessage 18 "TradeLineLaw") (hEv : eV (Ad0 30 0) (Ad0 31 0) B (Aof (zS μ0 ν0 a0 Ad0) [] s.heap.size) s s.heap) (hN : vN s) (hr : meth.sig.returnType = (some .boolean)) (hz : s.heap.size = sz) (hI0 : lwI ν0) (hQ0 : lwQ Ad0 Q) {μ : MP} {ν : NC} {a : AS} {Ad : Nat → Nat → Nat} (hm0 : mn ν0 ν) (hp0 : kp ν0 Ad0 Ad)  {s0 : Int32}   (h : b_L_isMessage_660  w μ ν a  s0 = some r0) : G p l e ({ frames := 10, cells := kc r0.1.1.2 - kc ν0, slots := ks r0.1.1.2 - ks ν0, locals := 192 } : Room) s m args below meth c D E (Aof (zS μ0 ν0 a0 Ad0) [] s.heap.size) 18 (MQ below (cQ D E sz (zS μ0 ν0 a0 Ad0) [] (pI (fun r u => r = r0.2 ∧ ∃ A1, u = (zS r0.1.1.1 r0.1.1.2 r0.1.2 A1, []) ∧ kp ν0 Ad0 A1))) args s (kc r0.1.1.2 - kc ν0) (ks r0.1.1.2 - ks ν0) (Aof (zS μ0 ν0 a0 Ad0) [] s.heap.size)) (zS μ ν a Ad) [] (kc ν - kc ν0) (ks ν - ks ν0) 660 [] [.int s0] := by
  have m0 := mb_L_isMessage_660  h
  have e1 := m0.2.1; have e2 := m0.2.2.1; have e3 := hm0.2.1; have e4 := hm0.2.2.1
  have hI := lwI_mn hI0 hm0; have hQ := lwQ_kp hI0 hp0 hQ0
  unfold b_L_isMessage_660 at h
  refine g_sipush (v := (-7100 : Int32)) C dL_isMessage_660 (by decide) ?_
  refine g_icmp_ne (tgt := 670) C dL_isMessage_663 (by decide) (fun c663 => ?_) (fun c663 => ?_)
  · replace h := (if_neg c663).symm.trans h
    refine g_iconst (v := (0 : Int32)) C dL_isMessage_670 (by decide) ?_
    obtain rfl := Option.some.inj h
    exact g_iret C hr rfl hz ⟨(hm0.2.2.2 30 (by decide) (by decide)).1, (hm0.2.2.2 31 (by decide) (by decide)).1, hp0.2.1, hp0.2.2⟩ ⟨rfl, Ad, rfl, hp0⟩ (fun j x h => by simp at h) dL_isMessage_671
  · replace h := (if_pos c663).symm.trans h
    refine g_iconst (v := (1 : Int32)) C dL_isMessage_666 (by decide) ?_
    refine g_goto (tgt := 671) C dL_isMessage_667 (by decide) ?_
    obtain rfl := Option.some.inj h
    exact g_iret C hr rfl hz ⟨(hm0.2.2.2 30 (by decide) (by decide)).1, (hm0.2.2.2 31 (by decide) (by decide)).1, hp0.2.1, hp0.2.2⟩ ⟨rfl, Ad, rfl, hp0⟩ (fun j x h => by simp at h) dL_isMessage_671
noncomputable def b_L_isMessage_647  (w : Nat) (μ : MP) (ν : NC) (a : AS) (x1 : Int32) (x2 : Int32) (s0 : Int32) : Option (((MP × NC) × AS) × Int32) := (if s0 = (-7100 : Int32) then ((f_L_valueAt w μ ν x1 x2 (-1 : Int32)).bind (fun v15 => b_L_isMessage_660  w v15.1.1 v15.1.2 a v15.2)) else (some (((μ, ν), a), (0 : Int32))))
theorem mb_L_isMessage_647 {w : Nat} {μ : MP} {ν : NC} {a : AS} {x1 : Int32} {x2 : Int32} {s0 : Int32} {r0 : ((MP × NC) × AS) × Int32}   (h : b_L_isMessage_647  w μ ν a x1 x2 s0 = some r0) : mn ν r0.1.1.2 := by
  unfold b_L_isMessage_647 at h
  by_cases c650 : s0 = (-7100 : Int32)
  · replace h := (if_pos c650).symm.trans h
    obtain ⟨v15, hv15, h⟩ := bind_of h
    exact mn_trans (m_L_valueAt hv15) (mb_L_isMessage_660  h)
  · replace h := (if_neg c650).symm.trans h
    obtain rfl := Option.some.inj h
    exact mn_rfl _
set_option maxHeartbeats 4000000 in
set_option maxRecDepth 100000 in
theorem lb_L_isMessage_647 {p : Program} {l : Launch} (hl : l.stackTraces = false) {e : Env} {s : State} {m : MethodId} {args : Array Value} {below : List Frame} {meth : Method} {c : Code} {D : va_G} {E : Nat → ClassId} {sz : Nat} {μ0 : MP} {ν0 : NC} {a0 : AS} {Ad0 : Nat → Nat → Nat} {Q : Nat → Nat} {B : Nat × (Nat → Nat)} {w : Nat} {r0 : ((MP × NC) × AS) × Int32} (C : cx p s m args meth c D E (Aof (zS μ0 ν0 a0 Ad0) [] s.heap.size) cL_isMessage 18 "TradeLineLaw") (hEv : eV (Ad0 30 0) (Ad0 31 0) B (Aof (zS μ0 ν0 a0 Ad0) [] s.heap.size) s s.heap) (hN : vN s) (hr : meth.sig.returnType = (some .boolean)) (hz : s.heap.size = sz) (hI0 : lwI ν0) (hQ0 : lwQ Ad0 Q) {μ : MP} {ν : NC} {a : AS} {Ad : Nat → Nat → Nat} (hm0 : mn ν0 ν) (hp0 : kp ν0 Ad0 Ad) {x1 : Int32} {x2 : Int32} {s0 : Int32}   (h : b_L_isMessage_647  w μ ν a x1 x2 s0 = some r0) : G p l e ({ frames := 10, cells := kc r0.1.1.2 - kc ν0, slots := ks r0.1.1.2 - ks ν0, locals := 192 } : Room) s m args below meth c D E (Aof (zS μ0 ν0 a0 Ad0) [] s.heap.size) 18 (MQ below (cQ D E sz (zS μ0 ν0 a0 Ad0) [] (pI (fun r u => r = r0.2 ∧ ∃ A1, u = (zS r0.1.1.1 r0.1.1.2 r0.1.2 A1, []) ∧ kp ν0 Ad0 A1))) args s (kc r0.1.1.2 - kc ν0) (ks r0.1.1.2 - ks ν0) (Aof (zS μ0 ν0 a0 Ad0) [] s.heap.size)) (zS μ ν a Ad) [] (kc ν - kc ν0) (ks ν - ks ν0) 647 [(0, .ref (Q 0)), (1, .int x1), (2, .int x2)] [.int s0] := by
  have m0 := mb_L_isMessage_647  h
  have e1 := m0.2.1; have e2 := m0.2.2.1; have e3 := hm0.2.1; have e4 := hm0.2.2.1
  have hI := lwI_mn hI0 hm0; have hQ := lwQ_kp hI0 hp0 hQ0
  unfold b_L_isMessage_647 at h
  refine g_sipush (v := (-7100 : Int32)) C dL_isMessage_647 (by decide) ?_
  refine g_icmp_ne (tgt := 670) C dL_isMessage_650 (by decide) (fun c650 => ?_) (fun c650 => ?_)
  · replace h := (if_neg c650).symm.trans h
    refine g_iconst (v := (0 : Int32)) C dL_isMessage_670 (by decide) ?_
    obtain rfl := Option.some.inj h
    exact g_iret C hr rfl hz ⟨(hm0.2.2.2 30 (by decide) (by decide)).1, (hm0.2.2.2 31 (by decide) (by decide)).1, hp0.2.1, hp0.2.2⟩ ⟨rfl, Ad, rfl, hp0⟩ (fun j x h => by simp at h) dL_isMessage_671
  · replace h := (if_pos c650).symm.trans h
    refine g_aload_n C dL_isMessage_653 rfl 0 rfl ?_
    refine g_iload_n C dL_isMessage_654 rfl 1 rfl ?_
    refine g_iload_n C dL_isMessage_655 rfl 2 rfl ?_
    refine g_iconst (v := (-1 : Int32)) C dL_isMessage_656 (by decide) ?_
    obtain ⟨v15, hv15, h⟩ := bind_of h
    have m2 := m_L_valueAt hv15
    have m3 := mb_L_isMessage_660  h
    have a1 := hm0.2.1; have a2 := hm0.2.2.1; have b1 := m2.2.1; have b2 := m2.2.2.1; have d1 := m3.2.1; have d2 := m3.2.2.1
    refine g_cSh (n := 4) (exr := []) C hEv hN ⟨hp0.2.1 0, hp0.2.2 0⟩ [_, _, _, _] _ rfl rfl [] rfl rfl (fun sz => wc_L_valueAt l hl B _ ν _ Ad Q hI hQ w _ _ _ _ hv15 D E sz) rfl gh_valueAt gw_0 gw_1284 gw_1285 ⟨by decide +kernel, by decide +kernel, by decide +kernel⟩ ⟨rfl, rfl⟩ ⟨Nat.le_of_ble_eq_true rfl, Nat.le_of_ble_eq_true rfl⟩ (Nat.le_of_ble_eq_true rfl) dL_isMessage_657 ⟨by show (kc ν - kc ν0) + (kc v15.1.2 - kc ν) ≤ kc r0.1.1.2 - kc ν0; omega, by show (ks ν - ks ν0) + (ks v15.1.2 - ks ν) ≤ ks r0.1.1.2 - ks ν0; omega⟩ (fun r u hp hx => ?_)
    obtain ⟨er, A1, rfl, hkp⟩ := hp
    rw [er]
    try dsimp only [List.append_nil]
    refine g_widen (k := kc v15.1.2 - kc ν0) (n := ks v15.1.2 - ks ν0) (by omega) (by omega) ?_
    refine g_lv [] rfl ?_
    exact lb_L_isMessage_660 hl C hEv hN hr hz hI0 hQ0 (mn_trans hm0 m2) (kp_trans hp0 hm0 hkp)  h
noncomputable def b_L_isMessage_628  (w : Nat) (μ : MP) (ν : NC) (a : AS) (x1 : Int32) (x2 : Int32) (x10 : Int32) (x11 : Int32) (s0 : Int32) : Option (((MP × NC) × AS) × Int32) := (if s0 = (x10 - x10 / (256 : Int32) * (256 : Int32)) then ((f_L_tagAt w μ ν x1 x2 (x11 + (1 : Int32))).bind (fun v14 => b_L_isMessage_647  w v14.1.1 v14.1.2 a x1 x2 v14.2)) else (some (((μ, ν), a), (0 : Int32))))
theorem mb_L_isMessage_628 {w : Nat} {μ : MP} {ν : NC} {a : AS} {x1 : Int32} {x2 : Int32} {x10 : Int32} {x11 : Int32} {s0 : Int32} {r0 : ((MP × NC) × AS) × Int32}   (h : b_L_isMessage_628  w μ ν a x1 x2 x10 x11 s0 = some r0) : mn ν r0.1.1.2 := by
  unfold b_L_isMessage_628 at h
  by_cases c634 : s0 = (x10 - x10 / (256 : Int32) * (256 : Int32))
  · replace h := (if_pos c634).symm.trans h
    obtain ⟨v14, hv14, h⟩ := bind_of h
    exact mn_trans (m_L_tagAt hv14) (mb_L_isMessage_647  h)
  · replace h := (if_neg c634).symm.trans h
    obtain rfl := Option.some.inj h
    exact mn_rfl _
set_option maxHeartbeats 4000000 in
set_option maxRecDepth 100000 in
theorem lb_L_isMessage_628 {p : Program} {l : Launch} (hl : l.stackTraces = false) {e : Env} {s : State} {m : MethodId} {args : Array Value} {below : List Frame} {meth : Method} {c : Code} {D : va_G} {E : Nat → ClassId} {sz : Nat} {μ0 : MP} {ν0 : NC} {a0 : AS} {Ad0 : Nat → Nat → Nat} {Q : Nat → Nat} {B : Nat × (Nat → Nat)} {w : Nat} {r0 : ((MP × NC) × AS) × Int32} (C : cx p s m args meth c D E (Aof (zS μ0 ν0 a0 Ad0) [] s.heap.size) cL_isMessage 18 "TradeLineLaw") (hEv : eV (Ad0 30 0) (Ad0 31 0) B (Aof (zS μ0 ν0 a0 Ad0) [] s.heap.size) s s.heap) (hN : vN s) (hr : meth.sig.returnType = (some .boolean)) (hz : s.heap.size = sz) (hI0 : lwI ν0) (hQ0 : lwQ Ad0 Q) {μ : MP} {ν : NC} {a : AS} {Ad : Nat → Nat → Nat} (hm0 : mn ν0 ν) (hp0 : kp ν0 Ad0 Ad) {x1 : Int32} {x2 : Int32} {x10 : Int32} {x11 : Int32} {s0 : Int32}   (h : b_L_isMessage_628  w μ ν a x1 x2 x10 x11 s0 = some r0) : G p l e ({ frames := 10, cells := kc r0.1.1.2 - kc ν0, slots := ks r0.1.1.2 - ks ν0, locals := 192 } : Room) s m args below meth c D E (Aof (zS μ0 ν0 a0 Ad0) [] s.heap.size) 18 (MQ below (cQ D E sz (zS μ0 ν0 a0 Ad0) [] (pI (fun r u => r = r0.2 ∧ ∃ A1, u = (zS r0.1.1.1 r0.1.1.2 r0.1.2 A1, []) ∧ kp ν0 Ad0 A1))) args s (kc r0.1.1.2 - kc ν0) (ks r0.1.1.2 - ks ν0) (Aof (zS μ0 ν0 a0 Ad0) [] s.heap.size)) (zS μ ν a Ad) [] (kc ν - kc ν0) (ks ν - ks ν0) 628 [(0, .ref (Q 0)), (1, .int x1), (2, .int x2), (10, .int x10), (11, .int x11)] [.int s0] := by
  have m0 := mb_L_isMessage_628  h
  have e1 := m0.2.1; have e2 := m0.2.2.1; have e3 := hm0.2.1; have e4 := hm0.2.2.1
  have hI := lwI_mn hI0 hm0; have hQ := lwQ_kp hI0 hp0 hQ0
  unfold b_L_isMessage_628 at h
  refine g_iload C dL_isMessage_628 3 rfl ?_
  refine g_sipush (v := (256 : Int32)) C dL_isMessage_630 (by decide) ?_
  refine g_irem C dL_isMessage_633 (by decide) ?_
  refine g_icmp_ne (tgt := 670) C dL_isMessage_634 (by decide) (fun c634 => ?_) (fun c634 => ?_)
  · replace h := (if_neg c634).symm.trans h
    refine g_iconst (v := (0 : Int32)) C dL_isMessage_670 (by decide) ?_
    obtain rfl := Option.some.inj h
    exact g_iret C hr rfl hz ⟨(hm0.2.2.2 30 (by decide) (by decide)).1, (hm0.2.2.2 31 (by decide) (by decide)).1, hp0.2.1, hp0.2.2⟩ ⟨rfl, Ad, rfl, hp0⟩ (fun j x h => by simp at h) dL_isMessage_671
  · replace h := (if_pos c634).symm.trans h
    refine g_aload_n C dL_isMessage_637 rfl 0 rfl ?_
    refine g_iload_n C dL_isMessage_638 rfl 1 rfl ?_
    refine g_iload_n C dL_isMessage_639 rfl 2 rfl ?_
    refine g_iload C dL_isMessage_640 4 rfl ?_
    refine g_iconst (v := (1 : Int32)) C dL_isMessage_642 (by decide) ?_
    refine g_iadd C dL_isMessage_643 ?_
    obtain ⟨v14, hv14, h⟩ := bind_of h
    have m2 := m_L_tagAt hv14
    have m3 := mb_L_isMessage_647  h
    have a1 := hm0.2.1; have a2 := hm0.2.2.1; have b1 := m2.2.1; have b2 := m2.2.2.1; have d1 := m3.2.1; have d2 := m3.2.2.1
    refine g_cSh (n := 4) (exr := []) C hEv hN ⟨hp0.2.1 0, hp0.2.2 0⟩ [_, _, _, _] _ rfl rfl [] rfl rfl (fun sz => wc_L_tagAt l hl B _ ν _ Ad Q hI hQ w _ _ _ _ hv14 D E sz) rfl gh_tagAt gw_0 gw_1271 gw_1272 ⟨by decide +kernel, by decide +kernel, by decide +kernel⟩ ⟨rfl, rfl⟩ ⟨Nat.le_of_ble_eq_true rfl, Nat.le_of_ble_eq_true rfl⟩ (Nat.le_of_ble_eq_true rfl) dL_isMessage_644 ⟨by show (kc ν - kc ν0) + (kc v14.1.2 - kc ν) ≤ kc r0.1.1.2 - kc ν0; omega, by show (ks ν - ks ν0) + (ks v14.1.2 - ks ν) ≤ ks r0.1.1.2 - ks ν0; omega⟩ (fun r u hp hx => ?_)
    obtain ⟨er, A1, rfl, hkp⟩ := hp
    rw [er]
    try dsimp only [List.append_nil]
    refine g_widen (k := kc v14.1.2 - kc ν0) (n := ks v14.1.2 - ks ν0) (by omega) (by omega) ?_
    refine g_lv [0, 1, 2] rfl ?_
    exact lb_L_isMessage_647 hl C hEv hN hr hz hI0 hQ0 (mn_trans hm0 m2) (kp_trans hp0 hm0 hkp)  h
noncomputable def b_L_isMessage_615  (w : Nat) (μ : MP) (ν : NC) (a : AS) (x1 : Int32) (x2 : Int32) (x10 : Int32) (x11 : Int32) (s0 : Int32) : Option (((MP × NC) × AS) × Int32) := (if s0 = (10 : Int32) then ((f_L_valueAt w μ ν x1 x2 x11).bind (fun v13 => b_L_isMessage_628  w v13.1.1 v13.1.2 a x1 x2 x10 x11 v13.2)) else (some (((μ, ν), a), (0 : Int32))))
theorem mb_L_isMessage_615 {w : Nat} {μ : MP} {ν : NC} {a : AS} {x1 : Int32} {x2 : Int32} {x10 : Int32} {x11 : Int32} {s0 : Int32} {r0 : ((MP × NC) × AS) × Int32}   (h : b_L_isMessage_615  w μ ν a x1 x2 x10 x11 s0 = some r0) : mn ν r0.1.1.2 := by
  unfold b_L_isMessage_615 at h
  by_cases c617 : s0 = (10 : Int32)
  · replace h := (if_pos c617).symm.trans h
    obtain ⟨v13, hv13, h⟩ := bind_of h
    exact mn_trans (m_L_valueAt hv13) (mb_L_isMessage_628  h)
  · replace h := (if_neg c617).symm.trans h
    obtain rfl := Option.some.inj h
    exact mn_rfl _
set_option maxHeartbeats 4000000 in
set_option maxRecDepth 100000 in
theorem lb_L_isMessage_615 {p : Program} {l : Launch} (hl : l.stackTraces = false) {e : Env} {s : State} {m : MethodId} {args : Array Value} {below : List Frame} {meth : Method} {c : Code} {D : va_G} {E : Nat → ClassId} {sz : Nat} {μ0 : MP} {ν0 : NC} {a0 : AS} {Ad0 : Nat → Nat → Nat} {Q : Nat → Nat} {B : Nat × (Nat → Nat)} {w : Nat} {r0 : ((MP × NC) × AS) × Int32} (C : cx p s m args meth c D E (Aof (zS μ0 ν0 a0 Ad0) [] s.heap.size) cL_isMessage 18 "TradeLineLaw") (hEv : eV (Ad0 30 0) (Ad0 31 0) B (Aof (zS μ0 ν0 a0 Ad0) [] s.heap.size) s s.heap) (hN : vN s) (hr : meth.sig.returnType = (some .boolean)) (hz : s.heap.size = sz) (hI0 : lwI ν0) (hQ0 : lwQ Ad0 Q) {μ : MP} {ν : NC} {a : AS} {Ad : Nat → Nat → Nat} (hm0 : mn ν0 ν) (hp0 : kp ν0 Ad0 Ad) {x1 : Int32} {x2 : Int32} {x10 : Int32} {x11 : Int32} {s0 : Int32}   (h : b_L_isMessage_615  w μ ν a x1 x2 x10 x11 s0 = some r0) : G p l e ({ frames := 10, cells := kc r0.1.1.2 - kc ν0, slots := ks r0.1.1.2 - ks ν0, locals := 192 } : Room) s m args below meth c D E (Aof (zS μ0 ν0 a0 Ad0) [] s.heap.size) 18 (MQ below (cQ D E sz (zS μ0 ν0 a0 Ad0) [] (pI (fun r u => r = r0.2 ∧ ∃ A1, u = (zS r0.1.1.1 r0.1.1.2 r0.1.2 A1, []) ∧ kp ν0 Ad0 A1))) args s (kc r0.1.1.2 - kc ν0) (ks r0.1.1.2 - ks ν0) (Aof (zS μ0 ν0 a0 Ad0) [] s.heap.size)) (zS μ ν a Ad) [] (kc ν - kc ν0) (ks ν - ks ν0) 615 [(0, .ref (Q 0)), (1, .int x1), (2, .int x2), (10, .int x10), (11, .int x11)] [.int s0] := by
  have m0 := mb_L_isMessage_615  h
  have e1 := m0.2.1; have e2 := m0.2.2.1; have e3 := hm0.2.1; have e4 := hm0.2.2.1
  have hI := lwI_mn hI0 hm0; have hQ := lwQ_kp hI0 hp0 hQ0
  unfold b_L_isMessage_615 at h
  refine g_bipush (v := (10 : Int32)) C dL_isMessage_615 (by decide) ?_
  refine g_icmp_ne (tgt := 670) C dL_isMessage_617 (by decide) (fun c617 => ?_) (fun c617 => ?_)
  · replace h := (if_neg c617).symm.trans h
    refine g_iconst (v := (0 : Int32)) C dL_isMessage_670 (by decide) ?_
    obtain rfl := Option.some.inj h
    exact g_iret C hr rfl hz ⟨(hm0.2.2.2 30 (by decide) (by decide)).1, (hm0.2.2.2 31 (by decide) (by decide)).1, hp0.2.1, hp0.2.2⟩ ⟨rfl, Ad, rfl, hp0⟩ (fun j x h => by simp at h) dL_isMessage_671
  · replace h := (if_pos c617).symm.trans h
    refine g_aload_n C dL_isMessage_620 rfl 0 rfl ?_
    refine g_iload_n C dL_isMessage_621 rfl 1 rfl ?_
    refine g_iload_n C dL_isMessage_622 rfl 2 rfl ?_
    refine g_iload C dL_isMessage_623 4 rfl ?_
    obtain ⟨v13, hv13, h⟩ := bind_of h
    have m2 := m_L_valueAt hv13
    have m3 := mb_L_isMessage_628  h
    have a1 := hm0.2.1; have a2 := hm0.2.2.1; have b1 := m2.2.1; have b2 := m2.2.2.1; have d1 := m3.2.1; have d2 := m3.2.2.1
    refine g_cSh (n := 4) (exr := []) C hEv hN ⟨hp0.2.1 0, hp0.2.2 0⟩ [_, _, _, _] _ rfl rfl [] rfl rfl (fun sz => wc_L_valueAt l hl B _ ν _ Ad Q hI hQ w _ _ _ _ hv13 D E sz) rfl gh_valueAt gw_0 gw_1284 gw_1285 ⟨by decide +kernel, by decide +kernel, by decide +kernel⟩ ⟨rfl, rfl⟩ ⟨Nat.le_of_ble_eq_true rfl, Nat.le_of_ble_eq_true rfl⟩ (Nat.le_of_ble_eq_true rfl) dL_isMessage_625 ⟨by show (kc ν - kc ν0) + (kc v13.1.2 - kc ν) ≤ kc r0.1.1.2 - kc ν0; omega, by show (ks ν - ks ν0) + (ks v13.1.2 - ks ν) ≤ ks r0.1.1.2 - ks ν0; omega⟩ (fun r u hp hx => ?_)
    obtain ⟨er, A1, rfl, hkp⟩ := hp
    rw [er]
    try dsimp only [List.append_nil]
    refine g_widen (k := kc v13.1.2 - kc ν0) (n := ks v13.1.2 - ks ν0) (by omega) (by omega) ?_
    refine g_lv [0, 1, 2, 3, 4] rfl ?_
    exact lb_L_isMessage_628 hl C hEv hN hr hz hI0 hQ0 (mn_trans hm0 m2) (kp_trans hp0 hm0 hkp)  h
noncomputable def b_L_isMessage_600  (w : Nat) (μ : MP) (ν : NC) (a : AS) (x1 : Int32) (x2 : Int32) (x10 : Int32) (x11 : Int32) (s0 : Int32) : Option (((MP × NC) × AS) × Int32) := (if s0 = (x11 + (1 : Int32)) then ((f_L_tagAt w μ ν x1 x2 x11).bind (fun v12 => b_L_isMessage_615  w v12.1.1 v12.1.2 a x1 x2 x10 x11 v12.2)) else (some (((μ, ν), a), (0 : Int32))))
theorem mb_L_isMessage_600 {w : Nat} {μ : MP} {ν : NC} {a : AS} {x1 : Int32} {x2 : Int32} {x10 : Int32} {x11 : Int32} {s0 : Int32} {r0 : ((MP × NC) × AS) × Int32}   (h : b_L_isMessage_600  w μ ν a x1 x2 x10 x11 s0 = some r0) : mn ν r0.1.1.2 := by
  unfold b_L_isMessage_600 at h
  by_cases c604 : s0 = (x11 + (1 : Int32))
  · replace h := (if_pos c604).symm.trans h
    obtain ⟨v12, hv12, h⟩ := bind_of h
    exact mn_trans (m_L_tagAt hv12) (mb_L_isMessage_615  h)
  · replace h := (if_neg c604).symm.trans h
    obtain rfl := Option.some.inj h
    exact mn_rfl _
set_option maxHeartbeats 4000000 in
set_option maxRecDepth 100000 in
theorem lb_L_isMessage_600 {p : Program} {l : Launch} (hl : l.stackTraces = false) {e : Env} {s : State} {m : MethodId} {args : Array Value} {below : List Frame} {meth : Method} {c : Code} {D : va_G} {E : Nat → ClassId} {sz : Nat} {μ0 : MP} {ν0 : NC} {a0 : AS} {Ad0 : Nat → Nat → Nat} {Q : Nat → Nat} {B : Nat × (Nat → Nat)} {w : Nat} {r0 : ((MP × NC) × AS) × Int32} (C : cx p s m args meth c D E (Aof (zS μ0 ν0 a0 Ad0) [] s.heap.size) cL_isMessage 18 "TradeLineLaw") (hEv : eV (Ad0 30 0) (Ad0 31 0) B (Aof (zS μ0 ν0 a0 Ad0) [] s.heap.size) s s.heap) (hN : vN s) (hr : meth.sig.returnType = (some .boolean)) (hz : s.heap.size = sz) (hI0 : lwI ν0) (hQ0 : lwQ Ad0 Q) {μ : MP} {ν : NC} {a : AS} {Ad : Nat → Nat → Nat} (hm0 : mn ν0 ν) (hp0 : kp ν0 Ad0 Ad) {x1 : Int32} {x2 : Int32} {x10 : Int32} {x11 : Int32} {s0 : Int32}   (h : b_L_isMessage_600  w μ ν a x1 x2 x10 x11 s0 = some r0) : G p l e ({ frames := 10, cells := kc r0.1.1.2 - kc ν0, slots := ks r0.1.1.2 - ks ν0, locals := 192 } : Room) s m args below meth c D E (Aof (zS μ0 ν0 a0 Ad0) [] s.heap.size) 18 (MQ below (cQ D E sz (zS μ0 ν0 a0 Ad0) [] (pI (fun r u => r = r0.2 ∧ ∃ A1, u = (zS r0.1.1.1 r0.1.1.2 r0.1.2 A1, []) ∧ kp ν0 Ad0 A1))) args s (kc r0.1.1.2 - kc ν0) (ks r0.1.1.2 - ks ν0) (Aof (zS μ0 ν0 a0 Ad0) [] s.heap.size)) (zS μ ν a Ad) [] (kc ν - kc ν0) (ks ν - ks ν0) 600 [(0, .ref (Q 0)), (1, .int x1), (2, .int x2), (10, .int x10), (11, .int x11)] [.int s0] := by
  have m0 := mb_L_isMessage_600  h
  have e1 := m0.2.1; have e2 := m0.2.2.1; have e3 := hm0.2.1; have e4 := hm0.2.2.1
  have hI := lwI_mn hI0 hm0; have hQ := lwQ_kp hI0 hp0 hQ0
  unfold b_L_isMessage_600 at h
  refine g_iload C dL_isMessage_600 4 rfl ?_
  refine g_iconst (v := (1 : Int32)) C dL_isMessage_602 (by decide) ?_
  refine g_iadd C dL_isMessage_603 ?_
  refine g_icmp_ne (tgt := 670) C dL_isMessage_604 (by decide) (fun c604 => ?_) (fun c604 => ?_)
  · replace h := (if_neg c604).symm.trans h
    refine g_iconst (v := (0 : Int32)) C dL_isMessage_670 (by decide) ?_
    obtain rfl := Option.some.inj h
    exact g_iret C hr rfl hz ⟨(hm0.2.2.2 30 (by decide) (by decide)).1, (hm0.2.2.2 31 (by decide) (by decide)).1, hp0.2.1, hp0.2.2⟩ ⟨rfl, Ad, rfl, hp0⟩ (fun j x h => by simp at h) dL_isMessage_671
  · replace h := (if_pos c604).symm.trans h
    refine g_aload_n C dL_isMessage_607 rfl 0 rfl ?_
    refine g_iload_n C dL_isMessage_608 rfl 1 rfl ?_
    refine g_iload_n C dL_isMessage_609 rfl 2 rfl ?_
    refine g_iload C dL_isMessage_610 4 rfl ?_
    obtain ⟨v12, hv12, h⟩ := bind_of h
    have m2 := m_L_tagAt hv12
    have m3 := mb_L_isMessage_615  h
    have a1 := hm0.2.1; have a2 := hm0.2.2.1; have b1 := m2.2.1; have b2 := m2.2.2.1; have d1 := m3.2.1; have d2 := m3.2.2.1
    refine g_cSh (n := 4) (exr := []) C hEv hN ⟨hp0.2.1 0, hp0.2.2 0⟩ [_, _, _, _] _ rfl rfl [] rfl rfl (fun sz => wc_L_tagAt l hl B _ ν _ Ad Q hI hQ w _ _ _ _ hv12 D E sz) rfl gh_tagAt gw_0 gw_1271 gw_1272 ⟨by decide +kernel, by decide +kernel, by decide +kernel⟩ ⟨rfl, rfl⟩ ⟨Nat.le_of_ble_eq_true rfl, Nat.le_of_ble_eq_true rfl⟩ (Nat.le_of_ble_eq_true rfl) dL_isMessage_612 ⟨by show (kc ν - kc ν0) + (kc v12.1.2 - kc ν) ≤ kc r0.1.1.2 - kc ν0; omega, by show (ks ν - ks ν0) + (ks v12.1.2 - ks ν) ≤ ks r0.1.1.2 - ks ν0; omega⟩ (fun r u hp hx => ?_)
    obtain ⟨er, A1, rfl, hkp⟩ := hp
    rw [er]
    try dsimp only [List.append_nil]
    refine g_widen (k := kc v12.1.2 - kc ν0) (n := ks v12.1.2 - ks ν0) (by omega) (by omega) ?_
    refine g_lv [0, 1, 2, 3, 4] rfl ?_
    exact lb_L_isMessage_615 hl C hEv hN hr hz hI0 hQ0 (mn_trans hm0 m2) (kp_trans hp0 hm0 hkp)  h
noncomputable def b_L_isMessage_568 (k202 : MP → NC → AS → Int32 → Int32 → Int64 → Int32 → Int32 → Int32 → Int32 → Int32 → Int32 → Option (((MP × NC) × AS) × Int32)) (w : Nat) (μ : MP) (ν : NC) (a : AS) (x1 : Int32) (x2 : Int32) (x6 : Int64) (x8 : Int32) (x9 : Int32) (x10 : Int32) (x11 : Int32) (x12 : Int32) (x13 : Int32) (x14 : Int32) (x15 : Int32) (s0 : Int32) : Option (((MP × NC) × AS) × Int32) := (if s0 = x15 then (yl ((x10 + (x14 + x15))) (fun t19 => yl (x11 + (1 : Int32)) (fun t20 => yl (x13 + (1 : Int32)) (fun t21 => k202 μ ν a x1 x2 x6 x8 x9 t19 t20 x12 t21)))) else (some (((μ, ν), a), (0 : Int32))))
theorem mb_L_isMessage_568 {w : Nat} {μ : MP} {ν : NC} {a : AS} {x1 : Int32} {x2 : Int32} {x6 : Int64} {x8 : Int32} {x9 : Int32} {x10 : Int32} {x11 : Int32} {x12 : Int32} {x13 : Int32} {x14 : Int32} {x15 : Int32} {s0 : Int32} {r0 : ((MP × NC) × AS) × Int32} {k202 : MP → NC → AS → Int32 → Int32 → Int64 → Int32 → Int32 → Int32 → Int32 → Int32 → Int32 → Option (((MP × NC) × AS) × Int32)} (hmk202 : ∀ (μ : MP) (ν : NC) (a : AS) (z1 : Int32) (z2 : Int32) (z6 : Int64) (z8 : Int32) (z9 : Int32) (z10 : Int32) (z11 : Int32) (z12 : Int32) (z13 : Int32), k202 μ ν a z1 z2 z6 z8 z9 z10 z11 z12 z13 = some r0 → mn ν r0.1.1.2) (h : b_L_isMessage_568 k202 w μ ν a x1 x2 x6 x8 x9 x10 x11 x12 x13 x14 x15 s0 = some r0) : mn ν r0.1.1.2 := by
  unfold b_L_isMessage_568 at h
  by_cases c570 : s0 = x15
  · replace h := (if_pos c570).symm.trans h
    obtain ⟨t19, et19⟩ : ∃ y, (x10 + (x14 + x15)) = y := ⟨_, rfl⟩
    replace h := yl_of h et19
    obtain ⟨t20, et20⟩ : ∃ y, x11 + (1 : Int32) = y := ⟨_, rfl⟩
    replace h := yl_of h et20
    obtain ⟨t21, et21⟩ : ∃ y, x13 + (1 : Int32) = y := ⟨_, rfl⟩
    replace h := yl_of h et21
    exact hmk202 _ _ _ _ _ _ _ _ _ _ _ _ h
  · replace h := (if_neg c570).symm.trans h
    obtain rfl := Option.some.inj h
    exact mn_rfl _
set_option maxHeartbeats 4000000 in
set_option maxRecDepth 100000 in
theorem lb_L_isMessage_568 {p : Program} {l : Launch} (hl : l.stackTraces = false) {e : Env} {s : State} {m : MethodId} {args : Array Value} {below : List Frame} {meth : Method} {c : Code} {D : va_G} {E : Nat → ClassId} {sz : Nat} {μ0 : MP} {ν0 : NC} {a0 : AS} {Ad0 : Nat → Nat → Nat} {Q : Nat → Nat} {B : Nat × (Nat → Nat)} {w : Nat} {r0 : ((MP × NC) × AS) × Int32} (C : cx p s m args meth c D E (Aof (zS μ0 ν0 a0 Ad0) [] s.heap.size) cL_isMessage 18 "TradeLineLaw") (hEv : eV (Ad0 30 0) (Ad0 31 0) B (Aof (zS μ0 ν0 a0 Ad0) [] s.heap.size) s s.heap) (hN : vN s) (hr : meth.sig.returnType = (some .boolean)) (hz : s.heap.size = sz) (hI0 : lwI ν0) (hQ0 : lwQ Ad0 Q) {μ : MP} {ν : NC} {a : AS} {Ad : Nat → Nat → Nat} (hm0 : mn ν0 ν) (hp0 : kp ν0 Ad0 Ad) {x1 : Int32} {x2 : Int32} {x6 : Int64} {x8 : Int32} {x9 : Int32} {x10 : Int32} {x11 : Int32} {x12 : Int32} {x13 : Int32} {x14 : Int32} {x15 : Int32} {s0 : Int32} {k202 : MP → NC → AS → Int32 → Int32 → Int64 → Int32 → Int32 → Int32 → Int32 → Int32 → Int32 → Option (((MP × NC) × AS) × Int32)} (hmk202 : ∀ (μ : MP) (ν : NC) (a : AS) (z1 : Int32) (z2 : Int32) (z6 : Int64) (z8 : Int32) (z9 : Int32) (z10 : Int32) (z11 : Int32) (z12 : Int32) (z13 : Int32), k202 μ ν a z1 z2 z6 z8 z9 z10 z11 z12 z13 = some r0 → mn ν r0.1.1.2) (hk202 : ∀ (μ : MP) (ν : NC) (a : AS) (Ad : Nat → Nat → Nat) (z1 : Int32) (z2 : Int32) (z6 : Int64) (z8 : Int32) (z9 : Int32) (z10 : Int32) (z11 : Int32) (z12 : Int32) (z13 : Int32), mn ν0 ν → kp ν0 Ad0 Ad → k202 μ ν a z1 z2 z6 z8 z9 z10 z11 z12 z13 = some r0 → G p l e ({ frames := 10, cells := kc r0.1.1.2 - kc ν0, slots := ks r0.1.1.2 - ks ν0, locals := 192 } : Room) s m args below meth c D E (Aof (zS μ0 ν0 a0 Ad0) [] s.heap.size) 18 (MQ below (cQ D E sz (zS μ0 ν0 a0 Ad0) [] (pI (fun r u => r = r0.2 ∧ ∃ A1, u = (zS r0.1.1.1 r0.1.1.2 r0.1.2 A1, []) ∧ kp ν0 Ad0 A1))) args s (kc r0.1.1.2 - kc ν0) (ks r0.1.1.2 - ks ν0) (Aof (zS μ0 ν0 a0 Ad0) [] s.heap.size)) (zS μ ν a Ad) [] (kc ν - kc ν0) (ks ν - ks ν0) 202 [(0, .ref (Q 0)), (1, .int z1), (2, .int z2), (5, .ref (Q 13)), (6, .long z6), (8, .int z8), (9, .int z9), (10, .int z10), (11, .int z11), (12, .int z12), (13, .int z13)] []) (h : b_L_isMessage_568 k202 w μ ν a x1 x2 x6 x8 x9 x10 x11 x12 x13 x14 x15 s0 = some r0) : G p l e ({ frames := 10, cells := kc r0.1.1.2 - kc ν0, slots := ks r0.1.1.2 - ks ν0, locals := 192 } : Room) s m args below meth c D E (Aof (zS μ0 ν0 a0 Ad0) [] s.heap.size) 18 (MQ below (cQ D E sz (zS μ0 ν0 a0 Ad0) [] (pI (fun r u => r = r0.2 ∧ ∃ A1, u = (zS r0.1.1.1 r0.1.1.2 r0.1.2 A1, []) ∧ kp ν0 Ad0 A1))) args s (kc r0.1.1.2 - kc ν0) (ks r0.1.1.2 - ks ν0) (Aof (zS μ0 ν0 a0 Ad0) [] s.heap.size)) (zS μ ν a Ad) [] (kc ν - kc ν0) (ks ν - ks ν0) 568 [(0, .ref (Q 0)), (1, .int x1), (2, .int x2), (5, .ref (Q 13)), (6, .long x6), (8, .int x8), (9, .int x9), (10, .int x10), (11, .int x11), (12, .int x12), (13, .int x13), (14, .int x14), (15, .int x15)] [.int s0] := by
  have m0 := mb_L_isMessage_568 hmk202 h
  have e1 := m0.2.1; have e2 := m0.2.2.1; have e3 := hm0.2.1; have e4 := hm0.2.2.1
  have hI := lwI_mn hI0 hm0; have hQ := lwQ_kp hI0 hp0 hQ0
  unfold b_L_isMessage_568 at h
  refine g_iload C dL_isMessage_568 12 rfl ?_
  refine g_icmp_eq (tgt := 575) C dL_isMessage_570 (by decide) (fun c570 => ?_) (fun c570 => ?_)
  · replace h := (if_pos c570).symm.trans h
    refine g_iload C dL_isMessage_575 7 rfl ?_
    refine g_iload C dL_isMessage_577 11 rfl ?_
    refine g_iload C dL_isMessage_579 12 rfl ?_
    refine g_iadd C dL_isMessage_581 ?_
    refine g_iadd C dL_isMessage_582 ?_
    refine q_topi (fun t19 et19 => ?_)
    replace h := yl_of h et19
    refine g_istore (lv' := [(10, .int t19), (0, .ref (Q 0)), (1, .int x1), (2, .int x2), (5, .ref (Q 13)), (6, .long x6), (8, .int x8), (9, .int x9), (11, .int x11), (12, .int x12), (13, .int x13), (14, .int x14), (15, .int x15)]) C dL_isMessage_583 (by decide) rfl ?_
    obtain ⟨t20, et20⟩ : ∃ y : Int32, x11 + (1 : Int32) = y := ⟨_, rfl⟩
    replace h := yl_of h et20
    refine g_iinc (v := t20) (lv' := [(11, .int t20), (10, .int t19), (0, .ref (Q 0)), (1, .int x1), (2, .int x2), (5, .ref (Q 13)), (6, .long x6), (8, .int x8), (9, .int x9), (12, .int x12), (13, .int x13), (14, .int x14), (15, .int x15)]) C dL_isMessage_585 8 rfl (by rw [← et20]; rfl) (by decide) rfl ?_
    obtain ⟨t21, et21⟩ : ∃ y : Int32, x13 + (1 : Int32) = y := ⟨_, rfl⟩
    replace h := yl_of h et21
    refine g_iinc (v := t21) (lv' := [(13, .int t21), (11, .int t20), (10, .int t19), (0, .ref (Q 0)), (1, .int x1), (2, .int x2), (5, .ref (Q 13)), (6, .long x6), (8, .int x8), (9, .int x9), (12, .int x12), (14, .int x14), (15, .int x15)]) C dL_isMessage_588 10 rfl (by rw [← et21]; rfl) (by decide) rfl ?_
    refine g_goto (tgt := 202) C dL_isMessage_591 (by decide) ?_
    refine g_lv [3, 4, 5, 6, 7, 8, 9, 2, 1, 10, 0] rfl ?_
    exact hk202 _ _ _ _ _ _ _ _ _ _ _ _ _ hm0 hp0 h
  · replace h := (if_neg c570).symm.trans h
    refine g_iconst (v := (0 : Int32)) C dL_isMessage_573 (by decide) ?_
    obtain rfl := Option.some.inj h
    exact g_iret C hr rfl hz ⟨(hm0.2.2.2 30 (by decide) (by decide)).1, (hm0.2.2.2 31 (by decide) (by decide)).1, hp0.2.1, hp0.2.2⟩ ⟨rfl, Ad, rfl, hp0⟩ (fun j x h => by simp at h) dL_isMessage_574
noncomputable def b_L_isMessage_555 (k202 : MP → NC → AS → Int32 → Int32 → Int64 → Int32 → Int32 → Int32 → Int32 → Int32 → Int32 → Option (((MP × NC) × AS) × Int32)) (w : Nat) (μ : MP) (ν : NC) (a : AS) (x1 : Int32) (x2 : Int32) (x6 : Int64) (x8 : Int32) (x9 : Int32) (x10 : Int32) (x11 : Int32) (x12 : Int32) (x13 : Int32) (x14 : Int32) (x15 : Int32) (s0 : Int32) : Option (((MP × NC) × AS) × Int32) := (if s0 = x14 then ((f_L_valueAt w μ ν x1 x2 x11).bind (fun v18 => b_L_isMessage_568 k202 w v18.1.1 v18.1.2 a x1 x2 x6 x8 x9 x10 x11 x12 x13 x14 x15 v18.2)) else (some (((μ, ν), a), (0 : Int32))))
theorem mb_L_isMessage_555 {w : Nat} {μ : MP} {ν : NC} {a : AS} {x1 : Int32} {x2 : Int32} {x6 : Int64} {x8 : Int32} {x9 : Int32} {x10 : Int32} {x11 : Int32} {x12 : Int32} {x13 : Int32} {x14 : Int32} {x15 : Int32} {s0 : Int32} {r0 : ((MP × NC) × AS) × Int32} {k202 : MP → NC → AS → Int32 → Int32 → Int64 → Int32 → Int32 → Int32 → Int32 → Int32 → Int32 → Option (((MP × NC) × AS) × Int32)} (hmk202 : ∀ (μ : MP) (ν : NC) (a : AS) (z1 : Int32) (z2 : Int32) (z6 : Int64) (z8 : Int32) (z9 : Int32) (z10 : Int32) (z11 : Int32) (z12 : Int32) (z13 : Int32), k202 μ ν a z1 z2 z6 z8 z9 z10 z11 z12 z13 = some r0 → mn ν r0.1.1.2) (h : b_L_isMessage_555 k202 w μ ν a x1 x2 x6 x8 x9 x10 x11 x12 x13 x14 x15 s0 = some r0) : mn ν r0.1.1.2 := by
  unfold b_L_isMessage_555 at h
  by_cases c557 : s0 = x14
  · replace h := (if_pos c557).symm.trans h
    obtain ⟨v18, hv18, h⟩ := bind_of h
    exact mn_trans (m_L_valueAt hv18) (mb_L_isMessage_568 hmk202 h)
  · replace h := (if_neg c557).symm.trans h
    obtain rfl := Option.some.inj h
    exact mn_rfl _
set_option maxHeartbeats 4000000 in
set_option maxRecDepth 100000 in
theorem lb_L_isMessage_555 {p : Program} {l : Launch} (hl : l.stackTraces = false) {e : Env} {s : State} {m : MethodId} {args : Array Value} {below : List Frame} {meth : Method} {c : Code} {D : va_G} {E : Nat → ClassId} {sz : Nat} {μ0 : MP} {ν0 : NC} {a0 : AS} {Ad0 : Nat → Nat → Nat} {Q : Nat → Nat} {B : Nat × (Nat → Nat)} {w : Nat} {r0 : ((MP × NC) × AS) × Int32} (C : cx p s m args meth c D E (Aof (zS μ0 ν0 a0 Ad0) [] s.heap.size) cL_isMessage 18 "TradeLineLaw") (hEv : eV (Ad0 30 0) (Ad0 31 0) B (Aof (zS μ0 ν0 a0 Ad0) [] s.heap.size) s s.heap) (hN : vN s) (hr : meth.sig.returnType = (some .boolean)) (hz : s.heap.size = sz) (hI0 : lwI ν0) (hQ0 : lwQ Ad0 Q) {μ : MP} {ν : NC} {a : AS} {Ad : Nat → Nat → Nat} (hm0 : mn ν0 ν) (hp0 : kp ν0 Ad0 Ad) {x1 : Int32} {x2 : Int32} {x6 : Int64} {x8 : Int32} {x9 : Int32} {x10 : Int32} {x11 : Int32} {x12 : Int32} {x13 : Int32} {x14 : Int32} {x15 : Int32} {s0 : Int32} {k202 : MP → NC → AS → Int32 → Int32 → Int64 → Int32 → Int32 → Int32 → Int32 → Int32 → Int32 → Option (((MP × NC) × AS) × Int32)} (hmk202 : ∀ (μ : MP) (ν : NC) (a : AS) (z1 : Int32) (z2 : Int32) (z6 : Int64) (z8 : Int32) (z9 : Int32) (z10 : Int32) (z11 : Int32) (z12 : Int32) (z13 : Int32), k202 μ ν a z1 z2 z6 z8 z9 z10 z11 z12 z13 = some r0 → mn ν r0.1.1.2) (hk202 : ∀ (μ : MP) (ν : NC) (a : AS) (Ad : Nat → Nat → Nat) (z1 : Int32) (z2 : Int32) (z6 : Int64) (z8 : Int32) (z9 : Int32) (z10 : Int32) (z11 : Int32) (z12 : Int32) (z13 : Int32), mn ν0 ν → kp ν0 Ad0 Ad → k202 μ ν a z1 z2 z6 z8 z9 z10 z11 z12 z13 = some r0 → G p l e ({ frames := 10, cells := kc r0.1.1.2 - kc ν0, slots := ks r0.1.1.2 - ks ν0, locals := 192 } : Room) s m args below meth c D E (Aof (zS μ0 ν0 a0 Ad0) [] s.heap.size) 18 (MQ below (cQ D E sz (zS μ0 ν0 a0 Ad0) [] (pI (fun r u => r = r0.2 ∧ ∃ A1, u = (zS r0.1.1.1 r0.1.1.2 r0.1.2 A1, []) ∧ kp ν0 Ad0 A1))) args s (kc r0.1.1.2 - kc ν0) (ks r0.1.1.2 - ks ν0) (Aof (zS μ0 ν0 a0 Ad0) [] s.heap.size)) (zS μ ν a Ad) [] (kc ν - kc ν0) (ks ν - ks ν0) 202 [(0, .ref (Q 0)), (1, .int z1), (2, .int z2), (5, .ref (Q 13)), (6, .long z6), (8, .int z8), (9, .int z9), (10, .int z10), (11, .int z11), (12, .int z12), (13, .int z13)] []) (h : b_L_isMessage_555 k202 w μ ν a x1 x2 x6 x8 x9 x10 x11 x12 x13 x14 x15 s0 = some r0) : G p l e ({ frames := 10, cells := kc r0.1.1.2 - kc ν0, slots := ks r0.1.1.2 - ks ν0, locals := 192 } : Room) s m args below meth c D E (Aof (zS μ0 ν0 a0 Ad0) [] s.heap.size) 18 (MQ below (cQ D E sz (zS μ0 ν0 a0 Ad0) [] (pI (fun r u => r = r0.2 ∧ ∃ A1, u = (zS r0.1.1.1 r0.1.1.2 r0.1.2 A1, []) ∧ kp ν0 Ad0 A1))) args s (kc r0.1.1.2 - kc ν0) (ks r0.1.1.2 - ks ν0) (Aof (zS μ0 ν0 a0 Ad0) [] s.heap.size)) (zS μ ν a Ad) [] (kc ν - kc ν0) (ks ν - ks ν0) 555 [(0, .ref (Q 0)), (1, .int x1), (2, .int x2), (5, .ref (Q 13)), (6, .long x6), (8, .int x8), (9, .int x9), (10, .int x10), (11, .int x11), (12, .int x12), (13, .int x13), (14, .int x14), (15, .int x15)] [.int s0] := by
  have m0 := mb_L_isMessage_555 hmk202 h
  have e1 := m0.2.1; have e2 := m0.2.2.1; have e3 := hm0.2.1; have e4 := hm0.2.2.1
  have hI := lwI_mn hI0 hm0; have hQ := lwQ_kp hI0 hp0 hQ0
  unfold b_L_isMessage_555 at h
  refine g_iload C dL_isMessage_555 11 rfl ?_
  refine g_icmp_ne (tgt := 573) C dL_isMessage_557 (by decide) (fun c557 => ?_) (fun c557 => ?_)
  · replace h := (if_neg c557).symm.trans h
    refine g_iconst (v := (0 : Int32)) C dL_isMessage_573 (by decide) ?_
    obtain rfl := Option.some.inj h
    exact g_iret C hr rfl hz ⟨(hm0.2.2.2 30 (by decide) (by decide)).1, (hm0.2.2.2 31 (by decide) (by decide)).1, hp0.2.1, hp0.2.2⟩ ⟨rfl, Ad, rfl, hp0⟩ (fun j x h => by simp at h) dL_isMessage_574
  · replace h := (if_pos c557).symm.trans h
    refine g_aload_n C dL_isMessage_560 rfl 0 rfl ?_
    refine g_iload_n C dL_isMessage_561 rfl 1 rfl ?_
    refine g_iload_n C dL_isMessage_562 rfl 2 rfl ?_
    refine g_iload C dL_isMessage_563 8 rfl ?_
    obtain ⟨v18, hv18, h⟩ := bind_of h
    have m2 := m_L_valueAt hv18
    have m3 := mb_L_isMessage_568 hmk202 h
    have a1 := hm0.2.1; have a2 := hm0.2.2.1; have b1 := m2.2.1; have b2 := m2.2.2.1; have d1 := m3.2.1; have d2 := m3.2.2.1
    refine g_cSh (n := 4) (exr := []) C hEv hN ⟨hp0.2.1 0, hp0.2.2 0⟩ [_, _, _, _] _ rfl rfl [] rfl rfl (fun sz => wc_L_valueAt l hl B _ ν _ Ad Q hI hQ w _ _ _ _ hv18 D E sz) rfl gh_valueAt gw_0 gw_1284 gw_1285 ⟨by decide +kernel, by decide +kernel, by decide +kernel⟩ ⟨rfl, rfl⟩ ⟨Nat.le_of_ble_eq_true rfl, Nat.le_of_ble_eq_true rfl⟩ (Nat.le_of_ble_eq_true rfl) dL_isMessage_565 ⟨by show (kc ν - kc ν0) + (kc v18.1.2 - kc ν) ≤ kc r0.1.1.2 - kc ν0; omega, by show (ks ν - ks ν0) + (ks v18.1.2 - ks ν) ≤ ks r0.1.1.2 - ks ν0; omega⟩ (fun r u hp hx => ?_)
    obtain ⟨er, A1, rfl, hkp⟩ := hp
    rw [er]
    try dsimp only [List.append_nil]
    refine g_widen (k := kc v18.1.2 - kc ν0) (n := ks v18.1.2 - ks ν0) (by omega) (by omega) ?_
    refine g_lv [0, 1, 2, 3, 4, 5, 6, 7, 8, 9, 10, 11, 12] rfl ?_
    exact lb_L_isMessage_568 hl C hEv hN hr hz hI0 hQ0 (mn_trans hm0 m2) (kp_trans hp0 hm0 hkp) hmk202 hk202 h
noncomputable def b_L_isMessage_547 (k202 : MP → NC → AS → Int32 → Int32 → Int64 → Int32 → Int32 → Int32 → Int32 → Int32 → Int32 → Option (((MP × NC) × AS) × Int32)) (w : Nat) (μ : MP) (ν : NC) (a : AS) (x1 : Int32) (x2 : Int32) (x6 : Int64) (x8 : Int32) (x9 : Int32) (x10 : Int32) (x11 : Int32) (x12 : Int32) (x13 : Int32) (x14 : Int32) (x15 : Int32)  : Option (((MP × NC) × AS) × Int32) := (f_L_tagAt w μ ν x1 x2 x11).bind (fun v17 => b_L_isMessage_555 k202 w v17.1.1 v17.1.2 a x1 x2 x6 x8 x9 x10 x11 x12 x13 x14 x15 v17.2)
theorem mb_L_isMessage_547 {w : Nat} {μ : MP} {ν : NC} {a : AS} {x1 : Int32} {x2 : Int32} {x6 : Int64} {x8 : Int32} {x9 : Int32} {x10 : Int32} {x11 : Int32} {x12 : Int32} {x13 : Int32} {x14 : Int32} {x15 : Int32}  {r0 : ((MP × NC) × AS) × Int32} {k202 : MP → NC → AS → Int32 → Int32 → Int64 → Int32 → Int32 → Int32 → Int32 → Int32 → Int32 → Option (((MP × NC) × AS) × Int32)} (hmk202 : ∀ (μ : MP) (ν : NC) (a : AS) (z1 : Int32) (z2 : Int32) (z6 : Int64) (z8 : Int32) (z9 : Int32) (z10 : Int32) (z11 : Int32) (z12 : Int32) (z13 : Int32), k202 μ ν a z1 z2 z6 z8 z9 z10 z11 z12 z13 = some r0 → mn ν r0.1.1.2) (h : b_L_isMessage_547 k202 w μ ν a x1 x2 x6 x8 x9 x10 x11 x12 x13 x14 x15  = some r0) : mn ν r0.1.1.2 := by
  unfold b_L_isMessage_547 at h
  obtain ⟨v17, hv17, h⟩ := bind_of h
  exact mn_trans (m_L_tagAt hv17) (mb_L_isMessage_555 hmk202 h)
set_option maxHeartbeats 4000000 in
set_option maxRecDepth 100000 in
theorem lb_L_isMessage_547 {p : Program} {l : Launch} (hl : l.stackTraces = false) {e : Env} {s : State} {m : MethodId} {args : Array Value} {below : List Frame} {meth : Method} {c : Code} {D : va_G} {E : Nat → ClassId} {sz : Nat} {μ0 : MP} {ν0 : NC} {a0 : AS} {Ad0 : Nat → Nat → Nat} {Q : Nat → Nat} {B : Nat × (Nat → Nat)} {w : Nat} {r0 : ((MP × NC) × AS) × Int32} (C : cx p s m args meth c D E (Aof (zS μ0 ν0 a0 Ad0) [] s.heap.size) cL_isMessage 18 "TradeLineLaw") (hEv : eV (Ad0 30 0) (Ad0 31 0) B (Aof (zS μ0 ν0 a0 Ad0) [] s.heap.size) s s.heap) (hN : vN s) (hr : meth.sig.returnType = (some .boolean)) (hz : s.heap.size = sz) (hI0 : lwI ν0) (hQ0 : lwQ Ad0 Q) {μ : MP} {ν : NC} {a : AS} {Ad : Nat → Nat → Nat} (hm0 : mn ν0 ν) (hp0 : kp ν0 Ad0 Ad) {x1 : Int32} {x2 : Int32} {x6 : Int64} {x8 : Int32} {x9 : Int32} {x10 : Int32} {x11 : Int32} {x12 : Int32} {x13 : Int32} {x14 : Int32} {x15 : Int32}  {k202 : MP → NC → AS → Int32 → Int32 → Int64 → Int32 → Int32 → Int32 → Int32 → Int32 → Int32 → Option (((MP × NC) × AS) × Int32)} (hmk202 : ∀ (μ : MP) (ν : NC) (a : AS) (z1 : Int32) (z2 : Int32) (z6 : Int64) (z8 : Int32) (z9 : Int32) (z10 : Int32) (z11 : Int32) (z12 : Int32) (z13 : Int32), k202 μ ν a z1 z2 z6 z8 z9 z10 z11 z12 z13 = some r0 → mn ν r0.1.1.2) (hk202 : ∀ (μ : MP) (ν : NC) (a : AS) (Ad : Nat → Nat → Nat) (z1 : Int32) (z2 : Int32) (z6 : Int64) (z8 : Int32) (z9 : Int32) (z10 : Int32) (z11 : Int32) (z12 : Int32) (z13 : Int32), mn ν0 ν → kp ν0 Ad0 Ad → k202 μ ν a z1 z2 z6 z8 z9 z10 z11 z12 z13 = some r0 → G p l e ({ frames := 10, cells := kc r0.1.1.2 - kc ν0, slots := ks r0.1.1.2 - ks ν0, locals := 192 } : Room) s m args below meth c D E (Aof (zS μ0 ν0 a0 Ad0) [] s.heap.size) 18 (MQ below (cQ D E sz (zS μ0 ν0 a0 Ad0) [] (pI (fun r u => r = r0.2 ∧ ∃ A1, u = (zS r0.1.1.1 r0.1.1.2 r0.1.2 A1, []) ∧ kp ν0 Ad0 A1))) args s (kc r0.1.1.2 - kc ν0) (ks r0.1.1.2 - ks ν0) (Aof (zS μ0 ν0 a0 Ad0) [] s.heap.size)) (zS μ ν a Ad) [] (kc ν - kc ν0) (ks ν - ks ν0) 202 [(0, .ref (Q 0)), (1, .int z1), (2, .int z2), (5, .ref (Q 13)), (6, .long z6), (8, .int z8), (9, .int z9), (10, .int z10), (11, .int z11), (12, .int z12), (13, .int z13)] []) (h : b_L_isMessage_547 k202 w μ ν a x1 x2 x6 x8 x9 x10 x11 x12 x13 x14 x15  = some r0) : G p l e ({ frames := 10, cells := kc r0.1.1.2 - kc ν0, slots := ks r0.1.1.2 - ks ν0, locals := 192 } : Room) s m args below meth c D E (Aof (zS μ0 ν0 a0 Ad0) [] s.heap.size) 18 (MQ below (cQ D E sz (zS μ0 ν0 a0 Ad0) [] (pI (fun r u => r = r0.2 ∧ ∃ A1, u = (zS r0.1.1.1 r0.1.1.2 r0.1.2 A1, []) ∧ kp ν0 Ad0 A1))) args s (kc r0.1.1.2 - kc ν0) (ks r0.1.1.2 - ks ν0) (Aof (zS μ0 ν0 a0 Ad0) [] s.heap.size)) (zS μ ν a Ad) [] (kc ν - kc ν0) (ks ν - ks ν0) 547 [(0, .ref (Q 0)), (1, .int x1), (2, .int x2), (5, .ref (Q 13)), (6, .long x6), (8, .int x8), (9, .int x9), (10, .int x10), (11, .int x11), (12, .int x12), (13, .int x13), (14, .int x14), (15, .int x15)] [] := by
  have m0 := mb_L_isMessage_547 hmk202 h
  have e1 := m0.2.1; have e2 := m0.2.2.1; have e3 := hm0.2.1; have e4 := hm0.2.2.1
  have hI := lwI_mn hI0 hm0; have hQ := lwQ_kp hI0 hp0 hQ0
  unfold b_L_isMessage_547 at h
  refine g_aload_n C dL_isMessage_547 rfl 0 rfl ?_
  refine g_iload_n C dL_isMessage_548 rfl 1 rfl ?_
  refine g_iload_n C dL_isMessage_549 rfl 2 rfl ?_
  refine g_iload C dL_isMessage_550 8 rfl ?_
  obtain ⟨v17, hv17, h⟩ := bind_of h
  have m2 := m_L_tagAt hv17
  have m3 := mb_L_isMessage_555 hmk202 h
  have a1 := hm0.2.1; have a2 := hm0.2.2.1; have b1 := m2.2.1; have b2 := m2.2.2.1; have d1 := m3.2.1; have d2 := m3.2.2.1
  refine g_cSh (n := 4) (exr := []) C hEv hN ⟨hp0.2.1 0, hp0.2.2 0⟩ [_, _, _, _] _ rfl rfl [] rfl rfl (fun sz => wc_L_tagAt l hl B _ ν _ Ad Q hI hQ w _ _ _ _ hv17 D E sz) rfl gh_tagAt gw_0 gw_1271 gw_1272 ⟨by decide +kernel, by decide +kernel, by decide +kernel⟩ ⟨rfl, rfl⟩ ⟨Nat.le_of_ble_eq_true rfl, Nat.le_of_ble_eq_true rfl⟩ (Nat.le_of_ble_eq_true rfl) dL_isMessage_552 ⟨by show (kc ν - kc ν0) + (kc v17.1.2 - kc ν) ≤ kc r0.1.1.2 - kc ν0; omega, by show (ks ν - ks ν0) + (ks v17.1.2 - ks ν) ≤ ks r0.1.1.2 - ks ν0; omega⟩ (fun r u hp hx => ?_)
  obtain ⟨er, A1, rfl, hkp⟩ := hp
  rw [er]
  try dsimp only [List.append_nil]
  refine g_widen (k := kc v17.1.2 - kc ν0) (n := ks v17.1.2 - ks ν0) (by omega) (by omega) ?_
  refine g_lv [0, 1, 2, 3, 4, 5, 6, 7, 8, 9, 10, 11, 12] rfl ?_
  exact lb_L_isMessage_555 hl C hEv hN hr hz hI0 hQ0 (mn_trans hm0 m2) (kp_trans hp0 hm0 hkp) hmk202 hk202 h
noncomputable def b_L_isMessage_545 (k202 : MP → NC → AS → Int32 → Int32 → Int64 → Int32 → Int32 → Int32 → Int32 → Int32 → Int32 → Option (((MP × NC) × AS) × Int32)) (w : Nat) (μ : MP) (ν : NC) (a : AS) (x1 : Int32) (x2 : Int32) (x6 : Int64) (x8 : Int32) (x9 : Int32) (x10 : Int32) (x11 : Int32) (x12 : Int32) (x13 : Int32) (x14 : Int32) (s0 : Int32) : Option (((MP × NC) × AS) × Int32) := b_L_isMessage_547 k202 w μ ν a x1 x2 x6 x8 x9 x10 x11 x12 x13 x14 s0
theorem mb_L_isMessage_545 {w : Nat} {μ : MP} {ν : NC} {a : AS} {x1 : Int32} {x2 : Int32} {x6 : Int64} {x8 : Int32} {x9 : Int32} {x10 : Int32} {x11 : Int32} {x12 : Int32} {x13 : Int32} {x14 : Int32} {s0 : Int32} {r0 : ((MP × NC) × AS) × Int32} {k202 : MP → NC → AS → Int32 → Int32 → Int64 → Int32 → Int32 → Int32 → Int32 → Int32 → Int32 → Option (((MP × NC) × AS) × Int32)} (hmk202 : ∀ (μ : MP) (ν : NC) (a : AS) (z1 : Int32) (z2 : Int32) (z6 : Int64) (z8 : Int32) (z9 : Int32) (z10 : Int32) (z11 : Int32) (z12 : Int32) (z13 : Int32), k202 μ ν a z1 z2 z6 z8 z9 z10 z11 z12 z13 = some r0 → mn ν r0.1.1.2) (h : b_L_isMessage_545 k202 w μ ν a x1 x2 x6 x8 x9 x10 x11 x12 x13 x14 s0 = some r0) : mn ν r0.1.1.2 := by
  unfold b_L_isMessage_545 at h
  exact mb_L_isMessage_547 hmk202 h
set_option maxHeartbeats 4000000 in
set_option maxRecDepth 100000 in
theorem lb_L_isMessage_545 {p : Program} {l : Launch} (hl : l.stackTraces = false) {e : Env} {s : State} {m : MethodId} {args : Array Value} {below : List Frame} {meth : Method} {c : Code} {D : va_G} {E : Nat → ClassId} {sz : Nat} {μ0 : MP} {ν0 : NC} {a0 : AS} {Ad0 : Nat → Nat → Nat} {Q : Nat → Nat} {B : Nat × (Nat → Nat)} {w : Nat} {r0 : ((MP × NC) × AS) × Int32} (C : cx p s m args meth c D E (Aof (zS μ0 ν0 a0 Ad0) [] s.heap.size) cL_isMessage 18 "TradeLineLaw") (hEv : eV (Ad0 30 0) (Ad0 31 0) B (Aof (zS μ0 ν0 a0 Ad0) [] s.heap.size) s s.heap) (hN : vN s) (hr : meth.sig.returnType = (some .boolean)) (hz : s.heap.size = sz) (hI0 : lwI ν0) (hQ0 : lwQ Ad0 Q) {μ : MP} {ν : NC} {a : AS} {Ad : Nat → Nat → Nat} (hm0 : mn ν0 ν) (hp0 : kp ν0 Ad0 Ad) {x1 : Int32} {x2 : Int32} {x6 : Int64} {x8 : Int32} {x9 : Int32} {x10 : Int32} {x11 : Int32} {x12 : Int32} {x13 : Int32} {x14 : Int32} {s0 : Int32} {k202 : MP → NC → AS → Int32 → Int32 → Int64 → Int32 → Int32 → Int32 → Int32 → Int32 → Int32 → Option (((MP × NC) × AS) × Int32)} (hmk202 : ∀ (μ : MP) (ν : NC) (a : AS) (z1 : Int32) (z2 : Int32) (z6 : Int64) (z8 : Int32) (z9 : Int32) (z10 : Int32) (z11 : Int32) (z12 : Int32) (z13 : Int32), k202 μ ν a z1 z2 z6 z8 z9 z10 z11 z12 z13 = some r0 → mn ν r0.1.1.2) (hk202 : ∀ (μ : MP) (ν : NC) (a : AS) (Ad : Nat → Nat → Nat) (z1 : Int32) (z2 : Int32) (z6 : Int64) (z8 : Int32) (z9 : Int32) (z10 : Int32) (z11 : Int32) (z12 : Int32) (z13 : Int32), mn ν0 ν → kp ν0 Ad0 Ad → k202 μ ν a z1 z2 z6 z8 z9 z10 z11 z12 z13 = some r0 → G p l e ({ frames := 10, cells := kc r0.1.1.2 - kc ν0, slots := ks r0.1.1.2 - ks ν0, locals := 192 } : Room) s m args below meth c D E (Aof (zS μ0 ν0 a0 Ad0) [] s.heap.size) 18 (MQ below (cQ D E sz (zS μ0 ν0 a0 Ad0) [] (pI (fun r u => r = r0.2 ∧ ∃ A1, u = (zS r0.1.1.1 r0.1.1.2 r0.1.2 A1, []) ∧ kp ν0 Ad0 A1))) args s (kc r0.1.1.2 - kc ν0) (ks r0.1.1.2 - ks ν0) (Aof (zS μ0 ν0 a0 Ad0) [] s.heap.size)) (zS μ ν a Ad) [] (kc ν - kc ν0) (ks ν - ks ν0) 202 [(0, .ref (Q 0)), (1, .int z1), (2, .int z2), (5, .ref (Q 13)), (6, .long z6), (8, .int z8), (9, .int z9), (10, .int z10), (11, .int z11), (12, .int z12), (13, .int z13)] []) (h : b_L_isMessage_545 k202 w μ ν a x1 x2 x6 x8 x9 x10 x11 x12 x13 x14 s0 = some r0) : G p l e ({ frames := 10, cells := kc r0.1.1.2 - kc ν0, slots := ks r0.1.1.2 - ks ν0, locals := 192 } : Room) s m args below meth c D E (Aof (zS μ0 ν0 a0 Ad0) [] s.heap.size) 18 (MQ below (cQ D E sz (zS μ0 ν0 a0 Ad0) [] (pI (fun r u => r = r0.2 ∧ ∃ A1, u = (zS r0.1.1.1 r0.1.1.2 r0.1.2 A1, []) ∧ kp ν0 Ad0 A1))) args s (kc r0.1.1.2 - kc ν0) (ks r0.1.1.2 - ks ν0) (Aof (zS μ0 ν0 a0 Ad0) [] s.heap.size)) (zS μ ν a Ad) [] (kc ν - kc ν0) (ks ν - ks ν0) 545 [(0, .ref (Q 0)), (1, .int x1), (2, .int x2), (5, .ref (Q 13)), (6, .long x6), (8, .int x8), (9, .int x9), (10, .int x10), (11, .int x11), (12, .int x12), (13, .int x13), (14, .int x14)] [.int s0] := by
  have m0 := mb_L_isMessage_545 hmk202 h
  have e1 := m0.2.1; have e2 := m0.2.2.1; have e3 := hm0.2.1; have e4 := hm0.2.2.1
  have hI := lwI_mn hI0 hm0; have hQ := lwQ_kp hI0 hp0 hQ0
  unfold b_L_isMessage_545 at h
  refine g_istore (lv' := [(15, .int s0), (0, .ref (Q 0)), (1, .int x1), (2, .int x2), (5, .ref (Q 13)), (6, .long x6), (8, .int x8), (9, .int x9), (10, .int x10), (11, .int x11), (12, .int x12), (13, .int x13), (14, .int x14)]) C dL_isMessage_545 (by decide) rfl ?_
  refine g_lv [1, 2, 3, 4, 5, 6, 7, 8, 9, 10, 11, 12, 0] rfl ?_
  exact lb_L_isMessage_547 hl C hEv hN hr hz hI0 hQ0 hm0 hp0 hmk202 hk202 h
noncomputable def b_L_isMessage_469 (k202 : MP → NC → AS → Int32 → Int32 → Int64 → Int32 → Int32 → Int32 → Int32 → Int32 → Int32 → Option (((MP × NC) × AS) × Int32)) (w : Nat) (μ : MP) (ν : NC) (a : AS) (x1 : Int32) (x2 : Int32) (x6 : Int64) (x8 : Int32) (x9 : Int32) (x10 : Int32) (x11 : Int32) (x12 : Int32) (x13 : Int32) (x16 : Int32) (x17 : Int32) (s0 : Int32) : Option (((MP × NC) × AS) × Int32) := (if x13 = (2 : Int32) then ((f_L_part w a x6 (29 : Int32)).bind (fun v30 => b_L_isMessage_545 k202 w μ ν a x1 x2 x6 x8 x9 x10 x11 x12 x13 s0 v30)) else ((if x16 = (0 : Int32) then (b_L_isMessage_545 k202 w μ ν a x1 x2 x6 x8 x9 x10 x11 x12 x13 s0 x17) else ((if x16 = (1 : Int32) then (bif ixB x17 60 then b_L_isMessage_545 k202 w μ ν a x1 x2 x6 x8 x9 x10 x11 x12 x13 s0 (Int64.toInt32 (((lgA a 13 x17.toNatClampNeg) >>> (Int32.toInt64 (4 : Int32) &&& 63)) &&& (3 : Int64))) else none) else ((if x16 = (2 : Int32) then (bif ixB x17 60 then (f_L_price w a (lgA a 13 x17.toNatClampNeg) (21 : Int32)).bind (fun v28 => b_L_isMessage_545 k202 w μ ν a x1 x2 x6 x8 x9 x10 x11 x12 x13 s0 v28) else none) else (bif ixB x17 60 then (f_L_size w a (lgA a 13 x17.toNatClampNeg)).bind (fun v26 => b_L_isMessage_545 k202 w μ ν a x1 x2 x6 x8 x9 x10 x11 x12 x13 s0 v26) else none))))))))
theorem mb_L_isMessage_469 {w : Nat} {μ : MP} {ν : NC} {a : AS} {x1 : Int32} {x2 : Int32} {x6 : Int64} {x8 : Int32} {x9 : Int32} {x10 : Int32} {x11 : Int32} {x12 : Int32} {x13 : Int32} {x16 : Int32} {x17 : Int32} {s0 : Int32} {r0 : ((MP × NC) × AS) × Int32} {k202 : MP → NC → AS → Int32 → Int32 → Int64 → Int32 → Int32 → Int32 → Int32 → Int32 → Int32 → Option (((MP × NC) × AS) × Int32)} (hmk202 : ∀ (μ : MP) (ν : NC) (a : AS) (z1 : Int32) (z2 : Int32) (z6 : Int64) (z8 : Int32) (z9 : Int32) (z10 : Int32) (z11 : Int32) (z12 : Int32) (z13 : Int32), k202 μ ν a z1 z2 z6 z8 z9 z10 z11 z12 z13 = some r0 → mn ν r0.1.1.2) (h : b_L_isMessage_469 k202 w μ ν a x1 x2 x6 x8 x9 x10 x11 x12 x13 x16 x17 s0 = some r0) : mn ν r0.1.1.2 := by
  unfold b_L_isMessage_469 at h
  by_cases c474 : x13 = (2 : Int32)
  · replace h := (if_pos c474).symm.trans h
    obtain ⟨v30, hv30, h⟩ := bind_of h
    exact mb_L_isMessage_545 hmk202 h
  · replace h := (if_neg c474).symm.trans h
    by_cases c489 : x16 = (0 : Int32)
    · replace h := (if_pos c489).symm.trans h
      exact mb_L_isMessage_545 hmk202 h
    · replace h := (if_neg c489).symm.trans h
      by_cases c500 : x16 = (1 : Int32)
      · replace h := (if_pos c500).symm.trans h
        replace h := (of_guard h).2
        exact mb_L_isMessage_545 hmk202 h
      · replace h := (if_neg c500).symm.trans h
        by_cases c521 : x16 = (2 : Int32)
        · replace h := (if_pos c521).symm.trans h
          replace h := (of_guard h).2
          obtain ⟨v28, hv28, h⟩ := bind_of h
          exact mb_L_isMessage_545 hmk202 h
        · replace h := (if_neg c521).symm.trans h
          replace h := (of_guard h).2
          obtain ⟨v26, hv26, h⟩ := bind_of h
          exact mb_L_isMessage_545 hmk202 h
set_option maxHeartbeats 4000000 in
set_option maxRecDepth 100000 in
theorem lb_L_isMessage_469 {p : Program} {l : Launch} (hl : l.stackTraces = false) {e : Env} {s : State} {m : MethodId} {args : Array Value} {below : List Frame} {meth : Method} {c : Code} {D : va_G} {E : Nat → ClassId} {sz : Nat} {μ0 : MP} {ν0 : NC} {a0 : AS} {Ad0 : Nat → Nat → Nat} {Q : Nat → Nat} {B : Nat × (Nat → Nat)} {w : Nat} {r0 : ((MP × NC) × AS) × Int32} (C : cx p s m args meth c D E (Aof (zS μ0 ν0 a0 Ad0) [] s.heap.size) cL_isMessage 18 "TradeLineLaw") (hEv : eV (Ad0 30 0) (Ad0 31 0) B (Aof (zS μ0 ν0 a0 Ad0) [] s.heap.size) s s.heap) (hN : vN s) (hr : meth.sig.returnType = (some .boolean)) (hz : s.heap.size = sz) (hI0 : lwI ν0) (hQ0 : lwQ Ad0 Q) {μ : MP} {ν : NC} {a : AS} {Ad : Nat → Nat → Nat} (hm0 : mn ν0 ν) (hp0 : kp ν0 Ad0 Ad) {x1 : Int32} {x2 : Int32} {x6 : Int64} {x8 : Int32} {x9 : Int32} {x10 : Int32} {x11 : Int32} {x12 : Int32} {x13 : Int32} {x16 : Int32} {x17 : Int32} {s0 : Int32} {k202 : MP → NC → AS → Int32 → Int32 → Int64 → Int32 → Int32 → Int32 → Int32 → Int32 → Int32 → Option (((MP × NC) × AS) × Int32)} (hmk202 : ∀ (μ : MP) (ν : NC) (a : AS) (z1 : Int32) (z2 : Int32) (z6 : Int64) (z8 : Int32) (z9 : Int32) (z10 : Int32) (z11 : Int32) (z12 : Int32) (z13 : Int32), k202 μ ν a z1 z2 z6 z8 z9 z10 z11 z12 z13 = some r0 → mn ν r0.1.1.2) (hk202 : ∀ (μ : MP) (ν : NC) (a : AS) (Ad : Nat → Nat → Nat) (z1 : Int32) (z2 : Int32) (z6 : Int64) (z8 : Int32) (z9 : Int32) (z10 : Int32) (z11 : Int32) (z12 : Int32) (z13 : Int32), mn ν0 ν → kp ν0 Ad0 Ad → k202 μ ν a z1 z2 z6 z8 z9 z10 z11 z12 z13 = some r0 → G p l e ({ frames := 10, cells := kc r0.1.1.2 - kc ν0, slots := ks r0.1.1.2 - ks ν0, locals := 192 } : Room) s m args below meth c D E (Aof (zS μ0 ν0 a0 Ad0) [] s.heap.size) 18 (MQ below (cQ D E sz (zS μ0 ν0 a0 Ad0) [] (pI (fun r u => r = r0.2 ∧ ∃ A1, u = (zS r0.1.1.1 r0.1.1.2 r0.1.2 A1, []) ∧ kp ν0 Ad0 A1))) args s (kc r0.1.1.2 - kc ν0) (ks r0.1.1.2 - ks ν0) (Aof (zS μ0 ν0 a0 Ad0) [] s.heap.size)) (zS μ ν a Ad) [] (kc ν - kc ν0) (ks ν - ks ν0) 202 [(0, .ref (Q 0)), (1, .int z1), (2, .int z2), (5, .ref (Q 13)), (6, .long z6), (8, .int z8), (9, .int z9), (10, .int z10), (11, .int z11), (12, .int z12), (13, .int z13)] []) (h : b_L_isMessage_469 k202 w μ ν a x1 x2 x6 x8 x9 x10 x11 x12 x13 x16 x17 s0 = some r0) : G p l e ({ frames := 10, cells := kc r0.1.1.2 - kc ν0, slots := ks r0.1.1.2 - ks ν0, locals := 192 } : Room) s m args below meth c D E (Aof (zS μ0 ν0 a0 Ad0) [] s.heap.size) 18 (MQ below (cQ D E sz (zS μ0 ν0 a0 Ad0) [] (pI (fun r u => r = r0.2 ∧ ∃ A1, u = (zS r0.1.1.1 r0.1.1.2 r0.1.2 A1, []) ∧ kp ν0 Ad0 A1))) args s (kc r0.1.1.2 - kc ν0) (ks r0.1.1.2 - ks ν0) (Aof (zS μ0 ν0 a0 Ad0) [] s.heap.size)) (zS μ ν a Ad) [] (kc ν - kc ν0) (ks ν - ks ν0) 469 [(0, .ref (Q 0)), (1, .int x1), (2, .int x2), (5, .ref (Q 13)), (6, .long x6), (8, .int x8), (9, .int x9), (10, .int x10), (11, .int x11), (12, .int x12), (13, .int x13), (16, .int x16), (17, .int x17)] [.int s0] := by
  have m0 := mb_L_isMessage_469 hmk202 h
  have e1 := m0.2.1; have e2 := m0.2.2.1; have e3 := hm0.2.1; have e4 := hm0.2.2.1
  have hI := lwI_mn hI0 hm0; have hQ := lwQ_kp hI0 hp0 hQ0
  unfold b_L_isMessage_469 at h
  refine g_istore (lv' := [(14, .int s0), (0, .ref (Q 0)), (1, .int x1), (2, .int x2), (5, .ref (Q 13)), (6, .long x6), (8, .int x8), (9, .int x9), (10, .int x10), (11, .int x11), (12, .int x12), (13, .int x13), (16, .int x16), (17, .int x17)]) C dL_isMessage_469 (by decide) rfl ?_
  refine g_iload C dL_isMessage_471 11 rfl ?_
  refine g_iconst (v := (2 : Int32)) C dL_isMessage_473 (by decide) ?_
  refine g_icmp_ne (tgt := 487) C dL_isMessage_474 (by decide) (fun c474 => ?_) (fun c474 => ?_)
  · replace h := (if_neg c474).symm.trans h
    refine g_iload C dL_isMessage_487 12 rfl ?_
    refine g_if_ne (tgt := 497) C dL_isMessage_489 (by decide) (fun c489 => ?_) (fun c489 => ?_)
    · replace h := (if_neg c489).symm.trans h
      refine g_iload C dL_isMessage_497 12 rfl ?_
      refine g_iconst (v := (1 : Int32)) C dL_isMessage_499 (by decide) ?_
      refine g_icmp_ne (tgt := 518) C dL_isMessage_500 (by decide) (fun c500 => ?_) (fun c500 => ?_)
      · replace h := (if_neg c500).symm.trans h
        refine g_iload C dL_isMessage_518 12 rfl ?_
        refine g_iconst (v := (2 : Int32)) C dL_isMessage_520 (by decide) ?_
        refine g_icmp_ne (tgt := 537) C dL_isMessage_521 (by decide) (fun c521 => ?_) (fun c521 => ?_)
        · replace h := (if_neg c521).symm.trans h
          refine g_aload C dL_isMessage_537 4 rfl ?_
          refine g_iload C dL_isMessage_539 13 rfl ?_
          obtain ⟨g25, h⟩ := of_guard h
          refine q_lald C (show rsh (ν.1, μ.2, ν.2, Ad) from hI.2) (j := 13) (N := 60) (by decide) (lwQ_l hQ (j := 13) (N := 60) (by decide)) g25 dL_isMessage_541 ?_
          obtain ⟨v26, hv26, h⟩ := bind_of h
          refine g_cSi (n := 1) (exc := []) (exr := []) C [_] _ rfl rfl [] [] rfl rfl rfl rfl (fun _ h => absurd h (by simp)) (fun _ h => absurd h (by simp)) (fun _ h => absurd h (by simp)) (fun sz => wk_L_size l _ ν _ Ad Q hI hQ w _  _ hv26 D E sz) rfl gw_1016 gw_0 gw_1014 gw_1015 ⟨by decide +kernel, by decide +kernel, by decide +kernel⟩ ⟨rfl, rfl⟩ ⟨Nat.le_of_ble_eq_true rfl, Nat.le_of_ble_eq_true rfl⟩ (Nat.le_of_ble_eq_true rfl) dL_isMessage_542 ⟨by show (kc ν - kc ν0) + 0 ≤ kc r0.1.1.2 - kc ν0; omega, by show (ks ν - ks ν0) + 0 ≤ ks r0.1.1.2 - ks ν0; omega⟩ (fun r u hp hx => ?_)
          obtain ⟨er, rfl⟩ := hp
          rw [er]
          try dsimp only [List.append_nil]
          refine g_lv [1, 2, 3, 4, 5, 6, 7, 8, 9, 10, 11, 0] rfl ?_
          exact lb_L_isMessage_545 hl C hEv hN hr hz hI0 hQ0 hm0 hp0 hmk202 hk202 h
        · replace h := (if_pos c521).symm.trans h
          refine g_aload C dL_isMessage_524 4 rfl ?_
          refine g_iload C dL_isMessage_526 13 rfl ?_
          obtain ⟨g27, h⟩ := of_guard h
          refine q_lald C (show rsh (ν.1, μ.2, ν.2, Ad) from hI.2) (j := 13) (N := 60) (by decide) (lwQ_l hQ (j := 13) (N := 60) (by decide)) g27 dL_isMessage_528 ?_
          refine g_bipush (v := (21 : Int32)) C dL_isMessage_529 (by decide) ?_
          obtain ⟨v28, hv28, h⟩ := bind_of h
          refine g_cSi (n := 2) (exc := []) (exr := []) C [_, _] _ rfl rfl [] [] rfl rfl rfl rfl (fun _ h => absurd h (by simp)) (fun _ h => absurd h (by simp)) (fun _ h => absurd h (by simp)) (fun sz => wk_L_price l _ ν _ Ad Q hI hQ w _ _  _ hv28 D E sz) rfl gw_1021 gw_0 gw_1019 gw_1020 ⟨by decide +kernel, by decide +kernel, by decide +kernel⟩ ⟨rfl, rfl⟩ ⟨Nat.le_of_ble_eq_true rfl, Nat.le_of_ble_eq_true rfl⟩ (Nat.le_of_ble_eq_true rfl) dL_isMessage_531 ⟨by show (kc ν - kc ν0) + 0 ≤ kc r0.1.1.2 - kc ν0; omega, by show (ks ν - ks ν0) + 0 ≤ ks r0.1.1.2 - ks ν0; omega⟩ (fun r u hp hx => ?_)
          obtain ⟨er, rfl⟩ := hp
          rw [er]
          try dsimp only [List.append_nil]
          refine g_goto (tgt := 545) C dL_isMessage_534 (by decide) ?_
          refine g_lv [1, 2, 3, 4, 5, 6, 7, 8, 9, 10, 11, 0] rfl ?_
          exact lb_L_isMessage_545 hl C hEv hN hr hz hI0 hQ0 hm0 hp0 hmk202 hk202 h
      · replace h := (if_pos c500).symm.trans h
        refine g_aload C dL_isMessage_503 4 rfl ?_
        refine g_iload C dL_isMessage_505 13 rfl ?_
        obtain ⟨g29, h⟩ := of_guard h
        refine q_lald C (show rsh (ν.1, μ.2, ν.2, Ad) from hI.2) (j := 13) (N := 60) (by decide) (lwQ_l hQ (j := 13) (N := 60) (by decide)) g29 dL_isMessage_507 ?_
        refine g_iconst (v := (4 : Int32)) C dL_isMessage_508 (by decide) ?_
        refine g_lshr C dL_isMessage_509 ?_
        refine g_ldc2 (v := (3 : Int64)) C gw_1291 dL_isMessage_510 ?_
        refine g_land C dL_isMessage_513 ?_
        refine g_l2i C dL_isMessage_514 ?_
        refine g_goto (tgt := 545) C dL_isMessage_515 (by decide) ?_
        refine g_lv [1, 2, 3, 4, 5, 6, 7, 8, 9, 10, 11, 0] rfl ?_
        exact lb_L_isMessage_545 hl C hEv hN hr hz hI0 hQ0 hm0 hp0 hmk202 hk202 h
    · replace h := (if_pos c489).symm.trans h
      refine g_iload C dL_isMessage_492 13 rfl ?_
      refine g_goto (tgt := 545) C dL_isMessage_494 (by decide) ?_
      refine g_lv [1, 2, 3, 4, 5, 6, 7, 8, 9, 10, 11, 0] rfl ?_
      exact lb_L_isMessage_545 hl C hEv hN hr hz hI0 hQ0 hm0 hp0 hmk202 hk202 h
  · replace h := (if_pos c474).symm.trans h
    refine g_lload C dL_isMessage_477 5 rfl ?_
    refine g_bipush (v := (29 : Int32)) C dL_isMessage_479 (by decide) ?_
    obtain ⟨v30, hv30, h⟩ := bind_of h
    refine g_cSi (n := 2) (exc := []) (exr := []) C [_, _] _ rfl rfl [] [] rfl rfl rfl rfl (fun _ h => absurd h (by simp)) (fun _ h => absurd h (by simp)) (fun _ h => absurd h (by simp)) (fun sz => wk_L_part l _ ν _ Ad Q hI hQ w _ _  _ hv30 D E sz) rfl gw_1002 gw_0 gw_1000 gw_1001 ⟨by decide +kernel, by decide +kernel, by decide +kernel⟩ ⟨rfl, rfl⟩ ⟨Nat.le_of_ble_eq_true rfl, Nat.le_of_ble_eq_true rfl⟩ (Nat.le_of_ble_eq_true rfl) dL_isMessage_481 ⟨by show (kc ν - kc ν0) + 0 ≤ kc r0.1.1.2 - kc ν0; omega, by show (ks ν - ks ν0) + 0 ≤ ks r0.1.1.2 - ks ν0; omega⟩ (fun r u hp hx => ?_)
    obtain ⟨er, rfl⟩ := hp
    rw [er]
    try dsimp only [List.append_nil]
    refine g_goto (tgt := 545) C dL_isMessage_484 (by decide) ?_
    refine g_lv [1, 2, 3, 4, 5, 6, 7, 8, 9, 10, 11, 0] rfl ?_
    exact lb_L_isMessage_545 hl C hEv hN hr hz hI0 hQ0 hm0 hp0 hmk202 hk202 h
noncomputable def b_L_isMessage_364 (k202 : MP → NC → AS → Int32 → Int32 → Int64 → Int32 → Int32 → Int32 → Int32 → Int32 → Int32 → Option (((MP × NC) × AS) × Int32)) (w : Nat) (μ : MP) (ν : NC) (a : AS) (x1 : Int32) (x2 : Int32) (x6 : Int64) (x8 : Int32) (x9 : Int32) (x10 : Int32) (x11 : Int32) (x12 : Int32) (x13 : Int32) (s0 : Int32) : Option (((MP × NC) × AS) × Int32) := (f_L_part w a x6 ((5 : Int32) + ((8 : Int32) * x13))).bind (fun v16 => (if x8 = (8 : Int32) then ((if x9 = (1 : Int32) then ((if x13 ≤ (1 : Int32) then (b_L_isMessage_547 k202 w μ ν a x1 x2 x6 x8 x9 x10 x11 x12 x13 s0 v16) else (yl (((x13 - (3 : Int32)) - (x13 - (3 : Int32)) / (4 : Int32) * (4 : Int32))) (fun t22 => (f_L_part w a x6 (21 : Int32)).bind (fun v23 => yl ((v23 + ((x13 - (3 : Int32)) / (4 : Int32)))) (fun t24 => (if x13 = (2 : Int32) then (b_L_isMessage_469 k202 w μ ν a x1 x2 x6 x8 x9 x10 x11 x12 x13 t22 t24 (382 : Int32)) else ((if t22 = (0 : Int32) then (b_L_isMessage_469 k202 w μ ν a x1 x2 x6 x8 x9 x10 x11 x12 x13 t22 t24 (17 : Int32)) else ((if t22 = (1 : Int32) then (b_L_isMessage_469 k202 w μ ν a x1 x2 x6 x8 x9 x10 x11 x12 x13 t22 t24 (30 : Int32)) else ((if t22 = (2 : Int32) then (b_L_isMessage_469 k202 w μ ν a x1 x2 x6 x8 x9 x10 x11 x12 x13 t22 t24 (31 : Int32)) else (b_L_isMessage_469 k202 w μ ν a x1 x2 x6 x8 x9 x10 x11 x12 x13 t22 t24 (32 : Int32))))))))))))))) else (b_L_isMessage_547 k202 w μ ν a x1 x2 x6 x8 x9 x10 x11 x12 x13 s0 v16))) else (b_L_isMessage_547 k202 w μ ν a x1 x2 x6 x8 x9 x10 x11 x12 x13 s0 v16)))
theorem mb_L_isMessage_364 {w : Nat} {μ : MP} {ν : NC} {a : AS} {x1 : Int32} {x2 : Int32} {x6 : Int64} {x8 : Int32} {x9 : Int32} {x10 : Int32} {x11 : Int32} {x12 : Int32} {x13 : Int32} {s0 : Int32} {r0 : ((MP × NC) × AS) × Int32} {k202 : MP → NC → AS → Int32 → Int32 → Int64 → Int32 → Int32 → Int32 → Int32 → Int32 → Int32 → Option (((MP × NC) × AS) × Int32)} (hmk202 : ∀ (μ : MP) (ν : NC) (a : AS) (z1 : Int32) (z2 : Int32) (z6 : Int64) (z8 : Int32) (z9 : Int32) (z10 : Int32) (z11 : Int32) (z12 : Int32) (z13 : Int32), k202 μ ν a z1 z2 z6 z8 z9 z10 z11 z12 z13 = some r0 → mn ν r0.1.1.2) (h : b_L_isMessage_364 k202 w μ ν a x1 x2 x6 x8 x9 x10 x11 x12 x13 s0 = some r0) : mn ν r0.1.1.2 := by
  unfold b_L_isMessage_364 at h
  obtain ⟨v16, hv16, h⟩ := bind_of h
  by_cases c384 : x8 = (8 : Int32)
  · replace h := (if_pos c384).symm.trans h
    by_cases c390 : x9 = (1 : Int32)
    · replace h := (if_pos c390).symm.trans h
      by_cases c396 : x13 ≤ (1 : Int32)
      · replace h := (if_pos c396).symm.trans h
        exact mb_L_isMessage_547 hmk202 h
      · replace h := (if_neg c396).symm.trans h
        obtain ⟨t22, et22⟩ : ∃ y, ((x13 - (3 : Int32)) - (x13 - (3 : Int32)) / (4 : Int32) * (4 : Int32)) = y := ⟨_, rfl⟩
        replace h := yl_of h et22
        obtain ⟨v23, hv23, h⟩ := bind_of h
        obtain ⟨t24, et24⟩ : ∃ y, (v23 + ((x13 - (3 : Int32)) / (4 : Int32))) = y := ⟨_, rfl⟩
        replace h := yl_of h et24
        by_cases c426 : x13 = (2 : Int32)
        · replace h := (if_pos c426).symm.trans h
          exact mb_L_isMessage_469 hmk202 h
        · replace h := (if_neg c426).symm.trans h
          by_cases c437 : t22 = (0 : Int32)
          · replace h := (if_pos c437).symm.trans h
            exact mb_L_isMessage_469 hmk202 h
          · replace h := (if_neg c437).symm.trans h
            by_cases c448 : t22 = (1 : Int32)
            · replace h := (if_pos c448).symm.trans h
              exact mb_L_isMessage_469 hmk202 h
            · replace h := (if_neg c448).symm.trans h
              by_cases c459 : t22 = (2 : Int32)
              · replace h := (if_pos c459).symm.trans h
                exact mb_L_isMessage_469 hmk202 h
              · replace h := (if_neg c459).symm.trans h
                exact mb_L_isMessage_469 hmk202 h
    · replace h := (if_neg c390).symm.trans h
      exact mb_L_isMessage_547 hmk202 h
  · replace h := (if_neg c384).symm.trans h
    exact mb_L_isMessage_547 hmk202 h
set_option maxHeartbeats 4000000 in
set_option maxRecDepth 100000 in
theorem lb_L_isMessage_364 {p : Program} {l : Launch} (hl : l.stackTraces = false) {e : Env} {s : State} {m : MethodId} {args : Array Value} {below : List Frame} {meth : Method} {c : Code} {D : va_G} {E : Nat → ClassId} {sz : Nat} {μ0 : MP} {ν0 : NC} {a0 : AS} {Ad0 : Nat → Nat → Nat} {Q : Nat → Nat} {B : Nat × (Nat → Nat)} {w : Nat} {r0 : ((MP × NC) × AS) × Int32} (C : cx p s m args meth c D E (Aof (zS μ0 ν0 a0 Ad0) [] s.heap.size) cL_isMessage 18 "TradeLineLaw") (hEv : eV (Ad0 30 0) (Ad0 31 0) B (Aof (zS μ0 ν0 a0 Ad0) [] s.heap.size) s s.heap) (hN : vN s) (hr : meth.sig.returnType = (some .boolean)) (hz : s.heap.size = sz) (hI0 : lwI ν0) (hQ0 : lwQ Ad0 Q) {μ : MP} {ν : NC} {a : AS} {Ad : Nat → Nat → Nat} (hm0 : mn ν0 ν) (hp0 : kp ν0 Ad0 Ad) {x1 : Int32} {x2 : Int32} {x6 : Int64} {x8 : Int32} {x9 : Int32} {x10 : Int32} {x11 : Int32} {x12 : Int32} {x13 : Int32} {s0 : Int32} {k202 : MP → NC → AS → Int32 → Int32 → Int64 → Int32 → Int32 → Int32 → Int32 → Int32 → Int32 → Option (((MP × NC) × AS) × Int32)} (hmk202 : ∀ (μ : MP) (ν : NC) (a : AS) (z1 : Int32) (z2 : Int32) (z6 : Int64) (z8 : Int32) (z9 : Int32) (z10 : Int32) (z11 : Int32) (z12 : Int32) (z13 : Int32), k202 μ ν a z1 z2 z6 z8 z9 z10 z11 z12 z13 = some r0 → mn ν r0.1.1.2) (hk202 : ∀ (μ : MP) (ν : NC) (a : AS) (Ad : Nat → Nat → Nat) (z1 : Int32) (z2 : Int32) (z6 : Int64) (z8 : Int32) (z9 : Int32) (z10 : Int32) (z11 : Int32) (z12 : Int32) (z13 : Int32), mn ν0 ν → kp ν0 Ad0 Ad → k202 μ ν a z1 z2 z6 z8 z9 z10 z11 z12 z13 = some r0 → G p l e ({ frames := 10, cells := kc r0.1.1.2 - kc ν0, slots := ks r0.1.1.2 - ks ν0, locals := 192 } : Room) s m args below meth c D E (Aof (zS μ0 ν0 a0 Ad0) [] s.heap.size) 18 (MQ below (cQ D E sz (zS μ0 ν0 a0 Ad0) [] (pI (fun r u => r = r0.2 ∧ ∃ A1, u = (zS r0.1.1.1 r0.1.1.2 r0.1.2 A1, []) ∧ kp ν0 Ad0 A1))) args s (kc r0.1.1.2 - kc ν0) (ks r0.1.1.2 - ks ν0) (Aof (zS μ0 ν0 a0 Ad0) [] s.heap.size)) (zS μ ν a Ad) [] (kc ν - kc ν0) (ks ν - ks ν0) 202 [(0, .ref (Q 0)), (1, .int z1), (2, .int z2), (5, .ref (Q 13)), (6, .long z6), (8, .int z8), (9, .int z9), (10, .int z10), (11, .int z11), (12, .int z12), (13, .int z13)] []) (h : b_L_isMessage_364 k202 w μ ν a x1 x2 x6 x8 x9 x10 x11 x12 x13 s0 = some r0) : G p l e ({ frames := 10, cells := kc r0.1.1.2 - kc ν0, slots := ks r0.1.1.2 - ks ν0, locals := 192 } : Room) s m args below meth c D E (Aof (zS μ0 ν0 a0 Ad0) [] s.heap.size) 18 (MQ below (cQ D E sz (zS μ0 ν0 a0 Ad0) [] (pI (fun r u => r = r0.2 ∧ ∃ A1, u = (zS r0.1.1.1 r0.1.1.2 r0.1.2 A1, []) ∧ kp ν0 Ad0 A1))) args s (kc r0.1.1.2 - kc ν0) (ks r0.1.1.2 - ks ν0) (Aof (zS μ0 ν0 a0 Ad0) [] s.heap.size)) (zS μ ν a Ad) [] (kc ν - kc ν0) (ks ν - ks ν0) 364 [(0, .ref (Q 0)), (1, .int x1), (2, .int x2), (5, .ref (Q 13)), (6, .long x6), (8, .int x8), (9, .int x9), (10, .int x10), (11, .int x11), (12, .int x12), (13, .int x13)] [.int s0] := by
  have m0 := mb_L_isMessage_364 hmk202 h
  have e1 := m0.2.1; have e2 := m0.2.2.1; have e3 := hm0.2.1; have e4 := hm0.2.2.1
  have hI := lwI_mn hI0 hm0; have hQ := lwQ_kp hI0 hp0 hQ0
  unfold b_L_isMessage_364 at h
  refine g_istore (lv' := [(14, .int s0), (0, .ref (Q 0)), (1, .int x1), (2, .int x2), (5, .ref (Q 13)), (6, .long x6), (8, .int x8), (9, .int x9), (10, .int x10), (11, .int x11), (12, .int x12), (13, .int x13)]) C dL_isMessage_364 (by decide) rfl ?_
  refine g_lload C dL_isMessage_366 5 rfl ?_
  refine g_iconst (v := (5 : Int32)) C dL_isMessage_368 (by decide) ?_
  refine g_bipush (v := (8 : Int32)) C dL_isMessage_369 (by decide) ?_
  refine g_iload C dL_isMessage_371 11 rfl ?_
  refine g_imul C dL_isMessage_373 ?_
  refine g_iadd C dL_isMessage_374 ?_
  obtain ⟨v16, hv16, h⟩ := bind_of h
  refine g_cSi (n := 2) (exc := []) (exr := []) C [_, _] _ rfl rfl [] [] rfl rfl rfl rfl (fun _ h => absurd h (by simp)) (fun _ h => absurd h (by simp)) (fun _ h => absurd h (by simp)) (fun sz => wk_L_part l _ ν _ Ad Q hI hQ w _ _  _ hv16 D E sz) rfl gw_1002 gw_0 gw_1000 gw_1001 ⟨by decide +kernel, by decide +kernel, by decide +kernel⟩ ⟨rfl, rfl⟩ ⟨Nat.le_of_ble_eq_true rfl, Nat.le_of_ble_eq_true rfl⟩ (Nat.le_of_ble_eq_true rfl) dL_isMessage_375 ⟨by show (kc ν - kc ν0) + 0 ≤ kc r0.1.1.2 - kc ν0; omega, by show (ks ν - ks ν0) + 0 ≤ ks r0.1.1.2 - ks ν0; omega⟩ (fun r u hp hx => ?_)
  obtain ⟨er, rfl⟩ := hp
  rw [er]
  try dsimp only [List.append_nil]
  refine g_istore (lv' := [(15, .int v16), (14, .int s0), (0, .ref (Q 0)), (1, .int x1), (2, .int x2), (5, .ref (Q 13)), (6, .long x6), (8, .int x8), (9, .int x9), (10, .int x10), (11, .int x11), (12, .int x12), (13, .int x13)]) C dL_isMessage_378 (by decide) rfl ?_
  refine g_iload C dL_isMessage_380 7 rfl ?_
  refine g_bipush (v := (8 : Int32)) C dL_isMessage_382 (by decide) ?_
  refine g_icmp_ne (tgt := 547) C dL_isMessage_384 (by decide) (fun c384 => ?_) (fun c384 => ?_)
  · replace h := (if_neg c384).symm.trans h
    refine g_lv [2, 3, 4, 5, 6, 7, 8, 9, 10, 11, 12, 1, 0] rfl ?_
    exact lb_L_isMessage_547 hl C hEv hN hr hz hI0 hQ0 hm0 hp0 hmk202 hk202 h
  · replace h := (if_pos c384).symm.trans h
    refine g_iload C dL_isMessage_387 8 rfl ?_
    refine g_iconst (v := (1 : Int32)) C dL_isMessage_389 (by decide) ?_
    refine g_icmp_ne (tgt := 547) C dL_isMessage_390 (by decide) (fun c390 => ?_) (fun c390 => ?_)
    · replace h := (if_neg c390).symm.trans h
      refine g_lv [2, 3, 4, 5, 6, 7, 8, 9, 10, 11, 12, 1, 0] rfl ?_
      exact lb_L_isMessage_547 hl C hEv hN hr hz hI0 hQ0 hm0 hp0 hmk202 hk202 h
    · replace h := (if_pos c390).symm.trans h
      refine g_iload C dL_isMessage_393 12 rfl ?_
      refine g_iconst (v := (1 : Int32)) C dL_isMessage_395 (by decide) ?_
      refine g_icmp_le (tgt := 547) C dL_isMessage_396 (by decide) (fun c396 => ?_) (fun c396 => ?_)
      · replace h := (if_pos c396).symm.trans h
        refine g_lv [2, 3, 4, 5, 6, 7, 8, 9, 10, 11, 12, 1, 0] rfl ?_
        exact lb_L_isMessage_547 hl C hEv hN hr hz hI0 hQ0 hm0 hp0 hmk202 hk202 h
      · replace h := (if_neg c396).symm.trans h
        refine g_iload C dL_isMessage_399 12 rfl ?_
        refine g_iconst (v := (3 : Int32)) C dL_isMessage_401 (by decide) ?_
        refine g_isub C dL_isMessage_402 ?_
        refine g_iconst (v := (4 : Int32)) C dL_isMessage_403 (by decide) ?_
        refine g_irem C dL_isMessage_404 (by decide) ?_
        refine q_topi (fun t22 et22 => ?_)
        replace h := yl_of h et22
        refine g_istore (lv' := [(16, .int t22), (15, .int v16), (14, .int s0), (0, .ref (Q 0)), (1, .int x1), (2, .int x2), (5, .ref (Q 13)), (6, .long x6), (8, .int x8), (9, .int x9), (10, .int x10), (11, .int x11), (12, .int x12), (13, .int x13)]) C dL_isMessage_405 (by decide) rfl ?_
        refine g_lload C dL_isMessage_407 7 rfl ?_
        refine g_bipush (v := (21 : Int32)) C dL_isMessage_409 (by decide) ?_
        obtain ⟨v23, hv23, h⟩ := bind_of h
        refine g_cSi (n := 2) (exc := []) (exr := []) C [_, _] _ rfl rfl [] [] rfl rfl rfl rfl (fun _ h => absurd h (by simp)) (fun _ h => absurd h (by simp)) (fun _ h => absurd h (by simp)) (fun sz => wk_L_part l _ ν _ Ad Q hI hQ w _ _  _ hv23 D E sz) rfl gw_1002 gw_0 gw_1000 gw_1001 ⟨by decide +kernel, by decide +kernel, by decide +kernel⟩ ⟨rfl, rfl⟩ ⟨Nat.le_of_ble_eq_true rfl, Nat.le_of_ble_eq_true rfl⟩ (Nat.le_of_ble_eq_true rfl) dL_isMessage_411 ⟨by show (kc ν - kc ν0) + 0 ≤ kc r0.1.1.2 - kc ν0; omega, by show (ks ν - ks ν0) + 0 ≤ ks r0.1.1.2 - ks ν0; omega⟩ (fun r u hp hx => ?_)
        obtain ⟨er, rfl⟩ := hp
        rw [er]
        try dsimp only [List.append_nil]
        refine g_iload C dL_isMessage_414 13 rfl ?_
        refine g_iconst (v := (3 : Int32)) C dL_isMessage_416 (by decide) ?_
        refine g_isub C dL_isMessage_417 ?_
        refine g_iconst (v := (4 : Int32)) C dL_isMessage_418 (by decide) ?_
        refine g_idiv C dL_isMessage_419 (by decide) ?_
        refine g_iadd C dL_isMessage_420 ?_
        refine q_topi (fun t24 et24 => ?_)
        replace h := yl_of h et24
        refine g_istore (lv' := [(17, .int t24), (16, .int t22), (15, .int v16), (14, .int s0), (0, .ref (Q 0)), (1, .int x1), (2, .int x2), (5, .ref (Q 13)), (6, .long x6), (8, .int x8), (9, .int x9), (10, .int x10), (11, .int x11), (12, .int x12), (13, .int x13)]) C dL_isMessage_421 (by decide) rfl ?_
        refine g_iload C dL_isMessage_423 14 rfl ?_
        refine g_iconst (v := (2 : Int32)) C dL_isMessage_425 (by decide) ?_
        refine g_icmp_ne (tgt := 435) C dL_isMessage_426 (by decide) (fun c426 => ?_) (fun c426 => ?_)
        · replace h := (if_neg c426).symm.trans h
          refine g_iload C dL_isMessage_435 1 rfl ?_
          refine g_if_ne (tgt := 445) C dL_isMessage_437 (by decide) (fun c437 => ?_) (fun c437 => ?_)
          · replace h := (if_neg c437).symm.trans h
            refine g_iload C dL_isMessage_445 1 rfl ?_
            refine g_iconst (v := (1 : Int32)) C dL_isMessage_447 (by decide) ?_
            refine g_icmp_ne (tgt := 456) C dL_isMessage_448 (by decide) (fun c448 => ?_) (fun c448 => ?_)
            · replace h := (if_neg c448).symm.trans h
              refine g_iload C dL_isMessage_456 1 rfl ?_
              refine g_iconst (v := (2 : Int32)) C dL_isMessage_458 (by decide) ?_
              refine g_icmp_ne (tgt := 467) C dL_isMessage_459 (by decide) (fun c459 => ?_) (fun c459 => ?_)
              · replace h := (if_neg c459).symm.trans h
                refine g_bipush (v := (32 : Int32)) C dL_isMessage_467 (by decide) ?_
                refine g_lv [4, 5, 6, 7, 8, 9, 10, 11, 12, 13, 14, 1, 0] rfl ?_
                exact lb_L_isMessage_469 hl C hEv hN hr hz hI0 hQ0 hm0 hp0 hmk202 hk202 h
              · replace h := (if_pos c459).symm.trans h
                refine g_bipush (v := (31 : Int32)) C dL_isMessage_462 (by decide) ?_
                refine g_goto (tgt := 469) C dL_isMessage_464 (by decide) ?_
                refine g_lv [4, 5, 6, 7, 8, 9, 10, 11, 12, 13, 14, 1, 0] rfl ?_
                exact lb_L_isMessage_469 hl C hEv hN hr hz hI0 hQ0 hm0 hp0 hmk202 hk202 h
            · replace h := (if_pos c448).symm.trans h
              refine g_bipush (v := (30 : Int32)) C dL_isMessage_451 (by decide) ?_
              refine g_goto (tgt := 469) C dL_isMessage_453 (by decide) ?_
              refine g_lv [4, 5, 6, 7, 8, 9, 10, 11, 12, 13, 14, 1, 0] rfl ?_
              exact lb_L_isMessage_469 hl C hEv hN hr hz hI0 hQ0 hm0 hp0 hmk202 hk202 h
          · replace h := (if_pos c437).symm.trans h
            refine g_bipush (v := (17 : Int32)) C dL_isMessage_440 (by decide) ?_
            refine g_goto (tgt := 469) C dL_isMessage_442 (by decide) ?_
            refine g_lv [4, 5, 6, 7, 8, 9, 10, 11, 12, 13, 14, 1, 0] rfl ?_
            exact lb_L_isMessage_469 hl C hEv hN hr hz hI0 hQ0 hm0 hp0 hmk202 hk202 h
        · replace h := (if_pos c426).symm.trans h
          refine g_sipush (v := (382 : Int32)) C dL_isMessage_429 (by decide) ?_
          refine g_goto (tgt := 469) C dL_isMessage_432 (by decide) ?_
          refine g_lv [4, 5, 6, 7, 8, 9, 10, 11, 12, 13, 14, 1, 0] rfl ?_
          exact lb_L_isMessage_469 hl C hEv hN hr hz hI0 hQ0 hm0 hp0 hmk202 hk202 h
noncomputable def b_L_isMessage_202 (k202 : MP → NC → AS → Int32 → Int32 → Int64 → Int32 → Int32 → Int32 → Int32 → Int32 → Int32 → Option (((MP × NC) × AS) × Int32)) (w : Nat) (μ : MP) (ν : NC) (a : AS) (x1 : Int32) (x2 : Int32) (x6 : Int64) (x8 : Int32) (x9 : Int32) (x10 : Int32) (x11 : Int32) (x12 : Int32) (x13 : Int32)  : Option (((MP × NC) × AS) × Int32) := (if x12 ≤ x13 then ((f_L_fields w μ ν x1 x2).bind (fun v11 => b_L_isMessage_600  w v11.1.1 v11.1.2 a x1 x2 x10 x11 v11.2)) else ((if x8 = (3 : Int32) then (b_L_isMessage_364 k202 w μ ν a x1 x2 x6 x8 x9 x10 x11 x12 x13 (7 : Int32)) else ((if x8 = (5 : Int32) then ((if x13 = (0 : Int32) then (b_L_isMessage_364 k202 w μ ν a x1 x2 x6 x8 x9 x10 x11 x12 x13 (11 : Int32)) else ((if x13 = (1 : Int32) then (b_L_isMessage_364 k202 w μ ν a x1 x2 x6 x8 x9 x10 x11 x12 x13 (54 : Int32)) else ((if x13 = (2 : Int32) then (b_L_isMessage_364 k202 w μ ν a x1 x2 x6 x8 x9 x10 x11 x12 x13 (44 : Int32)) else (b_L_isMessage_364 k202 w μ ν a x1 x2 x6 x8 x9 x10 x11 x12 x13 (38 : Int32)))))))) else ((if (8 : Int32) ≤ x8 then ((if x13 = (0 : Int32) then (b_L_isMessage_364 k202 w μ ν a x1 x2 x6 x8 x9 x10 x11 x12 x13 (150 : Int32)) else ((if x13 = (1 : Int32) then (b_L_isMessage_364 k202 w μ ν a x1 x2 x6 x8 x9 x10 x11 x12 x13 (37 : Int32)) else ((if x9 = (2 : Int32) then (b_L_isMessage_364 k202 w μ ν a x1 x2 x6 x8 x9 x10 x11 x12 x13 (32 : Int32)) else ((if x9 = (3 : Int32) then ((if x13 = (2 : Int32) then (b_L_isMessage_364 k202 w μ ν a x1 x2 x6 x8 x9 x10 x11 x12 x13 (44 : Int32)) else (b_L_isMessage_364 k202 w μ ν a x1 x2 x6 x8 x9 x10 x11 x12 x13 (38 : Int32)))) else ((if x13 = (2 : Int32) then (b_L_isMessage_364 k202 w μ ν a x1 x2 x6 x8 x9 x10 x11 x12 x13 (17 : Int32)) else (b_L_isMessage_364 k202 w μ ν a x1 x2 x6 x8 x9 x10 x11 x12 x13 (31 : Int32)))))))))))) else ((if x13 = (0 : Int32) then (b_L_isMessage_364 k202 w μ ν a x1 x2 x6 x8 x9 x10 x11 x12 x13 (41 : Int32)) else ((if x13 = (1 : Int32) then (b_L_isMessage_364 k202 w μ ν a x1 x2 x6 x8 x9 x10 x11 x12 x13 (44 : Int32)) else (b_L_isMessage_364 k202 w μ ν a x1 x2 x6 x8 x9 x10 x11 x12 x13 (38 : Int32)))))))))))))
theorem mb_L_isMessage_202 {w : Nat} {μ : MP} {ν : NC} {a : AS} {x1 : Int32} {x2 : Int32} {x6 : Int64} {x8 : Int32} {x9 : Int32} {x10 : Int32} {x11 : Int32} {x12 : Int32} {x13 : Int32}  {r0 : ((MP × NC) × AS) × Int32} {k202 : MP → NC → AS → Int32 → Int32 → Int64 → Int32 → Int32 → Int32 → Int32 → Int32 → Int32 → Option (((MP × NC) × AS) × Int32)} (hmk202 : ∀ (μ : MP) (ν : NC) (a : AS) (z1 : Int32) (z2 : Int32) (z6 : Int64) (z8 : Int32) (z9 : Int32) (z10 : Int32) (z11 : Int32) (z12 : Int32) (z13 : Int32), k202 μ ν a z1 z2 z6 z8 z9 z10 z11 z12 z13 = some r0 → mn ν r0.1.1.2) (h : b_L_isMessage_202 k202 w μ ν a x1 x2 x6 x8 x9 x10 x11 x12 x13  = some r0) : mn ν r0.1.1.2 := by
  unfold b_L_isMessage_202 at h
  by_cases c206 : x12 ≤ x13
  · replace h := (if_pos c206).symm.trans h
    obtain ⟨v11, hv11, h⟩ := bind_of h
    exact mn_trans (m_L_fields hv11) (mb_L_isMessage_600  h)
  · replace h := (if_neg c206).symm.trans h
    by_cases c212 : x8 = (3 : Int32)
    · replace h := (if_pos c212).symm.trans h
      exact mb_L_isMessage_364 hmk202 h
    · replace h := (if_neg c212).symm.trans h
      by_cases c223 : x8 = (5 : Int32)
      · replace h := (if_pos c223).symm.trans h
        by_cases c228 : x13 = (0 : Int32)
        · replace h := (if_pos c228).symm.trans h
          exact mb_L_isMessage_364 hmk202 h
        · replace h := (if_neg c228).symm.trans h
          by_cases c239 : x13 = (1 : Int32)
          · replace h := (if_pos c239).symm.trans h
            exact mb_L_isMessage_364 hmk202 h
          · replace h := (if_neg c239).symm.trans h
            by_cases c250 : x13 = (2 : Int32)
            · replace h := (if_pos c250).symm.trans h
              exact mb_L_isMessage_364 hmk202 h
            · replace h := (if_neg c250).symm.trans h
              exact mb_L_isMessage_364 hmk202 h
      · replace h := (if_neg c223).symm.trans h
        by_cases c267 : (8 : Int32) ≤ x8
        · replace h := (if_pos c267).symm.trans h
          by_cases c298 : x13 = (0 : Int32)
          · replace h := (if_pos c298).symm.trans h
            exact mb_L_isMessage_364 hmk202 h
          · replace h := (if_neg c298).symm.trans h
            by_cases c310 : x13 = (1 : Int32)
            · replace h := (if_pos c310).symm.trans h
              exact mb_L_isMessage_364 hmk202 h
            · replace h := (if_neg c310).symm.trans h
              by_cases c321 : x9 = (2 : Int32)
              · replace h := (if_pos c321).symm.trans h
                exact mb_L_isMessage_364 hmk202 h
              · replace h := (if_neg c321).symm.trans h
                by_cases c332 : x9 = (3 : Int32)
                · replace h := (if_pos c332).symm.trans h
                  by_cases c338 : x13 = (2 : Int32)
                  · replace h := (if_pos c338).symm.trans h
                    exact mb_L_isMessage_364 hmk202 h
                  · replace h := (if_neg c338).symm.trans h
                    exact mb_L_isMessage_364 hmk202 h
                · replace h := (if_neg c332).symm.trans h
                  by_cases c354 : x13 = (2 : Int32)
                  · replace h := (if_pos c354).symm.trans h
                    exact mb_L_isMessage_364 hmk202 h
                  · replace h := (if_neg c354).symm.trans h
                    exact mb_L_isMessage_364 hmk202 h
        · replace h := (if_neg c267).symm.trans h
          by_cases c272 : x13 = (0 : Int32)
          · replace h := (if_pos c272).symm.trans h
            exact mb_L_isMessage_364 hmk202 h
          · replace h := (if_neg c272).symm.trans h
            by_cases c283 : x13 = (1 : Int32)
            · replace h := (if_pos c283).symm.trans h
              exact mb_L_isMessage_364 hmk202 h
            · replace h := (if_neg c283).symm.trans h
              exact mb_L_isMessage_364 hmk202 h
set_option maxHeartbeats 4000000 in
set_option maxRecDepth 100000 in
theorem lb_L_isMessage_202 {p : Program} {l : Launch} (hl : l.stackTraces = false) {e : Env} {s : State} {m : MethodId} {args : Array Value} {below : List Frame} {meth : Method} {c : Code} {D : va_G} {E : Nat → ClassId} {sz : Nat} {μ0 : MP} {ν0 : NC} {a0 : AS} {Ad0 : Nat → Nat → Nat} {Q : Nat → Nat} {B : Nat × (Nat → Nat)} {w : Nat} {r0 : ((MP × NC) × AS) × Int32} (C : cx p s m args meth c D E (Aof (zS μ0 ν0 a0 Ad0) [] s.heap.size) cL_isMessage 18 "TradeLineLaw") (hEv : eV (Ad0 30 0) (Ad0 31 0) B (Aof (zS μ0 ν0 a0 Ad0) [] s.heap.size) s s.heap) (hN : vN s) (hr : meth.sig.returnType = (some .boolean)) (hz : s.heap.size = sz) (hI0 : lwI ν0) (hQ0 : lwQ Ad0 Q) {μ : MP} {ν : NC} {a : AS} {Ad : Nat → Nat → Nat} (hm0 : mn ν0 ν) (hp0 : kp ν0 Ad0 Ad) {x1 : Int32} {x2 : Int32} {x6 : Int64} {x8 : Int32} {x9 : Int32} {x10 : Int32} {x11 : Int32} {x12 : Int32} {x13 : Int32}  {k202 : MP → NC → AS → Int32 → Int32 → Int64 → Int32 → Int32 → Int32 → Int32 → Int32 → Int32 → Option (((MP × NC) × AS) × Int32)} (hmk202 : ∀ (μ : MP) (ν : NC) (a : AS) (z1 : Int32) (z2 : Int32) (z6 : Int64) (z8 : Int32) (z9 : Int32) (z10 : Int32) (z11 : Int32) (z12 : Int32) (z13 : Int32), k202 μ ν a z1 z2 z6 z8 z9 z10 z11 z12 z13 = some r0 → mn ν r0.1.1.2) (hk202 : ∀ (μ : MP) (ν : NC) (a : AS) (Ad : Nat → Nat → Nat) (z1 : Int32) (z2 : Int32) (z6 : Int64) (z8 : Int32) (z9 : Int32) (z10 : Int32) (z11 : Int32) (z12 : Int32) (z13 : Int32), mn ν0 ν → kp ν0 Ad0 Ad → k202 μ ν a z1 z2 z6 z8 z9 z10 z11 z12 z13 = some r0 → G p l e ({ frames := 10, cells := kc r0.1.1.2 - kc ν0, slots := ks r0.1.1.2 - ks ν0, locals := 192 } : Room) s m args below meth c D E (Aof (zS μ0 ν0 a0 Ad0) [] s.heap.size) 18 (MQ below (cQ D E sz (zS μ0 ν0 a0 Ad0) [] (pI (fun r u => r = r0.2 ∧ ∃ A1, u = (zS r0.1.1.1 r0.1.1.2 r0.1.2 A1, []) ∧ kp ν0 Ad0 A1))) args s (kc r0.1.1.2 - kc ν0) (ks r0.1.1.2 - ks ν0) (Aof (zS μ0 ν0 a0 Ad0) [] s.heap.size)) (zS μ ν a Ad) [] (kc ν - kc ν0) (ks ν - ks ν0) 202 [(0, .ref (Q 0)), (1, .int z1), (2, .int z2), (5, .ref (Q 13)), (6, .long z6), (8, .int z8), (9, .int z9), (10, .int z10), (11, .int z11), (12, .int z12), (13, .int z13)] []) (h : b_L_isMessage_202 k202 w μ ν a x1 x2 x6 x8 x9 x10 x11 x12 x13  = some r0) : G p l e ({ frames := 10, cells := kc r0.1.1.2 - kc ν0, slots := ks r0.1.1.2 - ks ν0, locals := 192 } : Room) s m args below meth c D E (Aof (zS μ0 ν0 a0 Ad0) [] s.heap.size) 18 (MQ below (cQ D E sz (zS μ0 ν0 a0 Ad0) [] (pI (fun r u => r = r0.2 ∧ ∃ A1, u = (zS r0.1.1.1 r0.1.1.2 r0.1.2 A1, []) ∧ kp ν0 Ad0 A1))) args s (kc r0.1.1.2 - kc ν0) (ks r0.1.1.2 - ks ν0) (Aof (zS μ0 ν0 a0 Ad0) [] s.heap.size)) (zS μ ν a Ad) [] (kc ν - kc ν0) (ks ν - ks ν0) 202 [(0, .ref (Q 0)), (1, .int x1), (2, .int x2), (5, .ref (Q 13)), (6, .long x6), (8, .int x8), (9, .int x9), (10, .int x10), (11, .int x11), (12, .int x12), (13, .int x13)] [] := by
  have m0 := mb_L_isMessage_202 hmk202 h
  have e1 := m0.2.1; have e2 := m0.2.2.1; have e3 := hm0.2.1; have e4 := hm0.2.2.1
  have hI := lwI_mn hI0 hm0; have hQ := lwQ_kp hI0 hp0 hQ0
  unfold b_L_isMessage_202 at h
  refine g_iload C dL_isMessage_202 10 rfl ?_
  refine g_iload C dL_isMessage_204 9 rfl ?_
  refine g_icmp_ge (tgt := 594) C dL_isMessage_206 (by decide) (fun c206 => ?_) (fun c206 => ?_)
  · replace h := (if_pos c206).symm.trans h
    refine g_aload_n C dL_isMessage_594 rfl 0 rfl ?_
    refine g_iload_n C dL_isMessage_595 rfl 1 rfl ?_
    refine g_iload_n C dL_isMessage_596 rfl 2 rfl ?_
    obtain ⟨v11, hv11, h⟩ := bind_of h
    have m2 := m_L_fields hv11
    have m3 := mb_L_isMessage_600  h
    have a1 := hm0.2.1; have a2 := hm0.2.2.1; have b1 := m2.2.1; have b2 := m2.2.2.1; have d1 := m3.2.1; have d2 := m3.2.2.1
    refine g_cSh (n := 3) (exr := []) C hEv hN ⟨hp0.2.1 0, hp0.2.2 0⟩ [_, _, _] _ rfl rfl [] rfl rfl (fun sz => wc_L_fields l hl B _ ν _ Ad Q hI hQ w _ _ _ hv11 D E sz) rfl gh_fields gw_0 gw_1252 gw_1253 ⟨by decide +kernel, by decide +kernel, by decide +kernel⟩ ⟨rfl, rfl⟩ ⟨Nat.le_of_ble_eq_true rfl, Nat.le_of_ble_eq_true rfl⟩ (Nat.le_of_ble_eq_true rfl) dL_isMessage_597 ⟨by show (kc ν - kc ν0) + (kc v11.1.2 - kc ν) ≤ kc r0.1.1.2 - kc ν0; omega, by show (ks ν - ks ν0) + (ks v11.1.2 - ks ν) ≤ ks r0.1.1.2 - ks ν0; omega⟩ (fun r u hp hx => ?_)
    obtain ⟨er, A1, rfl, hkp⟩ := hp
    rw [er]
    try dsimp only [List.append_nil]
    refine g_widen (k := kc v11.1.2 - kc ν0) (n := ks v11.1.2 - ks ν0) (by omega) (by omega) ?_
    refine g_lv [0, 1, 2, 7, 8] rfl ?_
    exact lb_L_isMessage_600 hl C hEv hN hr hz hI0 hQ0 (mn_trans hm0 m2) (kp_trans hp0 hm0 hkp)  h
  · replace h := (if_neg c206).symm.trans h
    refine g_iload C dL_isMessage_209 5 rfl ?_
    refine g_iconst (v := (3 : Int32)) C dL_isMessage_211 (by decide) ?_
    refine g_icmp_ne (tgt := 220) C dL_isMessage_212 (by decide) (fun c212 => ?_) (fun c212 => ?_)
    · replace h := (if_neg c212).symm.trans h
      refine g_iload C dL_isMessage_220 5 rfl ?_
      refine g_iconst (v := (5 : Int32)) C dL_isMessage_222 (by decide) ?_
      refine g_icmp_ne (tgt := 263) C dL_isMessage_223 (by decide) (fun c223 => ?_) (fun c223 => ?_)
      · replace h := (if_neg c223).symm.trans h
        refine g_iload C dL_isMessage_263 5 rfl ?_
        refine g_bipush (v := (8 : Int32)) C dL_isMessage_265 (by decide) ?_
        refine g_icmp_ge (tgt := 296) C dL_isMessage_267 (by decide) (fun c267 => ?_) (fun c267 => ?_)
        · replace h := (if_pos c267).symm.trans h
          refine g_iload C dL_isMessage_296 10 rfl ?_
          refine g_if_ne (tgt := 307) C dL_isMessage_298 (by decide) (fun c298 => ?_) (fun c298 => ?_)
          · replace h := (if_neg c298).symm.trans h
            refine g_iload C dL_isMessage_307 10 rfl ?_
            refine g_iconst (v := (1 : Int32)) C dL_isMessage_309 (by decide) ?_
            refine g_icmp_ne (tgt := 318) C dL_isMessage_310 (by decide) (fun c310 => ?_) (fun c310 => ?_)
            · replace h := (if_neg c310).symm.trans h
              refine g_iload C dL_isMessage_318 6 rfl ?_
              refine g_iconst (v := (2 : Int32)) C dL_isMessage_320 (by decide) ?_
              refine g_icmp_ne (tgt := 329) C dL_isMessage_321 (by decide) (fun c321 => ?_) (fun c321 => ?_)
              · replace h := (if_neg c321).symm.trans h
                refine g_iload C dL_isMessage_329 6 rfl ?_
                refine g_iconst (v := (3 : Int32)) C dL_isMessage_331 (by decide) ?_
                refine g_icmp_ne (tgt := 351) C dL_isMessage_332 (by decide) (fun c332 => ?_) (fun c332 => ?_)
                · replace h := (if_neg c332).symm.trans h
                  refine g_iload C dL_isMessage_351 10 rfl ?_
                  refine g_iconst (v := (2 : Int32)) C dL_isMessage_353 (by decide) ?_
                  refine g_icmp_ne (tgt := 362) C dL_isMessage_354 (by decide) (fun c354 => ?_) (fun c354 => ?_)
                  · replace h := (if_neg c354).symm.trans h
                    refine g_bipush (v := (31 : Int32)) C dL_isMessage_362 (by decide) ?_
                    refine g_lv [0, 1, 2, 3, 4, 5, 6, 7, 8, 9, 10] rfl ?_
                    exact lb_L_isMessage_364 hl C hEv hN hr hz hI0 hQ0 hm0 hp0 hmk202 hk202 h
                  · replace h := (if_pos c354).symm.trans h
                    refine g_bipush (v := (17 : Int32)) C dL_isMessage_357 (by decide) ?_
                    refine g_goto (tgt := 364) C dL_isMessage_359 (by decide) ?_
                    refine g_lv [0, 1, 2, 3, 4, 5, 6, 7, 8, 9, 10] rfl ?_
                    exact lb_L_isMessage_364 hl C hEv hN hr hz hI0 hQ0 hm0 hp0 hmk202 hk202 h
                · replace h := (if_pos c332).symm.trans h
                  refine g_iload C dL_isMessage_335 10 rfl ?_
                  refine g_iconst (v := (2 : Int32)) C dL_isMessage_337 (by decide) ?_
                  refine g_icmp_ne (tgt := 346) C dL_isMessage_338 (by decide) (fun c338 => ?_) (fun c338 => ?_)
                  · replace h := (if_neg c338).symm.trans h
                    refine g_bipush (v := (38 : Int32)) C dL_isMessage_346 (by decide) ?_
                    refine g_goto (tgt := 364) C dL_isMessage_348 (by decide) ?_
                    refine g_lv [0, 1, 2, 3, 4, 5, 6, 7, 8, 9, 10] rfl ?_
                    exact lb_L_isMessage_364 hl C hEv hN hr hz hI0 hQ0 hm0 hp0 hmk202 hk202 h
                  · replace h := (if_pos c338).symm.trans h
                    refine g_bipush (v := (44 : Int32)) C dL_isMessage_341 (by decide) ?_
                    refine g_goto (tgt := 364) C dL_isMessage_343 (by decide) ?_
                    refine g_lv [0, 1, 2, 3, 4, 5, 6, 7, 8, 9, 10] rfl ?_
                    exact lb_L_isMessage_364 hl C hEv hN hr hz hI0 hQ0 hm0 hp0 hmk202 hk202 h
              · replace h := (if_pos c321).symm.trans h
                refine g_bipush (v := (32 : Int32)) C dL_isMessage_324 (by decide) ?_
                refine g_goto (tgt := 364) C dL_isMessage_326 (by decide) ?_
                refine g_lv [0, 1, 2, 3, 4, 5, 6, 7, 8, 9, 10] rfl ?_
                exact lb_L_isMessage_364 hl C hEv hN hr hz hI0 hQ0 hm0 hp0 hmk202 hk202 h
            · replace h := (if_pos c310).symm.trans h
              refine g_bipush (v := (37 : Int32)) C dL_isMessage_313 (by decide) ?_
              refine g_goto (tgt := 364) C dL_isMessage_315 (by decide) ?_
              refine g_lv [0, 1, 2, 3, 4, 5, 6, 7, 8, 9, 10] rfl ?_
              exact lb_L_isMessage_364 hl C hEv hN hr hz hI0 hQ0 hm0 hp0 hmk202 hk202 h
          · replace h := (if_pos c298).symm.trans h
            refine g_sipush (v := (150 : Int32)) C dL_isMessage_301 (by decide) ?_
            refine g_goto (tgt := 364) C dL_isMessage_304 (by decide) ?_
            refine g_lv [0, 1, 2, 3, 4, 5, 6, 7, 8, 9, 10] rfl ?_
            exact lb_L_isMessage_364 hl C hEv hN hr hz hI0 hQ0 hm0 hp0 hmk202 hk202 h
        · replace h := (if_neg c267).symm.trans h
          refine g_iload C dL_isMessage_270 10 rfl ?_
          refine g_if_ne (tgt := 280) C dL_isMessage_272 (by decide) (fun c272 => ?_) (fun c272 => ?_)
          · replace h := (if_neg c272).symm.trans h
            refine g_iload C dL_isMessage_280 10 rfl ?_
            refine g_iconst (v := (1 : Int32)) C dL_isMessage_282 (by decide) ?_
            refine g_icmp_ne (tgt := 291) C dL_isMessage_283 (by decide) (fun c283 => ?_) (fun c283 => ?_)
            · replace h := (if_neg c283).symm.trans h
              refine g_bipush (v := (38 : Int32)) C dL_isMessage_291 (by decide) ?_
              refine g_goto (tgt := 364) C dL_isMessage_293 (by decide) ?_
              refine g_lv [0, 1, 2, 3, 4, 5, 6, 7, 8, 9, 10] rfl ?_
              exact lb_L_isMessage_364 hl C hEv hN hr hz hI0 hQ0 hm0 hp0 hmk202 hk202 h
            · replace h := (if_pos c283).symm.trans h
              refine g_bipush (v := (44 : Int32)) C dL_isMessage_286 (by decide) ?_
              refine g_goto (tgt := 364) C dL_isMessage_288 (by decide) ?_
              refine g_lv [0, 1, 2, 3, 4, 5, 6, 7, 8, 9, 10] rfl ?_
              exact lb_L_isMessage_364 hl C hEv hN hr hz hI0 hQ0 hm0 hp0 hmk202 hk202 h
          · replace h := (if_pos c272).symm.trans h
            refine g_bipush (v := (41 : Int32)) C dL_isMessage_275 (by decide) ?_
            refine g_goto (tgt := 364) C dL_isMessage_277 (by decide) ?_
            refine g_lv [0, 1, 2, 3, 4, 5, 6, 7, 8, 9, 10] rfl ?_
            exact lb_L_isMessage_364 hl C hEv hN hr hz hI0 hQ0 hm0 hp0 hmk202 hk202 h
      · replace h := (if_pos c223).symm.trans h
        refine g_iload C dL_isMessage_226 10 rfl ?_
        refine g_if_ne (tgt := 236) C dL_isMessage_228 (by decide) (fun c228 => ?_) (fun c228 => ?_)
        · replace h := (if_neg c228).symm.trans h
          refine g_iload C dL_isMessage_236 10 rfl ?_
          refine g_iconst (v := (1 : Int32)) C dL_isMessage_238 (by decide) ?_
          refine g_icmp_ne (tgt := 247) C dL_isMessage_239 (by decide) (fun c239 => ?_) (fun c239 => ?_)
          · replace h := (if_neg c239).symm.trans h
            refine g_iload C dL_isMessage_247 10 rfl ?_
            refine g_iconst (v := (2 : Int32)) C dL_isMessage_249 (by decide) ?_
            refine g_icmp_ne (tgt := 258) C dL_isMessage_250 (by decide) (fun c250 => ?_) (fun c250 => ?_)
            · replace h := (if_neg c250).symm.trans h
              refine g_bipush (v := (38 : Int32)) C dL_isMessage_258 (by decide) ?_
              refine g_goto (tgt := 364) C dL_isMessage_260 (by decide) ?_
              refine g_lv [0, 1, 2, 3, 4, 5, 6, 7, 8, 9, 10] rfl ?_
              exact lb_L_isMessage_364 hl C hEv hN hr hz hI0 hQ0 hm0 hp0 hmk202 hk202 h
            · replace h := (if_pos c250).symm.trans h
              refine g_bipush (v := (44 : Int32)) C dL_isMessage_253 (by decide) ?_
              refine g_goto (tgt := 364) C dL_isMessage_255 (by decide) ?_
              refine g_lv [0, 1, 2, 3, 4, 5, 6, 7, 8, 9, 10] rfl ?_
              exact lb_L_isMessage_364 hl C hEv hN hr hz hI0 hQ0 hm0 hp0 hmk202 hk202 h
          · replace h := (if_pos c239).symm.trans h
            refine g_bipush (v := (54 : Int32)) C dL_isMessage_242 (by decide) ?_
            refine g_goto (tgt := 364) C dL_isMessage_244 (by decide) ?_
            refine g_lv [0, 1, 2, 3, 4, 5, 6, 7, 8, 9, 10] rfl ?_
            exact lb_L_isMessage_364 hl C hEv hN hr hz hI0 hQ0 hm0 hp0 hmk202 hk202 h
        · replace h := (if_pos c228).symm.trans h
          refine g_bipush (v := (11 : Int32)) C dL_isMessage_231 (by decide) ?_
          refine g_goto (tgt := 364) C dL_isMessage_233 (by decide) ?_
          refine g_lv [0, 1, 2, 3, 4, 5, 6, 7, 8, 9, 10] rfl ?_
          exact lb_L_isMessage_364 hl C hEv hN hr hz hI0 hQ0 hm0 hp0 hmk202 hk202 h
    · replace h := (if_pos c212).symm.trans h
      refine g_bipush (v := (7 : Int32)) C dL_isMessage_215 (by decide) ?_
      refine g_goto (tgt := 364) C dL_isMessage_217 (by decide) ?_
      refine g_lv [0, 1, 2, 3, 4, 5, 6, 7, 8, 9, 10] rfl ?_
      exact lb_L_isMessage_364 hl C hEv hN hr hz hI0 hQ0 hm0 hp0 hmk202 hk202 h
noncomputable def l_L_isMessage_202  (w : Nat) : Nat → MP → NC → AS → Int32 → Int32 → Int64 → Int32 → Int32 → Int32 → Int32 → Int32 → Int32 → Option (((MP × NC) × AS) × Int32)
  | 0 => fun _ _ _ _ _ _ _ _ _ _ _ _ => none
  | n + 1 => fun μ ν a x1 x2 x6 x8 x9 x10 x11 x12 x13 => b_L_isMessage_202  (l_L_isMessage_202  w n) w μ ν a x1 x2 x6 x8 x9 x10 x11 x12 x13
theorem ml_L_isMessage_202 {w : Nat} {r0 : ((MP × NC) × AS) × Int32}   : ∀ (n : Nat) (μ : MP) (ν : NC) (a : AS) (x1 : Int32) (x2 : Int32) (x6 : Int64) (x8 : Int32) (x9 : Int32) (x10 : Int32) (x11 : Int32) (x12 : Int32) (x13 : Int32), l_L_isMessage_202  w n μ ν a x1 x2 x6 x8 x9 x10 x11 x12 x13 = some r0 → mn ν r0.1.1.2 := by
  intro n
  induction n with
  | zero => exact fun μ ν a x1 x2 x6 x8 x9 x10 x11 x12 x13 h => absurd (show (none : Option (((MP × NC) × AS) × Int32)) = some r0 from h) (by simp)
  | succ n ih => exact fun μ ν a x1 x2 x6 x8 x9 x10 x11 x12 x13 h => mb_L_isMessage_202  ih h
theorem ll_L_isMessage_202 {p : Program} {l : Launch} (hl : l.stackTraces = false) {e : Env} {s : State} {m : MethodId} {args : Array Value} {below : List Frame} {meth : Method} {c : Code} {D : va_G} {E : Nat → ClassId} {sz : Nat} {μ0 : MP} {ν0 : NC} {a0 : AS} {Ad0 : Nat → Nat → Nat} {Q : Nat → Nat} {B : Nat × (Nat → Nat)} {w : Nat} {r0 : ((MP × NC) × AS) × Int32} (C : cx p s m args meth c D E (Aof (zS μ0 ν0 a0 Ad0) [] s.heap.size) cL_isMessage 18 "TradeLineLaw") (hEv : eV (Ad0 30 0) (Ad0 31 0) B (Aof (zS μ0 ν0 a0 Ad0) [] s.heap.size) s s.heap) (hN : vN s) (hr : meth.sig.returnType = (some .boolean)) (hz : s.heap.size = sz) (hI0 : lwI ν0) (hQ0 : lwQ Ad0 Q)   : ∀ (n : Nat) (μ : MP) (ν : NC) (a : AS) (Ad : Nat → Nat → Nat) (x1 : Int32) (x2 : Int32) (x6 : Int64) (x8 : Int32) (x9 : Int32) (x10 : Int32) (x11 : Int32) (x12 : Int32) (x13 : Int32), mn ν0 ν → kp ν0 Ad0 Ad → l_L_isMessage_202  w n μ ν a x1 x2 x6 x8 x9 x10 x11 x12 x13 = some r0 → G p l e ({ frames := 10, cells := kc r0.1.1.2 - kc ν0, slots := ks r0.1.1.2 - ks ν0, locals := 192 } : Room) s m args below meth c D E (Aof (zS μ0 ν0 a0 Ad0) [] s.heap.size) 18 (MQ below (cQ D E sz (zS μ0 ν0 a0 Ad0) [] (pI (fun r u => r = r0.2 ∧ ∃ A1, u = (zS r0.1.1.1 r0.1.1.2 r0.1.2 A1, []) ∧ kp ν0 Ad0 A1))) args s (kc r0.1.1.2 - kc ν0) (ks r0.1.1.2 - ks ν0) (Aof (zS μ0 ν0 a0 Ad0) [] s.heap.size)) (zS μ ν a Ad) [] (kc ν - kc ν0) (ks ν - ks ν0) 202 [(0, .ref (Q 0)), (1, .int x1), (2, .int x2), (5, .ref (Q 13)), (6, .long x6), (8, .int x8), (9, .int x9), (10, .int x10), (11, .int x11), (12, .int x12), (13, .int x13)] [] := by
  intro n
  induction n with
  | zero => exact fun μ ν a Ad x1 x2 x6 x8 x9 x10 x11 x12 x13 hm0 hp0 h => absurd (show (none : Option (((MP × NC) × AS) × Int32)) = some r0 from h) (by simp)
  | succ n ih => exact fun μ ν a Ad x1 x2 x6 x8 x9 x10 x11 x12 x13 hm0 hp0 h => lb_L_isMessage_202 (w := w) hl C hEv hN hr hz hI0 hQ0 hm0 hp0  (fun μ ν a x1 x2 x6 x8 x9 x10 x11 x12 x13 h => ml_L_isMessage_202  n μ ν a x1 x2 x6 x8 x9 x10 x11 x12 x13 h) ih h
noncomputable def b_L_isMessage_197  (w : Nat) (μ : MP) (ν : NC) (a : AS) (x1 : Int32) (x2 : Int32) (x6 : Int64) (x8 : Int32) (x9 : Int32) (x10 : Int32) (x11 : Int32) (s0 : Int32) : Option (((MP × NC) × AS) × Int32) := l_L_isMessage_202  w w μ ν a x1 x2 x6 x8 x9 x10 x11 s0 (0 : Int32)
theorem mb_L_isMessage_197 {w : Nat} {μ : MP} {ν : NC} {a : AS} {x1 : Int32} {x2 : Int32} {x6 : Int64} {x8 : Int32} {x9 : Int32} {x10 : Int32} {x11 : Int32} {s0 : Int32} {r0 : ((MP × NC) × AS) × Int32}   (h : b_L_isMessage_197  w μ ν a x1 x2 x6 x8 x9 x10 x11 s0 = some r0) : mn ν r0.1.1.2 := by
  unfold b_L_isMessage_197 at h
  exact ml_L_isMessage_202  _ _ _ _ _ _ _ _ _ _ _ _ _ h
set_option maxHeartbeats 4000000 in
set_option maxRecDepth 100000 in
theorem lb_L_isMessage_197 {p : Program} {l : Launch} (hl : l.stackTraces = false) {e : Env} {s : State} {m : MethodId} {args : Array Value} {below : List Frame} {meth : Method} {c : Code} {D : va_G} {E : Nat → ClassId} {sz : Nat} {μ0 : MP} {ν0 : NC} {a0 : AS} {Ad0 : Nat → Nat → Nat} {Q : Nat → Nat} {B : Nat × (Nat → Nat)} {w : Nat} {r0 : ((MP × NC) × AS) × Int32} (C : cx p s m args meth c D E (Aof (zS μ0 ν0 a0 Ad0) [] s.heap.size) cL_isMessage 18 "TradeLineLaw") (hEv : eV (Ad0 30 0) (Ad0 31 0) B (Aof (zS μ0 ν0 a0 Ad0) [] s.heap.size) s s.heap) (hN : vN s) (hr : meth.sig.returnType = (some .boolean)) (hz : s.heap.size = sz) (hI0 : lwI ν0) (hQ0 : lwQ Ad0 Q) {μ : MP} {ν : NC} {a : AS} {Ad : Nat → Nat → Nat} (hm0 : mn ν0 ν) (hp0 : kp ν0 Ad0 Ad) {x1 : Int32} {x2 : Int32} {x6 : Int64} {x8 : Int32} {x9 : Int32} {x10 : Int32} {x11 : Int32} {s0 : Int32}   (h : b_L_isMessage_197  w μ ν a x1 x2 x6 x8 x9 x10 x11 s0 = some r0) : G p l e ({ frames := 10, cells := kc r0.1.1.2 - kc ν0, slots := ks r0.1.1.2 - ks ν0, locals := 192 } : Room) s m args below meth c D E (Aof (zS μ0 ν0 a0 Ad0) [] s.heap.size) 18 (MQ below (cQ D E sz (zS μ0 ν0 a0 Ad0) [] (pI (fun r u => r = r0.2 ∧ ∃ A1, u = (zS r0.1.1.1 r0.1.1.2 r0.1.2 A1, []) ∧ kp ν0 Ad0 A1))) args s (kc r0.1.1.2 - kc ν0) (ks r0.1.1.2 - ks ν0) (Aof (zS μ0 ν0 a0 Ad0) [] s.heap.size)) (zS μ ν a Ad) [] (kc ν - kc ν0) (ks ν - ks ν0) 197 [(0, .ref (Q 0)), (1, .int x1), (2, .int x2), (5, .ref (Q 13)), (6, .long x6), (8, .int x8), (9, .int x9), (10, .int x10), (11, .int x11)] [.int s0] := by
  have m0 := mb_L_isMessage_197  h
  have e1 := m0.2.1; have e2 := m0.2.2.1; have e3 := hm0.2.1; have e4 := hm0.2.2.1
  have hI := lwI_mn hI0 hm0; have hQ := lwQ_kp hI0 hp0 hQ0
  unfold b_L_isMessage_197 at h
  refine g_istore (lv' := [(12, .int s0), (0, .ref (Q 0)), (1, .int x1), (2, .int x2), (5, .ref (Q 13)), (6, .long x6), (8, .int x8), (9, .int x9), (10, .int x10), (11, .int x11)]) C dL_isMessage_197 (by decide) rfl ?_
  refine g_iconst (v := (0 : Int32)) C dL_isMessage_199 (by decide) ?_
  refine g_istore (lv' := [(13, .int (0 : Int32)), (12, .int s0), (0, .ref (Q 0)), (1, .int x1), (2, .int x2), (5, .ref (Q 13)), (6, .long x6), (8, .int x8), (9, .int x9), (10, .int x10), (11, .int x11)]) C dL_isMessage_200 (by decide) rfl ?_
  refine g_lv [2, 3, 4, 5, 6, 7, 8, 9, 10, 1, 0] rfl ?_
  exact ll_L_isMessage_202 hl C hEv hN hr hz hI0 hQ0  w _ _ _ _ _ _ _ _ _ _ _ _ _ hm0 hp0 h
noncomputable def b_L_isMessage_192  (w : Nat) (μ : MP) (ν : NC) (a : AS) (x1 : Int32) (x2 : Int32) (x6 : Int64) (x8 : Int32) (x9 : Int32) (x10 : Int32) (x11 : Int32)  : Option (((MP × NC) × AS) × Int32) := b_L_isMessage_197  w μ ν a x1 x2 x6 x8 x9 x10 x11 (1 : Int32)
theorem mb_L_isMessage_192 {w : Nat} {μ : MP} {ν : NC} {a : AS} {x1 : Int32} {x2 : Int32} {x6 : Int64} {x8 : Int32} {x9 : Int32} {x10 : Int32} {x11 : Int32}  {r0 : ((MP × NC) × AS) × Int32}   (h : b_L_isMessage_192  w μ ν a x1 x2 x6 x8 x9 x10 x11  = some r0) : mn ν r0.1.1.2 := by
  unfold b_L_isMessage_192 at h
  exact mb_L_isMessage_197  h
set_option maxHeartbeats 4000000 in
set_option maxRecDepth 100000 in
theorem lb_L_isMessage_192 {p : Program} {l : Launch} (hl : l.stackTraces = false) {e : Env} {s : State} {m : MethodId} {args : Array Value} {below : List Frame} {meth : Method} {c : Code} {D : va_G} {E : Nat → ClassId} {sz : Nat} {μ0 : MP} {ν0 : NC} {a0 : AS} {Ad0 : Nat → Nat → Nat} {Q : Nat → Nat} {B : Nat × (Nat → Nat)} {w : Nat} {r0 : ((MP × NC) × AS) × Int32} (C : cx p s m args meth c D E (Aof (zS μ0 ν0 a0 Ad0) [] s.heap.size) cL_isMessage 18 "TradeLineLaw") (hEv : eV (Ad0 30 0) (Ad0 31 0) B (Aof (zS μ0 ν0 a0 Ad0) [] s.heap.size) s s.heap) (hN : vN s) (hr : meth.sig.returnType = (some .boolean)) (hz : s.heap.size = sz) (hI0 : lwI ν0) (hQ0 : lwQ Ad0 Q) {μ : MP} {ν : NC} {a : AS} {Ad : Nat → Nat → Nat} (hm0 : mn ν0 ν) (hp0 : kp ν0 Ad0 Ad) {x1 : Int32} {x2 : Int32} {x6 : Int64} {x8 : Int32} {x9 : Int32} {x10 : Int32} {x11 : Int32}    (h : b_L_isMessage_192  w μ ν a x1 x2 x6 x8 x9 x10 x11  = some r0) : G p l e ({ frames := 10, cells := kc r0.1.1.2 - kc ν0, slots := ks r0.1.1.2 - ks ν0, locals := 192 } : Room) s m args below meth c D E (Aof (zS μ0 ν0 a0 Ad0) [] s.heap.size) 18 (MQ below (cQ D E sz (zS μ0 ν0 a0 Ad0) [] (pI (fun r u => r = r0.2 ∧ ∃ A1, u = (zS r0.1.1.1 r0.1.1.2 r0.1.2 A1, []) ∧ kp ν0 Ad0 A1))) args s (kc r0.1.1.2 - kc ν0) (ks r0.1.1.2 - ks ν0) (Aof (zS μ0 ν0 a0 Ad0) [] s.heap.size)) (zS μ ν a Ad) [] (kc ν - kc ν0) (ks ν - ks ν0) 192 [(0, .ref (Q 0)), (1, .int x1), (2, .int x2), (5, .ref (Q 13)), (6, .long x6), (8, .int x8), (9, .int x9), (10, .int x10), (11, .int x11)] [] := by
  have m0 := mb_L_isMessage_192  h
  have e1 := m0.2.1; have e2 := m0.2.2.1; have e3 := hm0.2.1; have e4 := hm0.2.2.1
  have hI := lwI_mn hI0 hm0; have hQ := lwQ_kp hI0 hp0 hQ0
  unfold b_L_isMessage_192 at h
  refine g_iconst (v := (1 : Int32)) C dL_isMessage_192 (by decide) ?_
  refine g_goto (tgt := 197) C dL_isMessage_193 (by decide) ?_
  refine g_lv [0, 1, 2, 3, 4, 5, 6, 7, 8] rfl ?_
  exact lb_L_isMessage_197 hl C hEv hN hr hz hI0 hQ0 hm0 hp0  h
noncomputable def b_L_isMessage_154  (w : Nat) (μ : MP) (ν : NC) (a : AS) (x1 : Int32) (x2 : Int32) (x6 : Int64) (x8 : Int32) (x9 : Int32) (x10 : Int32) (x11 : Int32) (s0 : Int32) (s1 : Int32) : Option (((MP × NC) × AS) × Int32) := b_L_isMessage_197  w μ ν a x1 x2 x6 x8 x9 x10 x11 (s1 + s0)
theorem mb_L_isMessage_154 {w : Nat} {μ : MP} {ν : NC} {a : AS} {x1 : Int32} {x2 : Int32} {x6 : Int64} {x8 : Int32} {x9 : Int32} {x10 : Int32} {x11 : Int32} {s0 : Int32} {s1 : Int32} {r0 : ((MP × NC) × AS) × Int32}   (h : b_L_isMessage_154  w μ ν a x1 x2 x6 x8 x9 x10 x11 s0 s1 = some r0) : mn ν r0.1.1.2 := by
  unfold b_L_isMessage_154 at h
  exact mb_L_isMessage_197  h
set_option maxHeartbeats 4000000 in
set_option maxRecDepth 100000 in
theorem lb_L_isMessage_154 {p : Program} {l : Launch} (hl : l.stackTraces = false) {e : Env} {s : State} {m : MethodId} {args : Array Value} {below : List Frame} {meth : Method} {c : Code} {D : va_G} {E : Nat → ClassId} {sz : Nat} {μ0 : MP} {ν0 : NC} {a0 : AS} {Ad0 : Nat → Nat → Nat} {Q : Nat → Nat} {B : Nat × (Nat → Nat)} {w : Nat} {r0 : ((MP × NC) × AS) × Int32} (C : cx p s m args meth c D E (Aof (zS μ0 ν0 a0 Ad0) [] s.heap.size) cL_isMessage 18 "TradeLineLaw") (hEv : eV (Ad0 30 0) (Ad0 31 0) B (Aof (zS μ0 ν0 a0 Ad0) [] s.heap.size) s s.heap) (hN : vN s) (hr : meth.sig.returnType = (some .boolean)) (hz : s.heap.size = sz) (hI0 : lwI ν0) (hQ0 : lwQ Ad0 Q) {μ : MP} {ν : NC} {a : AS} {Ad : Nat → Nat → Nat} (hm0 : mn ν0 ν) (hp0 : kp ν0 Ad0 Ad) {x1 : Int32} {x2 : Int32} {x6 : Int64} {x8 : Int32} {x9 : Int32} {x10 : Int32} {x11 : Int32} {s0 : Int32} {s1 : Int32}   (h : b_L_isMessage_154  w μ ν a x1 x2 x6 x8 x9 x10 x11 s0 s1 = some r0) : G p l e ({ frames := 10, cells := kc r0.1.1.2 - kc ν0, slots := ks r0.1.1.2 - ks ν0, locals := 192 } : Room) s m args below meth c D E (Aof (zS μ0 ν0 a0 Ad0) [] s.heap.size) 18 (MQ below (cQ D E sz (zS μ0 ν0 a0 Ad0) [] (pI (fun r u => r = r0.2 ∧ ∃ A1, u = (zS r0.1.1.1 r0.1.1.2 r0.1.2 A1, []) ∧ kp ν0 Ad0 A1))) args s (kc r0.1.1.2 - kc ν0) (ks r0.1.1.2 - ks ν0) (Aof (zS μ0 ν0 a0 Ad0) [] s.heap.size)) (zS μ ν a Ad) [] (kc ν - kc ν0) (ks ν - ks ν0) 154 [(0, .ref (Q 0)), (1, .int x1), (2, .int x2), (5, .ref (Q 13)), (6, .long x6), (8, .int x8), (9, .int x9), (10, .int x10), (11, .int x11)] [.int s0, .int s1] := by
  have m0 := mb_L_isMessage_154  h
  have e1 := m0.2.1; have e2 := m0.2.2.1; have e3 := hm0.2.1; have e4 := hm0.2.2.1
  have hI := lwI_mn hI0 hm0; have hQ := lwQ_kp hI0 hp0 hQ0
  unfold b_L_isMessage_154 at h
  refine g_iadd C dL_isMessage_154 ?_
  refine g_goto (tgt := 197) C dL_isMessage_155 (by decide) ?_
  refine g_lv [0, 1, 2, 3, 4, 5, 6, 7, 8] rfl ?_
  exact lb_L_isMessage_197 hl C hEv hN hr hz hI0 hQ0 hm0 hp0  h
noncomputable def b_L_isMessage_132  (w : Nat) (μ : MP) (ν : NC) (a : AS) (x1 : Int32) (x2 : Int32) (x6 : Int64) (x8 : Int32) (x9 : Int32) (x10 : Int32) (x11 : Int32) (s0 : Int32) : Option (((MP × NC) × AS) × Int32) := b_L_isMessage_154  w μ ν a x1 x2 x6 x8 x9 x10 x11 (1 : Int32) s0
theorem mb_L_isMessage_132 {w : Nat} {μ : MP} {ν : NC} {a : AS} {x1 : Int32} {x2 : Int32} {x6 : Int64} {x8 : Int32} {x9 : Int32} {x10 : Int32} {x11 : Int32} {s0 : Int32} {r0 : ((MP × NC) × AS) × Int32}   (h : b_L_isMessage_132  w μ ν a x1 x2 x6 x8 x9 x10 x11 s0 = some r0) : mn ν r0.1.1.2 := by
  unfold b_L_isMessage_132 at h
  exact mb_L_isMessage_154  h
set_option maxHeartbeats 4000000 in
set_option maxRecDepth 100000 in
theorem lb_L_isMessage_132 {p : Program} {l : Launch} (hl : l.stackTraces = false) {e : Env} {s : State} {m : MethodId} {args : Array Value} {below : List Frame} {meth : Method} {c : Code} {D : va_G} {E : Nat → ClassId} {sz : Nat} {μ0 : MP} {ν0 : NC} {a0 : AS} {Ad0 : Nat → Nat → Nat} {Q : Nat → Nat} {B : Nat × (Nat → Nat)} {w : Nat} {r0 : ((MP × NC) × AS) × Int32} (C : cx p s m args meth c D E (Aof (zS μ0 ν0 a0 Ad0) [] s.heap.size) cL_isMessage 18 "TradeLineLaw") (hEv : eV (Ad0 30 0) (Ad0 31 0) B (Aof (zS μ0 ν0 a0 Ad0) [] s.heap.size) s s.heap) (hN : vN s) (hr : meth.sig.returnType = (some .boolean)) (hz : s.heap.size = sz) (hI0 : lwI ν0) (hQ0 : lwQ Ad0 Q) {μ : MP} {ν : NC} {a : AS} {Ad : Nat → Nat → Nat} (hm0 : mn ν0 ν) (hp0 : kp ν0 Ad0 Ad) {x1 : Int32} {x2 : Int32} {x6 : Int64} {x8 : Int32} {x9 : Int32} {x10 : Int32} {x11 : Int32} {s0 : Int32}   (h : b_L_isMessage_132  w μ ν a x1 x2 x6 x8 x9 x10 x11 s0 = some r0) : G p l e ({ frames := 10, cells := kc r0.1.1.2 - kc ν0, slots := ks r0.1.1.2 - ks ν0, locals := 192 } : Room) s m args below meth c D E (Aof (zS μ0 ν0 a0 Ad0) [] s.heap.size) 18 (MQ below (cQ D E sz (zS μ0 ν0 a0 Ad0) [] (pI (fun r u => r = r0.2 ∧ ∃ A1, u = (zS r0.1.1.1 r0.1.1.2 r0.1.2 A1, []) ∧ kp ν0 Ad0 A1))) args s (kc r0.1.1.2 - kc ν0) (ks r0.1.1.2 - ks ν0) (Aof (zS μ0 ν0 a0 Ad0) [] s.heap.size)) (zS μ ν a Ad) [] (kc ν - kc ν0) (ks ν - ks ν0) 132 [(0, .ref (Q 0)), (1, .int x1), (2, .int x2), (5, .ref (Q 13)), (6, .long x6), (8, .int x8), (9, .int x9), (10, .int x10), (11, .int x11)] [.int s0] := by
  have m0 := mb_L_isMessage_132  h
  have e1 := m0.2.1; have e2 := m0.2.2.1; have e3 := hm0.2.1; have e4 := hm0.2.2.1
  have hI := lwI_mn hI0 hm0; have hQ := lwQ_kp hI0 hp0 hQ0
  unfold b_L_isMessage_132 at h
  refine g_iconst (v := (1 : Int32)) C dL_isMessage_132 (by decide) ?_
  refine g_goto (tgt := 154) C dL_isMessage_133 (by decide) ?_
  refine g_lv [0, 1, 2, 3, 4, 5, 6, 7, 8] rfl ?_
  exact lb_L_isMessage_154 hl C hEv hN hr hz hI0 hQ0 hm0 hp0  h
noncomputable def b_L_isMessage_149  (w : Nat) (μ : MP) (ν : NC) (a : AS) (x1 : Int32) (x2 : Int32) (x6 : Int64) (x8 : Int32) (x9 : Int32) (x10 : Int32) (x11 : Int32) (s0 : Int32) : Option (((MP × NC) × AS) × Int32) := b_L_isMessage_154  w μ ν a x1 x2 x6 x8 x9 x10 x11 (2 : Int32) s0
theorem mb_L_isMessage_149 {w : Nat} {μ : MP} {ν : NC} {a : AS} {x1 : Int32} {x2 : Int32} {x6 : Int64} {x8 : Int32} {x9 : Int32} {x10 : Int32} {x11 : Int32} {s0 : Int32} {r0 : ((MP × NC) × AS) × Int32}   (h : b_L_isMessage_149  w μ ν a x1 x2 x6 x8 x9 x10 x11 s0 = some r0) : mn ν r0.1.1.2 := by
  unfold b_L_isMessage_149 at h
  exact mb_L_isMessage_154  h
set_option maxHeartbeats 4000000 in
set_option maxRecDepth 100000 in
theorem lb_L_isMessage_149 {p : Program} {l : Launch} (hl : l.stackTraces = false) {e : Env} {s : State} {m : MethodId} {args : Array Value} {below : List Frame} {meth : Method} {c : Code} {D : va_G} {E : Nat → ClassId} {sz : Nat} {μ0 : MP} {ν0 : NC} {a0 : AS} {Ad0 : Nat → Nat → Nat} {Q : Nat → Nat} {B : Nat × (Nat → Nat)} {w : Nat} {r0 : ((MP × NC) × AS) × Int32} (C : cx p s m args meth c D E (Aof (zS μ0 ν0 a0 Ad0) [] s.heap.size) cL_isMessage 18 "TradeLineLaw") (hEv : eV (Ad0 30 0) (Ad0 31 0) B (Aof (zS μ0 ν0 a0 Ad0) [] s.heap.size) s s.heap) (hN : vN s) (hr : meth.sig.returnType = (some .boolean)) (hz : s.heap.size = sz) (hI0 : lwI ν0) (hQ0 : lwQ Ad0 Q) {μ : MP} {ν : NC} {a : AS} {Ad : Nat → Nat → Nat} (hm0 : mn ν0 ν) (hp0 : kp ν0 Ad0 Ad) {x1 : Int32} {x2 : Int32} {x6 : Int64} {x8 : Int32} {x9 : Int32} {x10 : Int32} {x11 : Int32} {s0 : Int32}   (h : b_L_isMessage_149  w μ ν a x1 x2 x6 x8 x9 x10 x11 s0 = some r0) : G p l e ({ frames := 10, cells := kc r0.1.1.2 - kc ν0, slots := ks r0.1.1.2 - ks ν0, locals := 192 } : Room) s m args below meth c D E (Aof (zS μ0 ν0 a0 Ad0) [] s.heap.size) 18 (MQ below (cQ D E sz (zS μ0 ν0 a0 Ad0) [] (pI (fun r u => r = r0.2 ∧ ∃ A1, u = (zS r0.1.1.1 r0.1.1.2 r0.1.2 A1, []) ∧ kp ν0 Ad0 A1))) args s (kc r0.1.1.2 - kc ν0) (ks r0.1.1.2 - ks ν0) (Aof (zS μ0 ν0 a0 Ad0) [] s.heap.size)) (zS μ ν a Ad) [] (kc ν - kc ν0) (ks ν - ks ν0) 149 [(0, .ref (Q 0)), (1, .int x1), (2, .int x2), (5, .ref (Q 13)), (6, .long x6), (8, .int x8), (9, .int x9), (10, .int x10), (11, .int x11)] [.int s0] := by
  have m0 := mb_L_isMessage_149  h
  have e1 := m0.2.1; have e2 := m0.2.2.1; have e3 := hm0.2.1; have e4 := hm0.2.2.1
  have hI := lwI_mn hI0 hm0; have hQ := lwQ_kp hI0 hp0 hQ0
  unfold b_L_isMessage_149 at h
  refine g_iconst (v := (2 : Int32)) C dL_isMessage_149 (by decide) ?_
  refine g_goto (tgt := 154) C dL_isMessage_150 (by decide) ?_
  refine g_lv [0, 1, 2, 3, 4, 5, 6, 7, 8] rfl ?_
  exact lb_L_isMessage_154 hl C hEv hN hr hz hI0 hQ0 hm0 hp0  h
noncomputable def b_L_isMessage_86  (w : Nat) (μ : MP) (ν : NC) (a : AS) (x1 : Int32) (x2 : Int32) (x6 : Int64) (x8 : Int32) (x9 : Int32) (x10 : Int32) (x11 : Int32) (s0 : Int32) : Option (((MP × NC) × AS) × Int32) := (if s0 = x2 then ((if x8 = (8 : Int32) then ((if x9 = (1 : Int32) then ((f_L_part w a x6 (29 : Int32)).bind (fun v31 => b_L_isMessage_154  w μ ν a x1 x2 x6 x8 x9 x10 x11 ((1 : Int32) + ((4 : Int32) * v31)) (2 : Int32))) else ((if x9 = (2 : Int32) then (b_L_isMessage_132  w μ ν a x1 x2 x6 x8 x9 x10 x11 (2 : Int32)) else ((if x9 = (5 : Int32) then (b_L_isMessage_132  w μ ν a x1 x2 x6 x8 x9 x10 x11 (2 : Int32)) else ((if x9 = (3 : Int32) then (b_L_isMessage_149  w μ ν a x1 x2 x6 x8 x9 x10 x11 (2 : Int32)) else ((if x9 = (6 : Int32) then (b_L_isMessage_149  w μ ν a x1 x2 x6 x8 x9 x10 x11 (2 : Int32)) else (b_L_isMessage_154  w μ ν a x1 x2 x6 x8 x9 x10 x11 (0 : Int32) (2 : Int32)))))))))))) else ((if x8 = (5 : Int32) then (b_L_isMessage_197  w μ ν a x1 x2 x6 x8 x9 x10 x11 (4 : Int32)) else ((if x8 = (7 : Int32) then (b_L_isMessage_197  w μ ν a x1 x2 x6 x8 x9 x10 x11 (3 : Int32)) else ((if x8 = (3 : Int32) then (b_L_isMessage_192  w μ ν a x1 x2 x6 x8 x9 x10 x11) else ((if x8 = (6 : Int32) then (b_L_isMessage_192  w μ ν a x1 x2 x6 x8 x9 x10 x11) else (b_L_isMessage_197  w μ ν a x1 x2 x6 x8 x9 x10 x11 (0 : Int32)))))))))))) else (some (((μ, ν), a), (0 : Int32))))
theorem mb_L_isMessage_86 {w : Nat} {μ : MP} {ν : NC} {a : AS} {x1 : Int32} {x2 : Int32} {x6 : Int64} {x8 : Int32} {x9 : Int32} {x10 : Int32} {x11 : Int32} {s0 : Int32} {r0 : ((MP × NC) × AS) × Int32}   (h : b_L_isMessage_86  w μ ν a x1 x2 x6 x8 x9 x10 x11 s0 = some r0) : mn ν r0.1.1.2 := by
  unfold b_L_isMessage_86 at h
  by_cases c87 : s0 = x2
  · replace h := (if_pos c87).symm.trans h
    by_cases c96 : x8 = (8 : Int32)
    · replace h := (if_pos c96).symm.trans h
      by_cases c103 : x9 = (1 : Int32)
      · replace h := (if_pos c103).symm.trans h
        obtain ⟨v31, hv31, h⟩ := bind_of h
        exact mb_L_isMessage_154  h
      · replace h := (if_neg c103).symm.trans h
        by_cases c123 : x9 = (2 : Int32)
        · replace h := (if_pos c123).symm.trans h
          exact mb_L_isMessage_132  h
        · replace h := (if_neg c123).symm.trans h
          by_cases c129 : x9 = (5 : Int32)
          · replace h := (if_pos c129).symm.trans h
            exact mb_L_isMessage_132  h
          · replace h := (if_neg c129).symm.trans h
            by_cases c139 : x9 = (3 : Int32)
            · replace h := (if_pos c139).symm.trans h
              exact mb_L_isMessage_149  h
            · replace h := (if_neg c139).symm.trans h
              by_cases c146 : x9 = (6 : Int32)
              · replace h := (if_pos c146).symm.trans h
                exact mb_L_isMessage_149  h
              · replace h := (if_neg c146).symm.trans h
                exact mb_L_isMessage_154  h
    · replace h := (if_neg c96).symm.trans h
      by_cases c161 : x8 = (5 : Int32)
      · replace h := (if_pos c161).symm.trans h
        exact mb_L_isMessage_197  h
      · replace h := (if_neg c161).symm.trans h
        by_cases c172 : x8 = (7 : Int32)
        · replace h := (if_pos c172).symm.trans h
          exact mb_L_isMessage_197  h
        · replace h := (if_neg c172).symm.trans h
          by_cases c182 : x8 = (3 : Int32)
          · replace h := (if_pos c182).symm.trans h
            exact mb_L_isMessage_192  h
          · replace h := (if_neg c182).symm.trans h
            by_cases c189 : x8 = (6 : Int32)
            · replace h := (if_pos c189).symm.trans h
              exact mb_L_isMessage_192  h
            · replace h := (if_neg c189).symm.trans h
              exact mb_L_isMessage_197  h
  · replace h := (if_neg c87).symm.trans h
    obtain rfl := Option.some.inj h
    exact mn_rfl _
set_option maxHeartbeats 4000000 in
set_option maxRecDepth 100000 in
theorem lb_L_isMessage_86 {p : Program} {l : Launch} (hl : l.stackTraces = false) {e : Env} {s : State} {m : MethodId} {args : Array Value} {below : List Frame} {meth : Method} {c : Code} {D : va_G} {E : Nat → ClassId} {sz : Nat} {μ0 : MP} {ν0 : NC} {a0 : AS} {Ad0 : Nat → Nat → Nat} {Q : Nat → Nat} {B : Nat × (Nat → Nat)} {w : Nat} {r0 : ((MP × NC) × AS) × Int32} (C : cx p s m args meth c D E (Aof (zS μ0 ν0 a0 Ad0) [] s.heap.size) cL_isMessage 18 "TradeLineLaw") (hEv : eV (Ad0 30 0) (Ad0 31 0) B (Aof (zS μ0 ν0 a0 Ad0) [] s.heap.size) s s.heap) (hN : vN s) (hr : meth.sig.returnType = (some .boolean)) (hz : s.heap.size = sz) (hI0 : lwI ν0) (hQ0 : lwQ Ad0 Q) {μ : MP} {ν : NC} {a : AS} {Ad : Nat → Nat → Nat} (hm0 : mn ν0 ν) (hp0 : kp ν0 Ad0 Ad) {x1 : Int32} {x2 : Int32} {x6 : Int64} {x8 : Int32} {x9 : Int32} {x10 : Int32} {x11 : Int32} {s0 : Int32}   (h : b_L_isMessage_86  w μ ν a x1 x2 x6 x8 x9 x10 x11 s0 = some r0) : G p l e ({ frames := 10, cells := kc r0.1.1.2 - kc ν0, slots := ks r0.1.1.2 - ks ν0, locals := 192 } : Room) s m args below meth c D E (Aof (zS μ0 ν0 a0 Ad0) [] s.heap.size) 18 (MQ below (cQ D E sz (zS μ0 ν0 a0 Ad0) [] (pI (fun r u => r = r0.2 ∧ ∃ A1, u = (zS r0.1.1.1 r0.1.1.2 r0.1.2 A1, []) ∧ kp ν0 Ad0 A1))) args s (kc r0.1.1.2 - kc ν0) (ks r0.1.1.2 - ks ν0) (Aof (zS μ0 ν0 a0 Ad0) [] s.heap.size)) (zS μ ν a Ad) [] (kc ν - kc ν0) (ks ν - ks ν0) 86 [(0, .ref (Q 0)), (1, .int x1), (2, .int x2), (5, .ref (Q 13)), (6, .long x6), (8, .int x8), (9, .int x9), (10, .int x10), (11, .int x11)] [.int s0] := by
  have m0 := mb_L_isMessage_86  h
  have e1 := m0.2.1; have e2 := m0.2.2.1; have e3 := hm0.2.1; have e4 := hm0.2.2.1
  have hI := lwI_mn hI0 hm0; have hQ := lwQ_kp hI0 hp0 hQ0
  unfold b_L_isMessage_86 at h
  refine g_iload_n C dL_isMessage_86 rfl 2 rfl ?_
  refine g_icmp_eq (tgt := 92) C dL_isMessage_87 (by decide) (fun c87 => ?_) (fun c87 => ?_)
  · replace h := (if_pos c87).symm.trans h
    refine g_iload C dL_isMessage_92 5 rfl ?_
    refine g_bipush (v := (8 : Int32)) C dL_isMessage_94 (by decide) ?_
    refine g_icmp_ne (tgt := 158) C dL_isMessage_96 (by decide) (fun c96 => ?_) (fun c96 => ?_)
    · replace h := (if_neg c96).symm.trans h
      refine g_iload C dL_isMessage_158 5 rfl ?_
      refine g_iconst (v := (5 : Int32)) C dL_isMessage_160 (by decide) ?_
      refine g_icmp_ne (tgt := 168) C dL_isMessage_161 (by decide) (fun c161 => ?_) (fun c161 => ?_)
      · replace h := (if_neg c161).symm.trans h
        refine g_iload C dL_isMessage_168 5 rfl ?_
        refine g_bipush (v := (7 : Int32)) C dL_isMessage_170 (by decide) ?_
        refine g_icmp_ne (tgt := 179) C dL_isMessage_172 (by decide) (fun c172 => ?_) (fun c172 => ?_)
        · replace h := (if_neg c172).symm.trans h
          refine g_iload C dL_isMessage_179 5 rfl ?_
          refine g_iconst (v := (3 : Int32)) C dL_isMessage_181 (by decide) ?_
          refine g_icmp_eq (tgt := 192) C dL_isMessage_182 (by decide) (fun c182 => ?_) (fun c182 => ?_)
          · replace h := (if_pos c182).symm.trans h
            refine g_lv [0, 1, 2, 3, 4, 5, 6, 7, 8] rfl ?_
            exact lb_L_isMessage_192 hl C hEv hN hr hz hI0 hQ0 hm0 hp0  h
          · replace h := (if_neg c182).symm.trans h
            refine g_iload C dL_isMessage_185 5 rfl ?_
            refine g_bipush (v := (6 : Int32)) C dL_isMessage_187 (by decide) ?_
            refine g_icmp_ne (tgt := 196) C dL_isMessage_189 (by decide) (fun c189 => ?_) (fun c189 => ?_)
            · replace h := (if_neg c189).symm.trans h
              refine g_iconst (v := (0 : Int32)) C dL_isMessage_196 (by decide) ?_
              refine g_lv [0, 1, 2, 3, 4, 5, 6, 7, 8] rfl ?_
              exact lb_L_isMessage_197 hl C hEv hN hr hz hI0 hQ0 hm0 hp0  h
            · replace h := (if_pos c189).symm.trans h
              refine g_lv [0, 1, 2, 3, 4, 5, 6, 7, 8] rfl ?_
              exact lb_L_isMessage_192 hl C hEv hN hr hz hI0 hQ0 hm0 hp0  h
        · replace h := (if_pos c172).symm.trans h
          refine g_iconst (v := (3 : Int32)) C dL_isMessage_175 (by decide) ?_
          refine g_goto (tgt := 197) C dL_isMessage_176 (by decide) ?_
          refine g_lv [0, 1, 2, 3, 4, 5, 6, 7, 8] rfl ?_
          exact lb_L_isMessage_197 hl C hEv hN hr hz hI0 hQ0 hm0 hp0  h
      · replace h := (if_pos c161).symm.trans h
        refine g_iconst (v := (4 : Int32)) C dL_isMessage_164 (by decide) ?_
        refine g_goto (tgt := 197) C dL_isMessage_165 (by decide) ?_
        refine g_lv [0, 1, 2, 3, 4, 5, 6, 7, 8] rfl ?_
        exact lb_L_isMessage_197 hl C hEv hN hr hz hI0 hQ0 hm0 hp0  h
    · replace h := (if_pos c96).symm.trans h
      refine g_iconst (v := (2 : Int32)) C dL_isMessage_99 (by decide) ?_
      refine g_iload C dL_isMessage_100 6 rfl ?_
      refine g_iconst (v := (1 : Int32)) C dL_isMessage_102 (by decide) ?_
      refine g_icmp_ne (tgt := 120) C dL_isMessage_103 (by decide) (fun c103 => ?_) (fun c103 => ?_)
      · replace h := (if_neg c103).symm.trans h
        refine g_iload C dL_isMessage_120 6 rfl ?_
        refine g_iconst (v := (2 : Int32)) C dL_isMessage_122 (by decide) ?_
        refine g_icmp_eq (tgt := 132) C dL_isMessage_123 (by decide) (fun c123 => ?_) (fun c123 => ?_)
        · replace h := (if_pos c123).symm.trans h
          refine g_lv [0, 1, 2, 3, 4, 5, 6, 7, 8] rfl ?_
          exact lb_L_isMessage_132 hl C hEv hN hr hz hI0 hQ0 hm0 hp0  h
        · replace h := (if_neg c123).symm.trans h
          refine g_iload C dL_isMessage_126 6 rfl ?_
          refine g_iconst (v := (5 : Int32)) C dL_isMessage_128 (by decide) ?_
          refine g_icmp_ne (tgt := 136) C dL_isMessage_129 (by decide) (fun c129 => ?_) (fun c129 => ?_)
          · replace h := (if_neg c129).symm.trans h
            refine g_iload C dL_isMessage_136 6 rfl ?_
            refine g_iconst (v := (3 : Int32)) C dL_isMessage_138 (by decide) ?_
            refine g_icmp_eq (tgt := 149) C dL_isMessage_139 (by decide) (fun c139 => ?_) (fun c139 => ?_)
            · replace h := (if_pos c139).symm.trans h
              refine g_lv [0, 1, 2, 3, 4, 5, 6, 7, 8] rfl ?_
              exact lb_L_isMessage_149 hl C hEv hN hr hz hI0 hQ0 hm0 hp0  h
            · replace h := (if_neg c139).symm.trans h
              refine g_iload C dL_isMessage_142 6 rfl ?_
              refine g_bipush (v := (6 : Int32)) C dL_isMessage_144 (by decide) ?_
              refine g_icmp_ne (tgt := 153) C dL_isMessage_146 (by decide) (fun c146 => ?_) (fun c146 => ?_)
              · replace h := (if_neg c146).symm.trans h
                refine g_iconst (v := (0 : Int32)) C dL_isMessage_153 (by decide) ?_
                refine g_lv [0, 1, 2, 3, 4, 5, 6, 7, 8] rfl ?_
                exact lb_L_isMessage_154 hl C hEv hN hr hz hI0 hQ0 hm0 hp0  h
              · replace h := (if_pos c146).symm.trans h
                refine g_lv [0, 1, 2, 3, 4, 5, 6, 7, 8] rfl ?_
                exact lb_L_isMessage_149 hl C hEv hN hr hz hI0 hQ0 hm0 hp0  h
          · replace h := (if_pos c129).symm.trans h
            refine g_lv [0, 1, 2, 3, 4, 5, 6, 7, 8] rfl ?_
            exact lb_L_isMessage_132 hl C hEv hN hr hz hI0 hQ0 hm0 hp0  h
      · replace h := (if_pos c103).symm.trans h
        refine g_iconst (v := (1 : Int32)) C dL_isMessage_106 (by decide) ?_
        refine g_iconst (v := (4 : Int32)) C dL_isMessage_107 (by decide) ?_
        refine g_lload C dL_isMessage_108 4 rfl ?_
        refine g_bipush (v := (29 : Int32)) C dL_isMessage_110 (by decide) ?_
        obtain ⟨v31, hv31, h⟩ := bind_of h
        refine g_cSi (n := 2) (exc := []) (exr := []) C [_, _] _ rfl rfl [] [] rfl rfl rfl rfl (fun _ h => absurd h (by simp)) (fun _ h => absurd h (by simp)) (fun _ h => absurd h (by simp)) (fun sz => wk_L_part l _ ν _ Ad Q hI hQ w _ _  _ hv31 D E sz) rfl gw_1002 gw_0 gw_1000 gw_1001 ⟨by decide +kernel, by decide +kernel, by decide +kernel⟩ ⟨rfl, rfl⟩ ⟨Nat.le_of_ble_eq_true rfl, Nat.le_of_ble_eq_true rfl⟩ (Nat.le_of_ble_eq_true rfl) dL_isMessage_112 ⟨by show (kc ν - kc ν0) + 0 ≤ kc r0.1.1.2 - kc ν0; omega, by show (ks ν - ks ν0) + 0 ≤ ks r0.1.1.2 - ks ν0; omega⟩ (fun r u hp hx => ?_)
        obtain ⟨er, rfl⟩ := hp
        rw [er]
        try dsimp only [List.append_nil]
        refine g_imul C dL_isMessage_115 ?_
        refine g_iadd C dL_isMessage_116 ?_
        refine g_goto (tgt := 154) C dL_isMessage_117 (by decide) ?_
        refine g_lv [0, 1, 2, 3, 4, 5, 6, 7, 8] rfl ?_
        exact lb_L_isMessage_154 hl C hEv hN hr hz hI0 hQ0 hm0 hp0  h
  · replace h := (if_neg c87).symm.trans h
    refine g_iconst (v := (0 : Int32)) C dL_isMessage_90 (by decide) ?_
    obtain rfl := Option.some.inj h
    exact g_iret C hr rfl hz ⟨(hm0.2.2.2 30 (by decide) (by decide)).1, (hm0.2.2.2 31 (by decide) (by decide)).1, hp0.2.1, hp0.2.2⟩ ⟨rfl, Ad, rfl, hp0⟩ (fun j x h => by simp at h) dL_isMessage_91
noncomputable def b_L_isMessage_74  (w : Nat) (μ : MP) (ν : NC) (a : AS) (x1 : Int32) (x2 : Int32) (x6 : Int64) (x8 : Int32) (x9 : Int32) (x10 : Int32) (x11 : Int32) (s0 : Int32) : Option (((MP × NC) × AS) × Int32) := (if s0 = (34 : Int32) then ((f_L_valueAt w μ ν x1 x2 (1 : Int32)).bind (fun v10 => b_L_isMessage_86  w v10.1.1 v10.1.2 a x1 x2 x6 x8 x9 x10 x11 v10.2)) else (some (((μ, ν), a), (0 : Int32))))
theorem mb_L_isMessage_74 {w : Nat} {μ : MP} {ν : NC} {a : AS} {x1 : Int32} {x2 : Int32} {x6 : Int64} {x8 : Int32} {x9 : Int32} {x10 : Int32} {x11 : Int32} {s0 : Int32} {r0 : ((MP × NC) × AS) × Int32}   (h : b_L_isMessage_74  w μ ν a x1 x2 x6 x8 x9 x10 x11 s0 = some r0) : mn ν r0.1.1.2 := by
  unfold b_L_isMessage_74 at h
  by_cases c76 : s0 = (34 : Int32)
  · replace h := (if_pos c76).symm.trans h
    obtain ⟨v10, hv10, h⟩ := bind_of h
    exact mn_trans (m_L_valueAt hv10) (mb_L_isMessage_86  h)
  · replace h := (if_neg c76).symm.trans h
    obtain rfl := Option.some.inj h
    exact mn_rfl _
set_option maxHeartbeats 4000000 in
set_option maxRecDepth 100000 in
theorem lb_L_isMessage_74 {p : Program} {l : Launch} (hl : l.stackTraces = false) {e : Env} {s : State} {m : MethodId} {args : Array Value} {below : List Frame} {meth : Method} {c : Code} {D : va_G} {E : Nat → ClassId} {sz : Nat} {μ0 : MP} {ν0 : NC} {a0 : AS} {Ad0 : Nat → Nat → Nat} {Q : Nat → Nat} {B : Nat × (Nat → Nat)} {w : Nat} {r0 : ((MP × NC) × AS) × Int32} (C : cx p s m args meth c D E (Aof (zS μ0 ν0 a0 Ad0) [] s.heap.size) cL_isMessage 18 "TradeLineLaw") (hEv : eV (Ad0 30 0) (Ad0 31 0) B (Aof (zS μ0 ν0 a0 Ad0) [] s.heap.size) s s.heap) (hN : vN s) (hr : meth.sig.returnType = (some .boolean)) (hz : s.heap.size = sz) (hI0 : lwI ν0) (hQ0 : lwQ Ad0 Q) {μ : MP} {ν : NC} {a : AS} {Ad : Nat → Nat → Nat} (hm0 : mn ν0 ν) (hp0 : kp ν0 Ad0 Ad) {x1 : Int32} {x2 : Int32} {x6 : Int64} {x8 : Int32} {x9 : Int32} {x10 : Int32} {x11 : Int32} {s0 : Int32}   (h : b_L_isMessage_74  w μ ν a x1 x2 x6 x8 x9 x10 x11 s0 = some r0) : G p l e ({ frames := 10, cells := kc r0.1.1.2 - kc ν0, slots := ks r0.1.1.2 - ks ν0, locals := 192 } : Room) s m args below meth c D E (Aof (zS μ0 ν0 a0 Ad0) [] s.heap.size) 18 (MQ below (cQ D E sz (zS μ0 ν0 a0 Ad0) [] (pI (fun r u => r = r0.2 ∧ ∃ A1, u = (zS r0.1.1.1 r0.1.1.2 r0.1.2 A1, []) ∧ kp ν0 Ad0 A1))) args s (kc r0.1.1.2 - kc ν0) (ks r0.1.1.2 - ks ν0) (Aof (zS μ0 ν0 a0 Ad0) [] s.heap.size)) (zS μ ν a Ad) [] (kc ν - kc ν0) (ks ν - ks ν0) 74 [(0, .ref (Q 0)), (1, .int x1), (2, .int x2), (5, .ref (Q 13)), (6, .long x6), (8, .int x8), (9, .int x9), (10, .int x10), (11, .int x11)] [.int s0] := by
  have m0 := mb_L_isMessage_74  h
  have e1 := m0.2.1; have e2 := m0.2.2.1; have e3 := hm0.2.1; have e4 := hm0.2.2.1
  have hI := lwI_mn hI0 hm0; have hQ := lwQ_kp hI0 hp0 hQ0
  unfold b_L_isMessage_74 at h
  refine g_bipush (v := (34 : Int32)) C dL_isMessage_74 (by decide) ?_
  refine g_icmp_ne (tgt := 90) C dL_isMessage_76 (by decide) (fun c76 => ?_) (fun c76 => ?_)
  · replace h := (if_neg c76).symm.trans h
    refine g_iconst (v := (0 : Int32)) C dL_isMessage_90 (by decide) ?_
    obtain rfl := Option.some.inj h
    exact g_iret C hr rfl hz ⟨(hm0.2.2.2 30 (by decide) (by decide)).1, (hm0.2.2.2 31 (by decide) (by decide)).1, hp0.2.1, hp0.2.2⟩ ⟨rfl, Ad, rfl, hp0⟩ (fun j x h => by simp at h) dL_isMessage_91
  · replace h := (if_pos c76).symm.trans h
    refine g_aload_n C dL_isMessage_79 rfl 0 rfl ?_
    refine g_iload_n C dL_isMessage_80 rfl 1 rfl ?_
    refine g_iload_n C dL_isMessage_81 rfl 2 rfl ?_
    refine g_iconst (v := (1 : Int32)) C dL_isMessage_82 (by decide) ?_
    obtain ⟨v10, hv10, h⟩ := bind_of h
    have m2 := m_L_valueAt hv10
    have m3 := mb_L_isMessage_86  h
    have a1 := hm0.2.1; have a2 := hm0.2.2.1; have b1 := m2.2.1; have b2 := m2.2.2.1; have d1 := m3.2.1; have d2 := m3.2.2.1
    refine g_cSh (n := 4) (exr := []) C hEv hN ⟨hp0.2.1 0, hp0.2.2 0⟩ [_, _, _, _] _ rfl rfl [] rfl rfl (fun sz => wc_L_valueAt l hl B _ ν _ Ad Q hI hQ w _ _ _ _ hv10 D E sz) rfl gh_valueAt gw_0 gw_1284 gw_1285 ⟨by decide +kernel, by decide +kernel, by decide +kernel⟩ ⟨rfl, rfl⟩ ⟨Nat.le_of_ble_eq_true rfl, Nat.le_of_ble_eq_true rfl⟩ (Nat.le_of_ble_eq_true rfl) dL_isMessage_83 ⟨by show (kc ν - kc ν0) + (kc v10.1.2 - kc ν) ≤ kc r0.1.1.2 - kc ν0; omega, by show (ks ν - ks ν0) + (ks v10.1.2 - ks ν) ≤ ks r0.1.1.2 - ks ν0; omega⟩ (fun r u hp hx => ?_)
    obtain ⟨er, A1, rfl, hkp⟩ := hp
    rw [er]
    try dsimp only [List.append_nil]
    refine g_widen (k := kc v10.1.2 - kc ν0) (n := ks v10.1.2 - ks ν0) (by omega) (by omega) ?_
    refine g_lv [0, 1, 2, 3, 4, 5, 6, 7, 8] rfl ?_
    exact lb_L_isMessage_86 hl C hEv hN hr hz hI0 hQ0 (mn_trans hm0 m2) (kp_trans hp0 hm0 hkp)  h
noncomputable def b_L_isMessage_62  (w : Nat) (μ : MP) (ν : NC) (a : AS) (x1 : Int32) (x2 : Int32) (x6 : Int64) (x8 : Int32) (x9 : Int32) (x10 : Int32) (x11 : Int32) (s0 : Int32) : Option (((MP × NC) × AS) × Int32) := (if s0 = x8 then ((f_L_tagAt w μ ν x1 x2 (1 : Int32)).bind (fun v9 => b_L_isMessage_74  w v9.1.1 v9.1.2 a x1 x2 x6 x8 x9 x10 x11 v9.2)) else (some (((μ, ν), a), (0 : Int32))))
theorem mb_L_isMessage_62 {w : Nat} {μ : MP} {ν : NC} {a : AS} {x1 : Int32} {x2 : Int32} {x6 : Int64} {x8 : Int32} {x9 : Int32} {x10 : Int32} {x11 : Int32} {s0 : Int32} {r0 : ((MP × NC) × AS) × Int32}   (h : b_L_isMessage_62  w μ ν a x1 x2 x6 x8 x9 x10 x11 s0 = some r0) : mn ν r0.1.1.2 := by
  unfold b_L_isMessage_62 at h
  by_cases c64 : s0 = x8
  · replace h := (if_pos c64).symm.trans h
    obtain ⟨v9, hv9, h⟩ := bind_of h
    exact mn_trans (m_L_tagAt hv9) (mb_L_isMessage_74  h)
  · replace h := (if_neg c64).symm.trans h
    obtain rfl := Option.some.inj h
    exact mn_rfl _
set_option maxHeartbeats 4000000 in
set_option maxRecDepth 100000 in
theorem lb_L_isMessage_62 {p : Program} {l : Launch} (hl : l.stackTraces = false) {e : Env} {s : State} {m : MethodId} {args : Array Value} {below : List Frame} {meth : Method} {c : Code} {D : va_G} {E : Nat → ClassId} {sz : Nat} {μ0 : MP} {ν0 : NC} {a0 : AS} {Ad0 : Nat → Nat → Nat} {Q : Nat → Nat} {B : Nat × (Nat → Nat)} {w : Nat} {r0 : ((MP × NC) × AS) × Int32} (C : cx p s m args meth c D E (Aof (zS μ0 ν0 a0 Ad0) [] s.heap.size) cL_isMessage 18 "TradeLineLaw") (hEv : eV (Ad0 30 0) (Ad0 31 0) B (Aof (zS μ0 ν0 a0 Ad0) [] s.heap.size) s s.heap) (hN : vN s) (hr : meth.sig.returnType = (some .boolean)) (hz : s.heap.size = sz) (hI0 : lwI ν0) (hQ0 : lwQ Ad0 Q) {μ : MP} {ν : NC} {a : AS} {Ad : Nat → Nat → Nat} (hm0 : mn ν0 ν) (hp0 : kp ν0 Ad0 Ad) {x1 : Int32} {x2 : Int32} {x6 : Int64} {x8 : Int32} {x9 : Int32} {x10 : Int32} {x11 : Int32} {s0 : Int32}   (h : b_L_isMessage_62  w μ ν a x1 x2 x6 x8 x9 x10 x11 s0 = some r0) : G p l e ({ frames := 10, cells := kc r0.1.1.2 - kc ν0, slots := ks r0.1.1.2 - ks ν0, locals := 192 } : Room) s m args below meth c D E (Aof (zS μ0 ν0 a0 Ad0) [] s.heap.size) 18 (MQ below (cQ D E sz (zS μ0 ν0 a0 Ad0) [] (pI (fun r u => r = r0.2 ∧ ∃ A1, u = (zS r0.1.1.1 r0.1.1.2 r0.1.2 A1, []) ∧ kp ν0 Ad0 A1))) args s (kc r0.1.1.2 - kc ν0) (ks r0.1.1.2 - ks ν0) (Aof (zS μ0 ν0 a0 Ad0) [] s.heap.size)) (zS μ ν a Ad) [] (kc ν - kc ν0) (ks ν - ks ν0) 62 [(0, .ref (Q 0)), (1, .int x1), (2, .int x2), (5, .ref (Q 13)), (6, .long x6), (8, .int x8), (9, .int x9), (10, .int x10), (11, .int x11)] [.int s0] := by
  have m0 := mb_L_isMessage_62  h
  have e1 := m0.2.1; have e2 := m0.2.2.1; have e3 := hm0.2.1; have e4 := hm0.2.2.1
  have hI := lwI_mn hI0 hm0; have hQ := lwQ_kp hI0 hp0 hQ0
  unfold b_L_isMessage_62 at h
  refine g_iload C dL_isMessage_62 5 rfl ?_
  refine g_icmp_ne (tgt := 90) C dL_isMessage_64 (by decide) (fun c64 => ?_) (fun c64 => ?_)
  · replace h := (if_neg c64).symm.trans h
    refine g_iconst (v := (0 : Int32)) C dL_isMessage_90 (by decide) ?_
    obtain rfl := Option.some.inj h
    exact g_iret C hr rfl hz ⟨(hm0.2.2.2 30 (by decide) (by decide)).1, (hm0.2.2.2 31 (by decide) (by decide)).1, hp0.2.1, hp0.2.2⟩ ⟨rfl, Ad, rfl, hp0⟩ (fun j x h => by simp at h) dL_isMessage_91
  · replace h := (if_pos c64).symm.trans h
    refine g_aload_n C dL_isMessage_67 rfl 0 rfl ?_
    refine g_iload_n C dL_isMessage_68 rfl 1 rfl ?_
    refine g_iload_n C dL_isMessage_69 rfl 2 rfl ?_
    refine g_iconst (v := (1 : Int32)) C dL_isMessage_70 (by decide) ?_
    obtain ⟨v9, hv9, h⟩ := bind_of h
    have m2 := m_L_tagAt hv9
    have m3 := mb_L_isMessage_74  h
    have a1 := hm0.2.1; have a2 := hm0.2.2.1; have b1 := m2.2.1; have b2 := m2.2.2.1; have d1 := m3.2.1; have d2 := m3.2.2.1
    refine g_cSh (n := 4) (exr := []) C hEv hN ⟨hp0.2.1 0, hp0.2.2 0⟩ [_, _, _, _] _ rfl rfl [] rfl rfl (fun sz => wc_L_tagAt l hl B _ ν _ Ad Q hI hQ w _ _ _ _ hv9 D E sz) rfl gh_tagAt gw_0 gw_1271 gw_1272 ⟨by decide +kernel, by decide +kernel, by decide +kernel⟩ ⟨rfl, rfl⟩ ⟨Nat.le_of_ble_eq_true rfl, Nat.le_of_ble_eq_true rfl⟩ (Nat.le_of_ble_eq_true rfl) dL_isMessage_71 ⟨by show (kc ν - kc ν0) + (kc v9.1.2 - kc ν) ≤ kc r0.1.1.2 - kc ν0; omega, by show (ks ν - ks ν0) + (ks v9.1.2 - ks ν) ≤ ks r0.1.1.2 - ks ν0; omega⟩ (fun r u hp hx => ?_)
    obtain ⟨er, A1, rfl, hkp⟩ := hp
    rw [er]
    try dsimp only [List.append_nil]
    refine g_widen (k := kc v9.1.2 - kc ν0) (n := ks v9.1.2 - ks ν0) (by omega) (by omega) ?_
    refine g_lv [0, 1, 2, 3, 4, 5, 6, 7, 8] rfl ?_
    exact lb_L_isMessage_74 hl C hEv hN hr hz hI0 hQ0 (mn_trans hm0 m2) (kp_trans hp0 hm0 hkp)  h
noncomputable def b_L_isMessage_50  (w : Nat) (μ : MP) (ν : NC) (a : AS) (x1 : Int32) (x2 : Int32) (x6 : Int64) (x8 : Int32) (x9 : Int32) (x10 : Int32) (x11 : Int32) (s0 : Int32) : Option (((MP × NC) × AS) × Int32) := (if s0 = (35 : Int32) then ((f_L_valueAt w μ ν x1 x2 (0 : Int32)).bind (fun v8 => b_L_isMessage_62  w v8.1.1 v8.1.2 a x1 x2 x6 x8 x9 x10 x11 v8.2)) else (some (((μ, ν), a), (0 : Int32))))
theorem mb_L_isMessage_50 {w : Nat} {μ : MP} {ν : NC} {a : AS} {x1 : Int32} {x2 : Int32} {x6 : Int64} {x8 : Int32} {x9 : Int32} {x10 : Int32} {x11 : Int32} {s0 : Int32} {r0 : ((MP × NC) × AS) × Int32}   (h : b_L_isMessage_50  w μ ν a x1 x2 x6 x8 x9 x10 x11 s0 = some r0) : mn ν r0.1.1.2 := by
  unfold b_L_isMessage_50 at h
  by_cases c52 : s0 = (35 : Int32)
  · replace h := (if_pos c52).symm.trans h
    obtain ⟨v8, hv8, h⟩ := bind_of h
    exact mn_trans (m_L_valueAt hv8) (mb_L_isMessage_62  h)
  · replace h := (if_neg c52).symm.trans h
    obtain rfl := Option.some.inj h
    exact mn_rfl _
set_option maxHeartbeats 4000000 in
set_option maxRecDepth 100000 in
theorem lb_L_isMessage_50 {p : Program} {l : Launch} (hl : l.stackTraces = false) {e : Env} {s : State} {m : MethodId} {args : Array Value} {below : List Frame} {meth : Method} {c : Code} {D : va_G} {E : Nat → ClassId} {sz : Nat} {μ0 : MP} {ν0 : NC} {a0 : AS} {Ad0 : Nat → Nat → Nat} {Q : Nat → Nat} {B : Nat × (Nat → Nat)} {w : Nat} {r0 : ((MP × NC) × AS) × Int32} (C : cx p s m args meth c D E (Aof (zS μ0 ν0 a0 Ad0) [] s.heap.size) cL_isMessage 18 "TradeLineLaw") (hEv : eV (Ad0 30 0) (Ad0 31 0) B (Aof (zS μ0 ν0 a0 Ad0) [] s.heap.size) s s.heap) (hN : vN s) (hr : meth.sig.returnType = (some .boolean)) (hz : s.heap.size = sz) (hI0 : lwI ν0) (hQ0 : lwQ Ad0 Q) {μ : MP} {ν : NC} {a : AS} {Ad : Nat → Nat → Nat} (hm0 : mn ν0 ν) (hp0 : kp ν0 Ad0 Ad) {x1 : Int32} {x2 : Int32} {x6 : Int64} {x8 : Int32} {x9 : Int32} {x10 : Int32} {x11 : Int32} {s0 : Int32}   (h : b_L_isMessage_50  w μ ν a x1 x2 x6 x8 x9 x10 x11 s0 = some r0) : G p l e ({ frames := 10, cells := kc r0.1.1.2 - kc ν0, slots := ks r0.1.1.2 - ks ν0, locals := 192 } : Room) s m args below meth c D E (Aof (zS μ0 ν0 a0 Ad0) [] s.heap.size) 18 (MQ below (cQ D E sz (zS μ0 ν0 a0 Ad0) [] (pI (fun r u => r = r0.2 ∧ ∃ A1, u = (zS r0.1.1.1 r0.1.1.2 r0.1.2 A1, []) ∧ kp ν0 Ad0 A1))) args s (kc r0.1.1.2 - kc ν0) (ks r0.1.1.2 - ks ν0) (Aof (zS μ0 ν0 a0 Ad0) [] s.heap.size)) (zS μ ν a Ad) [] (kc ν - kc ν0) (ks ν - ks ν0) 50 [(0, .ref (Q 0)), (1, .int x1), (2, .int x2), (5, .ref (Q 13)), (6, .long x6), (8, .int x8), (9, .int x9), (10, .int x10), (11, .int x11)] [.int s0] := by
  have m0 := mb_L_isMessage_50  h
  have e1 := m0.2.1; have e2 := m0.2.2.1; have e3 := hm0.2.1; have e4 := hm0.2.2.1
  have hI := lwI_mn hI0 hm0; have hQ := lwQ_kp hI0 hp0 hQ0
  unfold b_L_isMessage_50 at h
  refine g_bipush (v := (35 : Int32)) C dL_isMessage_50 (by decide) ?_
  refine g_icmp_ne (tgt := 90) C dL_isMessage_52 (by decide) (fun c52 => ?_) (fun c52 => ?_)
  · replace h := (if_neg c52).symm.trans h
    refine g_iconst (v := (0 : Int32)) C dL_isMessage_90 (by decide) ?_
    obtain rfl := Option.some.inj h
    exact g_iret C hr rfl hz ⟨(hm0.2.2.2 30 (by decide) (by decide)).1, (hm0.2.2.2 31 (by decide) (by decide)).1, hp0.2.1, hp0.2.2⟩ ⟨rfl, Ad, rfl, hp0⟩ (fun j x h => by simp at h) dL_isMessage_91
  · replace h := (if_pos c52).symm.trans h
    refine g_aload_n C dL_isMessage_55 rfl 0 rfl ?_
    refine g_iload_n C dL_isMessage_56 rfl 1 rfl ?_
    refine g_iload_n C dL_isMessage_57 rfl 2 rfl ?_
    refine g_iconst (v := (0 : Int32)) C dL_isMessage_58 (by decide) ?_
    obtain ⟨v8, hv8, h⟩ := bind_of h
    have m2 := m_L_valueAt hv8
    have m3 := mb_L_isMessage_62  h
    have a1 := hm0.2.1; have a2 := hm0.2.2.1; have b1 := m2.2.1; have b2 := m2.2.2.1; have d1 := m3.2.1; have d2 := m3.2.2.1
    refine g_cSh (n := 4) (exr := []) C hEv hN ⟨hp0.2.1 0, hp0.2.2 0⟩ [_, _, _, _] _ rfl rfl [] rfl rfl (fun sz => wc_L_valueAt l hl B _ ν _ Ad Q hI hQ w _ _ _ _ hv8 D E sz) rfl gh_valueAt gw_0 gw_1284 gw_1285 ⟨by decide +kernel, by decide +kernel, by decide +kernel⟩ ⟨rfl, rfl⟩ ⟨Nat.le_of_ble_eq_true rfl, Nat.le_of_ble_eq_true rfl⟩ (Nat.le_of_ble_eq_true rfl) dL_isMessage_59 ⟨by show (kc ν - kc ν0) + (kc v8.1.2 - kc ν) ≤ kc r0.1.1.2 - kc ν0; omega, by show (ks ν - ks ν0) + (ks v8.1.2 - ks ν) ≤ ks r0.1.1.2 - ks ν0; omega⟩ (fun r u hp hx => ?_)
    obtain ⟨er, A1, rfl, hkp⟩ := hp
    rw [er]
    try dsimp only [List.append_nil]
    refine g_widen (k := kc v8.1.2 - kc ν0) (n := ks v8.1.2 - ks ν0) (by omega) (by omega) ?_
    refine g_lv [0, 1, 2, 3, 4, 5, 6, 7, 8] rfl ?_
    exact lb_L_isMessage_62 hl C hEv hN hr hz hI0 hQ0 (mn_trans hm0 m2) (kp_trans hp0 hm0 hkp)  h
noncomputable def b_L_isMessage_10  (w : Nat) (μ : MP) (ν : NC) (a : AS) (x1 : Int32) (x2 : Int32) (s0 : Nat) : Option (((MP × NC) × AS) × Int32) := bif lnB s0 64 then bif ixB x2 64 then yl ((lgA a s0 x2.toNatClampNeg)) (fun t3 => yl ((Int64.toInt32 (t3 &&& (15 : Int64)))) (fun t4 => (f_L_part w a t3 (5 : Int32)).bind (fun v5 => yl ((((69 : Int32) + t4) + x2)) (fun t6 => (f_L_tagAt w μ ν x1 x2 (0 : Int32)).bind (fun v7 => b_L_isMessage_50  w v7.1.1 v7.1.2 a x1 x2 t3 t4 v5 t6 (2 : Int32) v7.2))))) else none else none
theorem mb_L_isMessage_10 {w : Nat} {μ : MP} {ν : NC} {a : AS} {x1 : Int32} {x2 : Int32} {s0 : Nat} {r0 : ((MP × NC) × AS) × Int32}   (h : b_L_isMessage_10  w μ ν a x1 x2 s0 = some r0) : mn ν r0.1.1.2 := by
  unfold b_L_isMessage_10 at h
  replace h := (of_guard h).2
  replace h := (of_guard h).2
  obtain ⟨t3, et3⟩ : ∃ y, (lgA a s0 x2.toNatClampNeg) = y := ⟨_, rfl⟩
  replace h := yl_of h et3
  obtain ⟨t4, et4⟩ : ∃ y, (Int64.toInt32 (t3 &&& (15 : Int64))) = y := ⟨_, rfl⟩
  replace h := yl_of h et4
  obtain ⟨v5, hv5, h⟩ := bind_of h
  obtain ⟨t6, et6⟩ : ∃ y, (((69 : Int32) + t4) + x2) = y := ⟨_, rfl⟩
  replace h := yl_of h et6
  obtain ⟨v7, hv7, h⟩ := bind_of h
  exact mn_trans (m_L_tagAt hv7) (mb_L_isMessage_50  h)
set_option maxHeartbeats 4000000 in
set_option maxRecDepth 100000 in
theorem lb_L_isMessage_10 {p : Program} {l : Launch} (hl : l.stackTraces = false) {e : Env} {s : State} {m : MethodId} {args : Array Value} {below : List Frame} {meth : Method} {c : Code} {D : va_G} {E : Nat → ClassId} {sz : Nat} {μ0 : MP} {ν0 : NC} {a0 : AS} {Ad0 : Nat → Nat → Nat} {Q : Nat → Nat} {B : Nat × (Nat → Nat)} {w : Nat} {r0 : ((MP × NC) × AS) × Int32} (C : cx p s m args meth c D E (Aof (zS μ0 ν0 a0 Ad0) [] s.heap.size) cL_isMessage 18 "TradeLineLaw") (hEv : eV (Ad0 30 0) (Ad0 31 0) B (Aof (zS μ0 ν0 a0 Ad0) [] s.heap.size) s s.heap) (hN : vN s) (hr : meth.sig.returnType = (some .boolean)) (hz : s.heap.size = sz) (hI0 : lwI ν0) (hQ0 : lwQ Ad0 Q) {μ : MP} {ν : NC} {a : AS} {Ad : Nat → Nat → Nat} (hm0 : mn ν0 ν) (hp0 : kp ν0 Ad0 Ad) {x1 : Int32} {x2 : Int32} {s0 : Nat}   (h : b_L_isMessage_10  w μ ν a x1 x2 s0 = some r0) : G p l e ({ frames := 10, cells := kc r0.1.1.2 - kc ν0, slots := ks r0.1.1.2 - ks ν0, locals := 192 } : Room) s m args below meth c D E (Aof (zS μ0 ν0 a0 Ad0) [] s.heap.size) 18 (MQ below (cQ D E sz (zS μ0 ν0 a0 Ad0) [] (pI (fun r u => r = r0.2 ∧ ∃ A1, u = (zS r0.1.1.1 r0.1.1.2 r0.1.2 A1, []) ∧ kp ν0 Ad0 A1))) args s (kc r0.1.1.2 - kc ν0) (ks r0.1.1.2 - ks ν0) (Aof (zS μ0 ν0 a0 Ad0) [] s.heap.size)) (zS μ ν a Ad) [] (kc ν - kc ν0) (ks ν - ks ν0) 10 [(0, .ref (Q 0)), (1, .int x1), (2, .int x2), (5, .ref (Q 13))] [.ref (Q s0)] := by
  have m0 := mb_L_isMessage_10  h
  have e1 := m0.2.1; have e2 := m0.2.2.1; have e3 := hm0.2.1; have e4 := hm0.2.2.1
  have hI := lwI_mn hI0 hm0; have hQ := lwQ_kp hI0 hp0 hQ0
  unfold b_L_isMessage_10 at h
  refine g_iload_n C dL_isMessage_10 rfl 2 rfl ?_
  obtain ⟨g1, h⟩ := of_guard h
  obtain ⟨g2, h⟩ := of_guard h
  refine q_lald C (show rsh (ν.1, μ.2, ν.2, Ad) from hI.2) (j := s0) (N := 64) g1 (lwQ_l hQ g1) g2 dL_isMessage_11 ?_
  refine q_topl (fun t3 et3 => ?_)
  replace h := yl_of h et3
  refine g_lstore (lv' := [(6, .long t3), (0, .ref (Q 0)), (1, .int x1), (2, .int x2), (5, .ref (Q 13))]) C dL_isMessage_12 (by decide) rfl ?_
  refine g_lload C dL_isMessage_14 0 rfl ?_
  refine g_ldc2 (v := (15 : Int64)) C gw_999 dL_isMessage_16 ?_
  refine g_land C dL_isMessage_19 ?_
  refine g_l2i C dL_isMessage_20 ?_
  refine q_topi (fun t4 et4 => ?_)
  replace h := yl_of h et4
  refine g_istore (lv' := [(8, .int t4), (6, .long t3), (0, .ref (Q 0)), (1, .int x1), (2, .int x2), (5, .ref (Q 13))]) C dL_isMessage_21 (by decide) rfl ?_
  refine g_lload C dL_isMessage_23 1 rfl ?_
  refine g_iconst (v := (5 : Int32)) C dL_isMessage_25 (by decide) ?_
  obtain ⟨v5, hv5, h⟩ := bind_of h
  refine g_cSi (n := 2) (exc := []) (exr := []) C [_, _] _ rfl rfl [] [] rfl rfl rfl rfl (fun _ h => absurd h (by simp)) (fun _ h => absurd h (by simp)) (fun _ h => absurd h (by simp)) (fun sz => wk_L_part l _ ν _ Ad Q hI hQ w _ _  _ hv5 D E sz) rfl gw_1002 gw_0 gw_1000 gw_1001 ⟨by decide +kernel, by decide +kernel, by decide +kernel⟩ ⟨rfl, rfl⟩ ⟨Nat.le_of_ble_eq_true rfl, Nat.le_of_ble_eq_true rfl⟩ (Nat.le_of_ble_eq_true rfl) dL_isMessage_26 ⟨by show (kc ν - kc ν0) + 0 ≤ kc r0.1.1.2 - kc ν0; omega, by show (ks ν - ks ν0) + 0 ≤ ks r0.1.1.2 - ks ν0; omega⟩ (fun r u hp hx => ?_)
  obtain ⟨er, rfl⟩ := hp
  rw [er]
  try dsimp only [List.append_nil]
  refine g_istore (lv' := [(9, .int v5), (8, .int t4), (6, .long t3), (0, .ref (Q 0)), (1, .int x1), (2, .int x2), (5, .ref (Q 13))]) C dL_isMessage_29 (by decide) rfl ?_
  refine g_bipush (v := (69 : Int32)) C dL_isMessage_31 (by decide) ?_
  refine g_iload C dL_isMessage_33 1 rfl ?_
  refine g_iadd C dL_isMessage_35 ?_
  refine g_iload_n C dL_isMessage_36 rfl 5 rfl ?_
  refine g_iadd C dL_isMessage_37 ?_
  refine q_topi (fun t6 et6 => ?_)
  replace h := yl_of h et6
  refine g_istore (lv' := [(10, .int t6), (9, .int v5), (8, .int t4), (6, .long t3), (0, .ref (Q 0)), (1, .int x1), (2, .int x2), (5, .ref (Q 13))]) C dL_isMessage_38 (by decide) rfl ?_
  refine g_iconst (v := (2 : Int32)) C dL_isMessage_40 (by decide) ?_
  refine g_istore (lv' := [(11, .int (2 : Int32)), (10, .int t6), (9, .int v5), (8, .int t4), (6, .long t3), (0, .ref (Q 0)), (1, .int x1), (2, .int x2), (5, .ref (Q 13))]) C dL_isMessage_41 (by decide) rfl ?_
  refine g_aload_n C dL_isMessage_43 rfl 5 rfl ?_
  refine g_iload_n C dL_isMessage_44 rfl 6 rfl ?_
  refine g_iload_n C dL_isMessage_45 rfl 7 rfl ?_
  refine g_iconst (v := (0 : Int32)) C dL_isMessage_46 (by decide) ?_
  obtain ⟨v7, hv7, h⟩ := bind_of h
  have m2 := m_L_tagAt hv7
  have m3 := mb_L_isMessage_50  h
  have a1 := hm0.2.1; have a2 := hm0.2.2.1; have b1 := m2.2.1; have b2 := m2.2.2.1; have d1 := m3.2.1; have d2 := m3.2.2.1
  refine g_cSh (n := 4) (exr := []) C hEv hN ⟨hp0.2.1 0, hp0.2.2 0⟩ [_, _, _, _] _ rfl rfl [] rfl rfl (fun sz => wc_L_tagAt l hl B _ ν _ Ad Q hI hQ w _ _ _ _ hv7 D E sz) rfl gh_tagAt gw_0 gw_1271 gw_1272 ⟨by decide +kernel, by decide +kernel, by decide +kernel⟩ ⟨rfl, rfl⟩ ⟨Nat.le_of_ble_eq_true rfl, Nat.le_of_ble_eq_true rfl⟩ (Nat.le_of_ble_eq_true rfl) dL_isMessage_47 ⟨by show (kc ν - kc ν0) + (kc v7.1.2 - kc ν) ≤ kc r0.1.1.2 - kc ν0; omega, by show (ks ν - ks ν0) + (ks v7.1.2 - ks ν) ≤ ks r0.1.1.2 - ks ν0; omega⟩ (fun r u hp hx => ?_)
  obtain ⟨er, A1, rfl, hkp⟩ := hp
  rw [er]
  try dsimp only [List.append_nil]
  refine g_widen (k := kc v7.1.2 - kc ν0) (n := ks v7.1.2 - ks ν0) (by omega) (by omega) ?_
  refine g_lv [5, 6, 7, 8, 4, 3, 2, 1, 0] rfl ?_
  exact lb_L_isMessage_50 hl C hEv hN hr hz hI0 hQ0 (mn_trans hm0 m2) (kp_trans hp0 hm0 hkp)  h
noncomputable def f_L_isMessage  (w : Nat) (μ : MP) (ν : NC) (a : AS) (x1 : Int32) (x2 : Int32)  : Option (((MP × NC) × AS) × Int32) := (if x1 = (0 : Int32) then (b_L_isMessage_10  w μ ν a x1 x2 4) else (b_L_isMessage_10  w μ ν a x1 x2 5))
theorem mb_L_isMessage_0 {w : Nat} {μ : MP} {ν : NC} {a : AS} {x1 : Int32} {x2 : Int32}  {r0 : ((MP × NC) × AS) × Int32}   (h : f_L_isMessage  w μ ν a x1 x2  = some r0) : mn ν r0.1.1.2 := by
  unfold f_L_isMessage at h
  by_cases c1 : x1 = (0 : Int32)
  · replace h := (if_pos c1).symm.trans h
    exact mb_L_isMessage_10  h
  · replace h := (if_neg c1).symm.trans h
    exact mb_L_isMessage_10  h
set_option maxHeartbeats 4000000 in
set_option maxRecDepth 100000 in
theorem lb_L_isMessage_0 {p : Program} {l : Launch} (hl : l.stackTraces = false) {e : Env} {s : State} {m : MethodId} {args : Array Value} {below : List Frame} {meth : Method} {c : Code} {D : va_G} {E : Nat → ClassId} {sz : Nat} {μ0 : MP} {ν0 : NC} {a0 : AS} {Ad0 : Nat → Nat → Nat} {Q : Nat → Nat} {B : Nat × (Nat → Nat)} {w : Nat} {r0 : ((MP × NC) × AS) × Int32} (C : cx p s m args meth c D E (Aof (zS μ0 ν0 a0 Ad0) [] s.heap.size) cL_isMessage 18 "TradeLineLaw") (hEv : eV (Ad0 30 0) (Ad0 31 0) B (Aof (zS μ0 ν0 a0 Ad0) [] s.heap.size) s s.heap) (hN : vN s) (hr : meth.sig.returnType = (some .boolean)) (hz : s.heap.size = sz) (hI0 : lwI ν0) (hQ0 : lwQ Ad0 Q) {μ : MP} {ν : NC} {a : AS} {Ad : Nat → Nat → Nat} (hm0 : mn ν0 ν) (hp0 : kp ν0 Ad0 Ad) {x1 : Int32} {x2 : Int32}    (h : f_L_isMessage  w μ ν a x1 x2  = some r0) : G p l e ({ frames := 10, cells := kc r0.1.1.2 - kc ν0, slots := ks r0.1.1.2 - ks ν0, locals := 192 } : Room) s m args below meth c D E (Aof (zS μ0 ν0 a0 Ad0) [] s.heap.size) 18 (MQ below (cQ D E sz (zS μ0 ν0 a0 Ad0) [] (pI (fun r u => r = r0.2 ∧ ∃ A1, u = (zS r0.1.1.1 r0.1.1.2 r0.1.2 A1, []) ∧ kp ν0 Ad0 A1))) args s (kc r0.1.1.2 - kc ν0) (ks r0.1.1.2 - ks ν0) (Aof (zS μ0 ν0 a0 Ad0) [] s.heap.size)) (zS μ ν a Ad) [] (kc ν - kc ν0) (ks ν - ks ν0) 0 [(0, .ref (Q 0)), (1, .int x1), (2, .int x2), (3, .ref (Q 4)), (4, .ref (Q 5)), (5, .ref (Q 13))] [] := by
  have m0 := mb_L_isMessage_0  h
  have e1 := m0.2.1; have e2 := m0.2.2.1; have e3 := hm0.2.1; have e4 := hm0.2.2.1
  have hI := lwI_mn hI0 hm0; have hQ := lwQ_kp hI0 hp0 hQ0
  unfold f_L_isMessage at h
  refine g_iload_n C dL_isMessage_0 rfl 1 rfl ?_
  refine g_if_ne (tgt := 8) C dL_isMessage_1 (by decide) (fun c1 => ?_) (fun c1 => ?_)
  · replace h := (if_neg c1).symm.trans h
    refine g_aload C dL_isMessage_8 4 rfl ?_
    refine g_lv [0, 1, 2, 5] rfl ?_
    exact lb_L_isMessage_10 hl C hEv hN hr hz hI0 hQ0 hm0 hp0  h
  · replace h := (if_pos c1).symm.trans h
    refine g_aload_n C dL_isMessage_4 rfl 3 rfl ?_
    refine g_goto (tgt := 10) C dL_isMessage_5 (by decide) ?_
    refine g_lv [0, 1, 2, 5] rfl ?_
    exact lb_L_isMessage_10 hl C hEv hN hr hz hI0 hQ0 hm0 hp0  h
theorem m_L_isMessage {w : Nat} {μ : MP} {ν : NC} {a : AS} {x1 : Int32} {x2 : Int32} {r0 : ((MP × NC) × AS) × Int32} (h : f_L_isMessage w μ ν a x1 x2 = some r0) : mn ν r0.1.1.2 := mb_L_isMessage_0 h
theorem c_L_isMessage (l : Launch) (hl : l.stackTraces = false) (B : Nat × (Nat → Nat)) (μ : MP) (ν : NC) (a : AS) (Ad : Nat → Nat → Nat) (Q : Nat → Nat) (hI : lwI ν) (hQ : lwQ Ad Q) (w : Nat) (x1 : Int32) (x2 : Int32) (r0 : ((MP × NC) × AS) × Int32) (h : f_L_isMessage w μ ν a x1 x2 = some r0) : ∀ D E sz, Met l yL_isMessage gwL_isMessage ({ frames := 10, cells := kc r0.1.1.2 - kc ν, slots := ks r0.1.1.2 - ks ν, locals := 192 } : Room) (cPh D E sz B (zS μ ν a Ad) [.ref (Q 0), .int x1, .int x2, .ref (Q 4), .ref (Q 5), .ref (Q 13)]) (cQ D E sz (zS μ ν a Ad) [] (pI (fun r u => r = r0.2 ∧ ∃ A1, u = (zS r0.1.1.1 r0.1.1.2 r0.1.2 A1, []) ∧ kp ν Ad A1))) (kc r0.1.1.2 - kc ν) (ks r0.1.1.2 - ks ν) (Aof (zS μ ν a Ad) [] sz) := by
  intro D E sz
  refine g_ofN (cc := cL_isMessage) (maxL := 18) (ret := (some .boolean)) (own := "TradeLineLaw") (by decide) rfl rfl (Nat.le_of_ble_eq_true rfl) ?_
  intro p e s m args below meth c C hr hz hEv hN
  refine g_lv (lv' := [(0, .ref (Q 0)), (1, .int x1), (2, .int x2), (3, .ref (Q 4)), (4, .ref (Q 5)), (5, .ref (Q 13))]) [0, 1, 2, 3, 4, 5] rfl ?_
  refine g_widen (k := kc ν - kc ν) (n := ks ν - ks ν) (Nat.zero_le _) (Nat.zero_le _) ?_
  exact lb_L_isMessage_0 hl C hEv hN hr hz hI hQ (mn_rfl _) (kp_rfl _ _) h
