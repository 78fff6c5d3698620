noncomputable def b_L_lines_653  (w : Nat) (μ : MP) (ν : NC) (a : AS) (x20 : Int32) (s0 : Int32) : Option (((MP × NC) × AS) × Int32) := (if s0 = x20 then (some (((μ, ν), a), (1 : Int32))) else (some (((μ, ν), a), (0 : Int32))))
theorem mb_L_lines_653 {w : Nat} {μ : MP} {ν : NC} {a : AS} {x20 : Int32} {s0 : Int32} {r0 : ((MP × NC) × AS) × Int32}   (h : b_L_lines_653  w μ ν a x20 s0 = some r0) : mn ν r0.1.1.2 := by
  unfold b_L_lines_653 at h
  by_cases c655 : s0 = x20
  · replace h := (if_pos c655).symm.trans h
    obtain rfl := Option.some.inj h
    exact mn_rfl _
  · replace h := (if_neg c655).symm.trans h
    obtain rfl := Option.some.inj h
    exact mn_rfl _
set_option maxHeartbeats 4000000 in
set_option maxRecDepth 100000 in
theorem lb_L_lines_653 {p : Program} {l : Launch} (hl : l.stackTraces = false) {e : Env} {s : State} {m : MethodId} {args : Array Value} {below : List Frame} {meth : Method} {c : Code} {D : va_G} {E : Nat → ClassId} {sz : Nat} {μ0 : MP} {ν0 : NC} {a0 : AS} {Ad0 : Nat → Nat → Nat} {Q : Nat → Nat} {B : Nat × (Nat → Nat)} {w : Nat} {r0 : ((MP × NC) × AS) × Int32} (C : cx p s m args meth c D E (Aof (zS μ0 ν0 a0 Ad0) [] s.heap.size) cL_lines 23 "TradeLineLaw") (hEv : eV (Ad0 30 0) (Ad0 31 0) B (Aof (zS μ0 ν0 a0 Ad0) [] s.heap.size) s s.heap) (hN : vN s) (hr : meth.sig.returnType = (some .boolean)) (hz : s.heap.size = sz) (hI0 : lwI ν0) (hQ0 : lwQ Ad0 Q) {μ : MP} {ν : NC} {a : AS} {Ad : Nat → Nat → Nat} (hm0 : mn ν0 ν) (hp0 : kp ν0 Ad0 Ad) {x20 : Int32} {s0 : Int32}   (h : b_L_lines_653  w μ ν a x20 s0 = some r0) : G p l e ({ frames := 14, cells := kc r0.1.1.2 - kc ν0, slots := ks r0.1.1.2 - ks ν0, locals := 398 } : Room) s m args below meth c D E (Aof (zS μ0 ν0 a0 Ad0) [] s.heap.size) 23 (MQ below (cQ D E sz (zS μ0 ν0 a0 Ad0) [] (pI (fun r u => r = r0.2 ∧ ∃ A1, u = (zS r0.1.1.1 r0.1.1.2 r0.1.2 A1, []) ∧ kp ν0 Ad0 A1))) args s (kc r0.1.1.2 - kc ν0) (ks r0.1.1.2 - ks ν0) (Aof (zS μ0 ν0 a0 Ad0) [] s.heap.size)) (zS μ ν a Ad) [] (kc ν - kc ν0) (ks ν - ks ν0) 653 [(20, .int x20)] [.int s0] := by
  have m0 := mb_L_lines_653  h
  have e1 := m0.2.1; have e2 := m0.2.2.1; have e3 := hm0.2.1; have e4 := hm0.2.2.1
  have hI := lwI_mn hI0 hm0; have hQ := lwQ_kp hI0 hp0 hQ0
  unfold b_L_lines_653 at h
  refine g_iload C dL_lines_653 0 rfl ?_
  refine g_icmp_ne (tgt := 662) C dL_lines_655 (by decide) (fun c655 => ?_) (fun c655 => ?_)
  · replace h := (if_neg c655).symm.trans h
    refine g_iconst (v := (0 : Int32)) C dL_lines_662 (by decide) ?_
    obtain rfl := Option.some.inj h
    exact g_iret C hr rfl hz ⟨(hm0.2.2.2 30 (by decide) (by decide)).1, (hm0.2.2.2 31 (by decide) (by decide)).1, hp0.2.1, hp0.2.2⟩ ⟨rfl, Ad, rfl, hp0⟩ (fun j x h => by simp at h) dL_lines_663
  · replace h := (if_pos c655).symm.trans h
    refine g_iconst (v := (1 : Int32)) C dL_lines_658 (by decide) ?_
    refine g_goto (tgt := 663) C dL_lines_659 (by decide) ?_
    obtain rfl := Option.some.inj h
    exact g_iret C hr rfl hz ⟨(hm0.2.2.2 30 (by decide) (by decide)).1, (hm0.2.2.2 31 (by decide) (by decide)).1, hp0.2.1, hp0.2.2⟩ ⟨rfl, Ad, rfl, hp0⟩ (fun j x h => by simp at h) dL_lines_663
noncomputable def b_L_lines_641  (w : Nat) (μ : MP) (ν : NC) (a : AS) (x19 : Int32) (x20 : Int32) (s0 : Int32) : Option (((MP × NC) × AS) × Int32) := (if s0 = (-7200 : Int32) then ((f_L_pass w μ ν x19).bind (fun v6 => b_L_lines_653  w v6.1.1 v6.1.2 a x20 v6.2)) else (some (((μ, ν), a), (0 : Int32))))
theorem mb_L_lines_641 {w : Nat} {μ : MP} {ν : NC} {a : AS} {x19 : Int32} {x20 : Int32} {s0 : Int32} {r0 : ((MP × NC) × AS) × Int32}   (h : b_L_lines_641  w μ ν a x19 x20 s0 = some r0) : mn ν r0.1.1.2 := by
  unfold b_L_lines_641 at h
  by_cases c644 : s0 = (-7200 : Int32)
  · replace h := (if_pos c644).symm.trans h
    obtain ⟨v6, hv6, h⟩ := bind_of h
    exact mn_trans (m_L_pass hv6) (mb_L_lines_653  h)
  · replace h := (if_neg c644).symm.trans h
    obtain rfl := Option.some.inj h
    exact mn_rfl _
set_option maxHeartbeats 4000000 in
set_option maxRecDepth 100000 in
theorem lb_L_lines_641 {p : Program} {l : Launch} (hl : l.stackTraces = false) {e : Env} {s : State} {m : MethodId} {args : Array Value} {below : List Frame} {meth : Method} {c : Code} {D : va_G} {E : Nat → ClassId} {sz : Nat} {μ0 : MP} {ν0 : NC} {a0 : AS} {Ad0 : Nat → Nat → Nat} {Q : Nat → Nat} {B : Nat × (Nat → Nat)} {w : Nat} {r0 : ((MP × NC) × AS) × Int32} (C : cx p s m args meth c D E (Aof (zS μ0 ν0 a0 Ad0) [] s.heap.size) cL_lines 23 "TradeLineLaw") (hEv : eV (Ad0 30 0) (Ad0 31 0) B (Aof (zS μ0 ν0 a0 Ad0) [] s.heap.size) s s.heap) (hN : vN s) (hr : meth.sig.returnType = (some .boolean)) (hz : s.heap.size = sz) (hI0 : lwI ν0) (hQ0 : lwQ Ad0 Q) {μ : MP} {ν : NC} {a : AS} {Ad : Nat → Nat → Nat} (hm0 : mn ν0 ν) (hp0 : kp ν0 Ad0 Ad) {x19 : Int32} {x20 : Int32} {s0 : Int32}   (h : b_L_lines_641  w μ ν a x19 x20 s0 = some r0) : G p l e ({ frames := 14, cells := kc r0.1.1.2 - kc ν0, slots := ks r0.1.1.2 - ks ν0, locals := 398 } : Room) s m args below meth c D E (Aof (zS μ0 ν0 a0 Ad0) [] s.heap.size) 23 (MQ below (cQ D E sz (zS μ0 ν0 a0 Ad0) [] (pI (fun r u => r = r0.2 ∧ ∃ A1, u = (zS r0.1.1.1 r0.1.1.2 r0.1.2 A1, []) ∧ kp ν0 Ad0 A1))) args s (kc r0.1.1.2 - kc ν0) (ks r0.1.1.2 - ks ν0) (Aof (zS μ0 ν0 a0 Ad0) [] s.heap.size)) (zS μ ν a Ad) [] (kc ν - kc ν0) (ks ν - ks ν0) 641 [(0, .ref (Q 0)), (19, .int x19), (20, .int x20)] [.int s0] := by
  have m0 := mb_L_lines_641  h
  have e1 := m0.2.1; have e2 := m0.2.2.1; have e3 := hm0.2.1; have e4 := hm0.2.2.1
  have hI := lwI_mn hI0 hm0; have hQ := lwQ_kp hI0 hp0 hQ0
  unfold b_L_lines_641 at h
  refine g_sipush (v := (-7200 : Int32)) C dL_lines_641 (by decide) ?_
  refine g_icmp_ne (tgt := 662) C dL_lines_644 (by decide) (fun c644 => ?_) (fun c644 => ?_)
  · replace h := (if_neg c644).symm.trans h
    refine g_iconst (v := (0 : Int32)) C dL_lines_662 (by decide) ?_
    obtain rfl := Option.some.inj h
    exact g_iret C hr rfl hz ⟨(hm0.2.2.2 30 (by decide) (by decide)).1, (hm0.2.2.2 31 (by decide) (by decide)).1, hp0.2.1, hp0.2.2⟩ ⟨rfl, Ad, rfl, hp0⟩ (fun j x h => by simp at h) dL_lines_663
  · replace h := (if_pos c644).symm.trans h
    refine g_aload_n C dL_lines_647 rfl 0 rfl ?_
    refine g_iload C dL_lines_648 1 rfl ?_
    obtain ⟨v6, hv6, h⟩ := bind_of h
    have m2 := m_L_pass hv6
    have m3 := mb_L_lines_653  h
    have a1 := hm0.2.1; have a2 := hm0.2.2.1; have b1 := m2.2.1; have b2 := m2.2.2.1; have d1 := m3.2.1; have d2 := m3.2.2.1
    refine g_cSh (n := 2) (exr := []) C hEv hN ⟨hp0.2.1 0, hp0.2.2 0⟩ [_, _] _ rfl rfl [] rfl rfl (fun sz => wc_L_pass l hl B _ ν _ Ad Q hI hQ w _ _ hv6 D E sz) rfl gh_pass gw_0 gw_1050 gw_1051 ⟨by decide +kernel, by decide +kernel, by decide +kernel⟩ ⟨rfl, rfl⟩ ⟨Nat.le_of_ble_eq_true rfl, Nat.le_of_ble_eq_true rfl⟩ (Nat.le_of_ble_eq_true rfl) dL_lines_650 ⟨by show (kc ν - kc ν0) + (kc v6.1.2 - kc ν) ≤ kc r0.1.1.2 - kc ν0; omega, by show (ks ν - ks ν0) + (ks v6.1.2 - ks ν) ≤ ks r0.1.1.2 - ks ν0; omega⟩ (fun r u hp hx => ?_)
    obtain ⟨er, A1, rfl, hkp⟩ := hp
    rw [er]
    try dsimp only [List.append_nil]
    refine g_widen (k := kc v6.1.2 - kc ν0) (n := ks v6.1.2 - ks ν0) (by omega) (by omega) ?_
    refine g_lv [2] rfl ?_
    exact lb_L_lines_653 hl C hEv hN hr hz hI0 hQ0 (mn_trans hm0 m2) (kp_trans hp0 hm0 hkp)  h
noncomputable def b_L_lines_629  (w : Nat) (μ : MP) (ν : NC) (a : AS) (x19 : Int32) (x20 : Int32) (s0 : Int32) : Option (((MP × NC) × AS) × Int32) := (if s0 = (-7200 : Int32) then ((f_L_pass w μ ν (51 : Int32)).bind (fun v5 => b_L_lines_641  w v5.1.1 v5.1.2 a x19 x20 v5.2)) else (some (((μ, ν), a), (0 : Int32))))
theorem mb_L_lines_629 {w : Nat} {μ : MP} {ν : NC} {a : AS} {x19 : Int32} {x20 : Int32} {s0 : Int32} {r0 : ((MP × NC) × AS) × Int32}   (h : b_L_lines_629  w μ ν a x19 x20 s0 = some r0) : mn ν r0.1.1.2 := by
  unfold b_L_lines_629 at h
  by_cases c632 : s0 = (-7200 : Int32)
  · replace h := (if_pos c632).symm.trans h
    obtain ⟨v5, hv5, h⟩ := bind_of h
    exact mn_trans (m_L_pass hv5) (mb_L_lines_641  h)
  · replace h := (if_neg c632).symm.trans h
    obtain rfl := Option.some.inj h
    exact mn_rfl _
set_option maxHeartbeats 4000000 in
set_option maxRecDepth 100000 in
theorem lb_L_lines_629 {p : Program} {l : Launch} (hl : l.stackTraces = false) {e : Env} {s : State} {m : MethodId} {args : Array Value} {below : List Frame} {meth : Method} {c : Code} {D : va_G} {E : Nat → ClassId} {sz : Nat} {μ0 : MP} {ν0 : NC} {a0 : AS} {Ad0 : Nat → Nat → Nat} {Q : Nat → Nat} {B : Nat × (Nat → Nat)} {w : Nat} {r0 : ((MP × NC) × AS) × Int32} (C : cx p s m args meth c D E (Aof (zS μ0 ν0 a0 Ad0) [] s.heap.size) cL_lines 23 "TradeLineLaw") (hEv : eV (Ad0 30 0) (Ad0 31 0) B (Aof (zS μ0 ν0 a0 Ad0) [] s.heap.size) s s.heap) (hN : vN s) (hr : meth.sig.returnType = (some .boolean)) (hz : s.heap.size = sz) (hI0 : lwI ν0) (hQ0 : lwQ Ad0 Q) {μ : MP} {ν : NC} {a : AS} {Ad : Nat → Nat → Nat} (hm0 : mn ν0 ν) (hp0 : kp ν0 Ad0 Ad) {x19 : Int32} {x20 : Int32} {s0 : Int32}   (h : b_L_lines_629  w μ ν a x19 x20 s0 = some r0) : G p l e ({ frames := 14, cells := kc r0.1.1.2 - kc ν0, slots := ks r0.1.1.2 - ks ν0, locals := 398 } : Room) s m args below meth c D E (Aof (zS μ0 ν0 a0 Ad0) [] s.heap.size) 23 (MQ below (cQ D E sz (zS μ0 ν0 a0 Ad0) [] (pI (fun r u => r = r0.2 ∧ ∃ A1, u = (zS r0.1.1.1 r0.1.1.2 r0.1.2 A1, []) ∧ kp ν0 Ad0 A1))) args s (kc r0.1.1.2 - kc ν0) (ks r0.1.1.2 - ks ν0) (Aof (zS μ0 ν0 a0 Ad0) [] s.heap.size)) (zS μ ν a Ad) [] (kc ν - kc ν0) (ks ν - ks ν0) 629 [(0, .ref (Q 0)), (19, .int x19), (20, .int x20)] [.int s0] := by
  have m0 := mb_L_lines_629  h
  have e1 := m0.2.1; have e2 := m0.2.2.1; have e3 := hm0.2.1; have e4 := hm0.2.2.1
  have hI := lwI_mn hI0 hm0; have hQ := lwQ_kp hI0 hp0 hQ0
  unfold b_L_lines_629 at h
  refine g_sipush (v := (-7200 : Int32)) C dL_lines_629 (by decide) ?_
  refine g_icmp_ne (tgt := 662) C dL_lines_632 (by decide) (fun c632 => ?_) (fun c632 => ?_)
  · replace h := (if_neg c632).symm.trans h
    refine g_iconst (v := (0 : Int32)) C dL_lines_662 (by decide) ?_
    obtain rfl := Option.some.inj h
    exact g_iret C hr rfl hz ⟨(hm0.2.2.2 30 (by decide) (by decide)).1, (hm0.2.2.2 31 (by decide) (by decide)).1, hp0.2.1, hp0.2.2⟩ ⟨rfl, Ad, rfl, hp0⟩ (fun j x h => by simp at h) dL_lines_663
  · replace h := (if_pos c632).symm.trans h
    refine g_aload_n C dL_lines_635 rfl 0 rfl ?_
    refine g_bipush (v := (51 : Int32)) C dL_lines_636 (by decide) ?_
    obtain ⟨v5, hv5, h⟩ := bind_of h
    have m2 := m_L_pass hv5
    have m3 := mb_L_lines_641  h
    have a1 := hm0.2.1; have a2 := hm0.2.2.1; have b1 := m2.2.1; have b2 := m2.2.2.1; have d1 := m3.2.1; have d2 := m3.2.2.1
    refine g_cSh (n := 2) (exr := []) C hEv hN ⟨hp0.2.1 0, hp0.2.2 0⟩ [_, _] _ rfl rfl [] rfl rfl (fun sz => wc_L_pass l hl B _ ν _ Ad Q hI hQ w _ _ hv5 D E sz) rfl gh_pass gw_0 gw_1050 gw_1051 ⟨by decide +kernel, by decide +kernel, by decide +kernel⟩ ⟨rfl, rfl⟩ ⟨Nat.le_of_ble_eq_true rfl, Nat.le_of_ble_eq_true rfl⟩ (Nat.le_of_ble_eq_true rfl) dL_lines_638 ⟨by show (kc ν - kc ν0) + (kc v5.1.2 - kc ν) ≤ kc r0.1.1.2 - kc ν0; omega, by show (ks ν - ks ν0) + (ks v5.1.2 - ks ν) ≤ ks r0.1.1.2 - ks ν0; omega⟩ (fun r u hp hx => ?_)
    obtain ⟨er, A1, rfl, hkp⟩ := hp
    rw [er]
    try dsimp only [List.append_nil]
    refine g_widen (k := kc v5.1.2 - kc ν0) (n := ks v5.1.2 - ks ν0) (by omega) (by omega) ?_
    refine g_lv [0, 1, 2] rfl ?_
    exact lb_L_lines_641 hl C hEv hN hr hz hI0 hQ0 (mn_trans hm0 m2) (kp_trans hp0 hm0 hkp)  h
noncomputable def b_L_lines_612 (k465 : MP → NC → AS → Int32 → Int32 → Int32 → Option (((MP × NC) × AS) × Int32)) (k483 : MP → NC → AS → Int32 → Int32 → Int32 → Int32 → Option (((MP × NC) × AS) × Int32)) (w : Nat) (μ : MP) (ν : NC) (a : AS) (x19 : Int32) (x20 : Int32) (x21 : Int32) (x22 : Int32)  : Option (((MP × NC) × AS) × Int32) := yl (x22 + (1 : Int32)) (fun t17 => k483 μ ν a x19 x20 x21 t17)
theorem mb_L_lines_612 {w : Nat} {μ : MP} {ν : NC} {a : AS} {x19 : Int32} {x20 : Int32} {x21 : Int32} {x22 : Int32}  {r0 : ((MP × NC) × AS) × Int32} {k465 : MP → NC → AS → Int32 → Int32 → Int32 → Option (((MP × NC) × AS) × Int32)} {k483 : MP → NC → AS → Int32 → Int32 → Int32 → Int32 → Option (((MP × NC) × AS) × Int32)} (hmk465 : ∀ (μ : MP) (ν : NC) (a : AS) (z19 : Int32) (z20 : Int32) (z21 : Int32), k465 μ ν a z19 z20 z21 = some r0 → mn ν r0.1.1.2) (hmk483 : ∀ (μ : MP) (ν : NC) (a : AS) (z19 : Int32) (z20 : Int32) (z21 : Int32) (z22 : Int32), k483 μ ν a z19 z20 z21 z22 = some r0 → mn ν r0.1.1.2) (h : b_L_lines_612 k465 k483 w μ ν a x19 x20 x21 x22  = some r0) : mn ν r0.1.1.2 := by
  unfold b_L_lines_612 at h
  obtain ⟨t17, et17⟩ : ∃ y, x22 + (1 : Int32) = y := ⟨_, rfl⟩
  replace h := yl_of h et17
  exact hmk483 _ _ _ _ _ _ _ h
set_option maxHeartbeats 4000000 in
set_option maxRecDepth 100000 in
theorem lb_L_lines_612 {p : Program} {l : Launch} (hl : l.stackTraces = false) {e : Env} {s : State} {m : MethodId} {args : Array Value} {below : List Frame} {meth : Method} {c : Code} {D : va_G} {E : Nat → ClassId} {sz : Nat} {μ0 : MP} {ν0 : NC} {a0 : AS} {Ad0 : Nat → Nat → Nat} {Q : Nat → Nat} {B : Nat × (Nat → Nat)} {w : Nat} {r0 : ((MP × NC) × AS) × Int32} (C : cx p s m args meth c D E (Aof (zS μ0 ν0 a0 Ad0) [] s.heap.size) cL_lines 23 "TradeLineLaw") (hEv : eV (Ad0 30 0) (Ad0 31 0) B (Aof (zS μ0 ν0 a0 Ad0) [] s.heap.size) s s.heap) (hN : vN s) (hr : meth.sig.returnType = (some .boolean)) (hz : s.heap.size = sz) (hI0 : lwI ν0) (hQ0 : lwQ Ad0 Q) {μ : MP} {ν : NC} {a : AS} {Ad : Nat → Nat → Nat} (hm0 : mn ν0 ν) (hp0 : kp ν0 Ad0 Ad) {x19 : Int32} {x20 : Int32} {x21 : Int32} {x22 : Int32}  {k465 : MP → NC → AS → Int32 → Int32 → Int32 → Option (((MP × NC) × AS) × Int32)} {k483 : MP → NC → AS → Int32 → Int32 → Int32 → Int32 → Option (((MP × NC) × AS) × Int32)} (hmk465 : ∀ (μ : MP) (ν : NC) (a : AS) (z19 : Int32) (z20 : Int32) (z21 : Int32), k465 μ ν a z19 z20 z21 = some r0 → mn ν r0.1.1.2) (hk465 : ∀ (μ : MP) (ν : NC) (a : AS) (Ad : Nat → Nat → Nat) (z19 : Int32) (z20 : Int32) (z21 : Int32), mn ν0 ν → kp ν0 Ad0 Ad → k465 μ ν a z19 z20 z21 = some r0 → G p l e ({ frames := 14, cells := kc r0.1.1.2 - kc ν0, slots := ks r0.1.1.2 - ks ν0, locals := 398 } : Room) s m args below meth c D E (Aof (zS μ0 ν0 a0 Ad0) [] s.heap.size) 23 (MQ below (cQ D E sz (zS μ0 ν0 a0 Ad0) [] (pI (fun r u => r = r0.2 ∧ ∃ A1, u = (zS r0.1.1.1 r0.1.1.2 r0.1.2 A1, []) ∧ kp ν0 Ad0 A1))) args s (kc r0.1.1.2 - kc ν0) (ks r0.1.1.2 - ks ν0) (Aof (zS μ0 ν0 a0 Ad0) [] s.heap.size)) (zS μ ν a Ad) [] (kc ν - kc ν0) (ks ν - ks ν0) 465 [(0, .ref (Q 0)), (4, .ref (Q 1)), (5, .ref (Q 2)), (6, .ref (Q 3)), (7, .ref (Q 4)), (8, .ref (Q 5)), (9, .ref (Q 6)), (10, .ref (Q 7)), (19, .int z19), (20, .int z20), (21, .int z21)] []) (hmk483 : ∀ (μ : MP) (ν : NC) (a : AS) (z19 : Int32) (z20 : Int32) (z21 : Int32) (z22 : Int32), k483 μ ν a z19 z20 z21 z22 = some r0 → mn ν r0.1.1.2) (hk483 : ∀ (μ : MP) (ν : NC) (a : AS) (Ad : Nat → Nat → Nat) (z19 : Int32) (z20 : Int32) (z21 : Int32) (z22 : Int32), mn ν0 ν → kp ν0 Ad0 Ad → k483 μ ν a z19 z20 z21 z22 = some r0 → G p l e ({ frames := 14, cells := kc r0.1.1.2 - kc ν0, slots := ks r0.1.1.2 - ks ν0, locals := 398 } : Room) s m args below meth c D E (Aof (zS μ0 ν0 a0 Ad0) [] s.heap.size) 23 (MQ below (cQ D E sz (zS μ0 ν0 a0 Ad0) [] (pI (fun r u => r = r0.2 ∧ ∃ A1, u = (zS r0.1.1.1 r0.1.1.2 r0.1.2 A1, []) ∧ kp ν0 Ad0 A1))) args s (kc r0.1.1.2 - kc ν0) (ks r0.1.1.2 - ks ν0) (Aof (zS μ0 ν0 a0 Ad0) [] s.heap.size)) (zS μ ν a Ad) [] (kc ν - kc ν0) (ks ν - ks ν0) 483 [(0, .ref (Q 0)), (4, .ref (Q 1)), (5, .ref (Q 2)), (6, .ref (Q 3)), (7, .ref (Q 4)), (8, .ref (Q 5)), (9, .ref (Q 6)), (10, .ref (Q 7)), (19, .int z19), (20, .int z20), (21, .int z21), (22, .int z22)] []) (h : b_L_lines_612 k465 k483 w μ ν a x19 x20 x21 x22  = some r0) : G p l e ({ frames := 14, cells := kc r0.1.1.2 - kc ν0, slots := ks r0.1.1.2 - ks ν0, locals := 398 } : Room) s m args below meth c D E (Aof (zS μ0 ν0 a0 Ad0) [] s.heap.size) 23 (MQ below (cQ D E sz (zS μ0 ν0 a0 Ad0) [] (pI (fun r u => r = r0.2 ∧ ∃ A1, u = (zS r0.1.1.1 r0.1.1.2 r0.1.2 A1, []) ∧ kp ν0 Ad0 A1))) args s (kc r0.1.1.2 - kc ν0) (ks r0.1.1.2 - ks ν0) (Aof (zS μ0 ν0 a0 Ad0) [] s.heap.size)) (zS μ ν a Ad) [] (kc ν - kc ν0) (ks ν - ks ν0) 612 [(0, .ref (Q 0)), (4, .ref (Q 1)), (5, .ref (Q 2)), (6, .ref (Q 3)), (7, .ref (Q 4)), (8, .ref (Q 5)), (9, .ref (Q 6)), (10, .ref (Q 7)), (19, .int x19), (20, .int x20), (21, .int x21), (22, .int x22)] [] := by
  have m0 := mb_L_lines_612 hmk465 hmk483 h
  have e1 := m0.2.1; have e2 := m0.2.2.1; have e3 := hm0.2.1; have e4 := hm0.2.2.1
  have hI := lwI_mn hI0 hm0; have hQ := lwQ_kp hI0 hp0 hQ0
  unfold b_L_lines_612 at h
  obtain ⟨t17, et17⟩ : ∃ y : Int32, x22 + (1 : Int32) = y := ⟨_, rfl⟩
  replace h := yl_of h et17
  refine g_iinc (v := t17) (lv' := [(22, .int t17), (0, .ref (Q 0)), (4, .ref (Q 1)), (5, .ref (Q 2)), (6, .ref (Q 3)), (7, .ref (Q 4)), (8, .ref (Q 5)), (9, .ref (Q 6)), (10, .ref (Q 7)), (19, .int x19), (20, .int x20), (21, .int x21)]) C dL_lines_612 11 rfl (by rw [← et17]; rfl) (by decide) rfl ?_
  refine g_goto (tgt := 483) C dL_lines_615 (by decide) ?_
  refine g_lv [1, 2, 3, 4, 5, 6, 7, 8, 9, 10, 11, 0] rfl ?_
  exact hk483 _ _ _ _ _ _ _ _ hm0 hp0 h
noncomputable def b_L_lines_584 (k465 : MP → NC → AS → Int32 → Int32 → Int32 → Option (((MP × NC) × AS) × Int32)) (k483 : MP → NC → AS → Int32 → Int32 → Int32 → Int32 → Option (((MP × NC) × AS) × Int32)) (w : Nat) (μ : MP) (ν : NC) (a : AS) (x19 : Int32) (x20 : Int32) (x21 : Int32) (x22 : Int32)  : Option (((MP × NC) × AS) × Int32) := bif ixB (0 : Int32) 22 then bif ixB ((14 : Int32) + x22) 22 then (if ((a 1 (0 : Int32).toNatClampNeg) - (a 1 ((14 : Int32) + x22).toNatClampNeg)) ≤ (24 : Int32) then (b_L_lines_612 k465 k483 w μ ν a x19 x20 x21 x22) else ((f_L_down w a ).bind (fun v18 => b_L_lines_612 k465 k483 w μ ν v18.1 x19 x20 x21 x22))) else none else none
theorem mb_L_lines_584 {w : Nat} {μ : MP} {ν : NC} {a : AS} {x19 : Int32} {x20 : Int32} {x21 : Int32} {x22 : Int32}  {r0 : ((MP × NC) × AS) × Int32} {k465 : MP → NC → AS → Int32 → Int32 → Int32 → Option (((MP × NC) × AS) × Int32)} {k483 : MP → NC → AS → Int32 → Int32 → Int32 → Int32 → Option (((MP × NC) × AS) × Int32)} (hmk465 : ∀ (μ : MP) (ν : NC) (a : AS) (z19 : Int32) (z20 : Int32) (z21 : Int32), k465 μ ν a z19 z20 z21 = some r0 → mn ν r0.1.1.2) (hmk483 : ∀ (μ : MP) (ν : NC) (a : AS) (z19 : Int32) (z20 : Int32) (z21 : Int32) (z22 : Int32), k483 μ ν a z19 z20 z21 z22 = some r0 → mn ν r0.1.1.2) (h : b_L_lines_584 k465 k483 w μ ν a x19 x20 x21 x22  = some r0) : mn ν r0.1.1.2 := by
  unfold b_L_lines_584 at h
  replace h := (of_guard h).2
  replace h := (of_guard h).2
  by_cases c599 : ((a 1 (0 : Int32).toNatClampNeg) - (a 1 ((14 : Int32) + x22).toNatClampNeg)) ≤ (24 : Int32)
  · replace h := (if_pos c599).symm.trans h
    exact mb_L_lines_612 hmk465 hmk483 h
  · replace h := (if_neg c599).symm.trans h
    obtain ⟨v18, hv18, h⟩ := bind_of h
    exact mb_L_lines_612 hmk465 hmk483 h
set_option maxHeartbeats 4000000 in
set_option maxRecDepth 100000 in
theorem lb_L_lines_584 {p : Program} {l : Launch} (hl : l.stackTraces = false) {e : Env} {s : State} {m : MethodId} {args : Array Value} {below : List Frame} {meth : Method} {c : Code} {D : va_G} {E : Nat → ClassId} {sz : Nat} {μ0 : MP} {ν0 : NC} {a0 : AS} {Ad0 : Nat → Nat → Nat} {Q : Nat → Nat} {B : Nat × (Nat → Nat)} {w : Nat} {r0 : ((MP × NC) × AS) × Int32} (C : cx p s m args meth c D E (Aof (zS μ0 ν0 a0 Ad0) [] s.heap.size) cL_lines 23 "TradeLineLaw") (hEv : eV (Ad0 30 0) (Ad0 31 0) B (Aof (zS μ0 ν0 a0 Ad0) [] s.heap.size) s s.heap) (hN : vN s) (hr : meth.sig.returnType = (some .boolean)) (hz : s.heap.size = sz) (hI0 : lwI ν0) (hQ0 : lwQ Ad0 Q) {μ : MP} {ν : NC} {a : AS} {Ad : Nat → Nat → Nat} (hm0 : mn ν0 ν) (hp0 : kp ν0 Ad0 Ad) {x19 : Int32} {x20 : Int32} {x21 : Int32} {x22 : Int32}  {k465 : MP → NC → AS → Int32 → Int32 → Int32 → Option (((MP × NC) × AS) × Int32)} {k483 : MP → NC → AS → Int32 → Int32 → Int32 → Int32 → Option (((MP × NC) × AS) × Int32)} (hmk465 : ∀ (μ : MP) (ν : NC) (a : AS) (z19 : Int32) (z20 : Int32) (z21 : Int32), k465 μ ν a z19 z20 z21 = some r0 → mn ν r0.1.1.2) (hk465 : ∀ (μ : MP) (ν : NC) (a : AS) (Ad : Nat → Nat → Nat) (z19 : Int32) (z20 : Int32) (z21 : Int32), mn ν0 ν → kp ν0 Ad0 Ad → k465 μ ν a z19 z20 z21 = some r0 → G p l e ({ frames := 14, cells := kc r0.1.1.2 - kc ν0, slots := ks r0.1.1.2 - ks ν0, locals := 398 } : Room) s m args below meth c D E (Aof (zS μ0 ν0 a0 Ad0) [] s.heap.size) 23 (MQ below (cQ D E sz (zS μ0 ν0 a0 Ad0) [] (pI (fun r u => r = r0.2 ∧ ∃ A1, u = (zS r0.1.1.1 r0.1.1.2 r0.1.2 A1, []) ∧ kp ν0 Ad0 A1))) args s (kc r0.1.1.2 - kc ν0) (ks r0.1.1.2 - ks ν0) (Aof (zS μ0 ν0 a0 Ad0) [] s.heap.size)) (zS μ ν a Ad) [] (kc ν - kc ν0) (ks ν - ks ν0) 465 [(0, .ref (Q 0)), (4, .ref (Q 1)), (5, .ref (Q 2)), (6, .ref (Q 3)), (7, .ref (Q 4)), (8, .ref (Q 5)), (9, .ref (Q 6)), (10, .ref (Q 7)), (19, .int z19), (20, .int z20), (21, .int z21)] []) (hmk483 : ∀ (μ : MP) (ν : NC) (a : AS) (z19 : Int32) (z20 : Int32) (z21 : Int32) (z22 : Int32), k483 μ ν a z19 z20 z21 z22 = some r0 → mn ν r0.1.1.2) (hk483 : ∀ (μ : MP) (ν : NC) (a : AS) (Ad : Nat → Nat → Nat) (z19 : Int32) (z20 : Int32) (z21 : Int32) (z22 : Int32), mn ν0 ν → kp ν0 Ad0 Ad → k483 μ ν a z19 z20 z21 z22 = some r0 → G p l e ({ frames := 14, cells := kc r0.1.1.2 - kc ν0, slots := ks r0.1.1.2 - ks ν0, locals := 398 } : Room) s m args below meth c D E (Aof (zS μ0 ν0 a0 Ad0) [] s.heap.size) 23 (MQ below (cQ D E sz (zS μ0 ν0 a0 Ad0) [] (pI (fun r u => r = r0.2 ∧ ∃ A1, u = (zS r0.1.1.1 r0.1.1.2 r0.1.2 A1, []) ∧ kp ν0 Ad0 A1))) args s (kc r0.1.1.2 - kc ν0) (ks r0.1.1.2 - ks ν0) (Aof (zS μ0 ν0 a0 Ad0) [] s.heap.size)) (zS μ ν a Ad) [] (kc ν - kc ν0) (ks ν - ks ν0) 483 [(0, .ref (Q 0)), (4, .ref (Q 1)), (5, .ref (Q 2)), (6, .ref (Q 3)), (7, .ref (Q 4)), (8, .ref (Q 5)), (9, .ref (Q 6)), (10, .ref (Q 7)), (19, .int z19), (20, .int z20), (21, .int z21), (22, .int z22)] []) (h : b_L_lines_584 k465 k483 w μ ν a x19 x20 x21 x22  = some r0) : G p l e ({ frames := 14, cells := kc r0.1.1.2 - kc ν0, slots := ks r0.1.1.2 - ks ν0, locals := 398 } : Room) s m args below meth c D E (Aof (zS μ0 ν0 a0 Ad0) [] s.heap.size) 23 (MQ below (cQ D E sz (zS μ0 ν0 a0 Ad0) [] (pI (fun r u => r = r0.2 ∧ ∃ A1, u = (zS r0.1.1.1 r0.1.1.2 r0.1.2 A1, []) ∧ kp ν0 Ad0 A1))) args s (kc r0.1.1.2 - kc ν0) (ks r0.1.1.2 - ks ν0) (Aof (zS μ0 ν0 a0 Ad0) [] s.heap.size)) (zS μ ν a Ad) [] (kc ν - kc ν0) (ks ν - ks ν0) 584 [(0, .ref (Q 0)), (4, .ref (Q 1)), (5, .ref (Q 2)), (6, .ref (Q 3)), (7, .ref (Q 4)), (8, .ref (Q 5)), (9, .ref (Q 6)), (10, .ref (Q 7)), (19, .int x19), (20, .int x20), (21, .int x21), (22, .int x22)] [] := by
  have m0 := mb_L_lines_584 hmk465 hmk483 h
  have e1 := m0.2.1; have e2 := m0.2.2.1; have e3 := hm0.2.1; have e4 := hm0.2.2.1
  have hI := lwI_mn hI0 hm0; have hQ := lwQ_kp hI0 hp0 hQ0
  unfold b_L_lines_584 at h
  refine g_aload C dL_lines_584 1 rfl ?_
  refine g_iconst (v := (0 : Int32)) C dL_lines_586 (by decide) ?_
  obtain ⟨g15, h⟩ := of_guard h
  refine q_iald C (show rsh (ν.1, μ.2, ν.2, Ad) from hI.2) (j := 1) (N := 22) (by decide) (lwQ_i hQ (j := 1) (N := 22) (by decide)) g15 dL_lines_587 ?_
  refine g_aload C dL_lines_588 1 rfl ?_
  refine g_bipush (v := (14 : Int32)) C dL_lines_590 (by decide) ?_
  refine g_iload C dL_lines_592 11 rfl ?_
  refine g_iadd C dL_lines_594 ?_
  obtain ⟨g16, h⟩ := of_guard h
  refine q_iald C (show rsh (ν.1, μ.2, ν.2, Ad) from hI.2) (j := 1) (N := 22) (by decide) (lwQ_i hQ (j := 1) (N := 22) (by decide)) g16 dL_lines_595 ?_
  refine g_isub C dL_lines_596 ?_
  refine g_bipush (v := (24 : Int32)) C dL_lines_597 (by decide) ?_
  refine g_icmp_le (tgt := 612) C dL_lines_599 (by decide) (fun c599 => ?_) (fun c599 => ?_)
  · replace h := (if_pos c599).symm.trans h
    refine g_lv [0, 1, 2, 3, 4, 5, 6, 7, 8, 9, 10, 11] rfl ?_
    exact lb_L_lines_612 hl C hEv hN hr hz hI0 hQ0 hm0 hp0 hmk465 hk465 hmk483 hk483 h
  · replace h := (if_neg c599).symm.trans h
    refine g_aload C dL_lines_602 1 rfl ?_
    refine g_aload C dL_lines_604 6 rfl ?_
    refine g_aload C dL_lines_606 7 rfl ?_
    obtain ⟨v18, hv18, h⟩ := bind_of h
    refine g_cSi (n := 3) (exc := []) (exr := []) C [_, _, _] _ rfl rfl [] [] rfl rfl rfl rfl (fun _ h => absurd h (by simp)) (fun _ h => absurd h (by simp)) (fun _ h => absurd h (by simp)) (fun sz => wk_L_down l _ ν _ Ad Q hI hQ w   _ hv18 D E sz) rfl gw_452 gw_0 gw_450 gw_451 ⟨by decide +kernel, by decide +kernel, by decide +kernel⟩ ⟨rfl, rfl⟩ ⟨Nat.le_of_ble_eq_true rfl, Nat.le_of_ble_eq_true rfl⟩ (Nat.le_of_ble_eq_true rfl) dL_lines_608 ⟨by show (kc ν - kc ν0) + 0 ≤ kc r0.1.1.2 - kc ν0; omega, by show (ks ν - ks ν0) + 0 ≤ ks r0.1.1.2 - ks ν0; omega⟩ (fun r u hp hx => ?_)
    obtain ⟨er, rfl⟩ := hp
    rw [er]
    try dsimp only [List.append_nil]
    refine g_pop C dL_lines_611 rfl ?_
    refine g_lv [0, 1, 2, 3, 4, 5, 6, 7, 8, 9, 10, 11] rfl ?_
    exact lb_L_lines_612 hl C hEv hN hr hz hI0 hQ0 hm0 hp0 hmk465 hk465 hmk483 hk483 h
noncomputable def b_L_lines_543 (k465 : MP → NC → AS → Int32 → Int32 → Int32 → Option (((MP × NC) × AS) × Int32)) (k483 : MP → NC → AS → Int32 → Int32 → Int32 → Int32 → Option (((MP × NC) × AS) × Int32)) (w : Nat) (μ : MP) (ν : NC) (a : AS) (x19 : Int32) (x20 : Int32) (x21 : Int32) (x22 : Int32)  : Option (((MP × NC) × AS) × Int32) := bif ixB (0 : Int32) 22 then bif ixB ((14 : Int32) + x22) 22 then (if ((a 1 (0 : Int32).toNatClampNeg) - (a 1 ((14 : Int32) + x22).toNatClampNeg)) = (15 : Int32) then ((f_L_send w a x22 (2 : Int32) (0 : Int32) (0 : Int32) (0 : Int32) (0 : Int32)).bind (fun v19 => yl (x20 + (1 : Int32)) (fun t20 => b_L_lines_584 k465 k483 w μ ν v19.1 x19 t20 x21 x22))) else (b_L_lines_584 k465 k483 w μ ν a x19 x20 x21 x22)) else none else none
theorem mb_L_lines_543 {w : Nat} {μ : MP} {ν : NC} {a : AS} {x19 : Int32} {x20 : Int32} {x21 : Int32} {x22 : Int32}  {r0 : ((MP × NC) × AS) × Int32} {k465 : MP → NC → AS → Int32 → Int32 → Int32 → Option (((MP × NC) × AS) × Int32)} {k483 : MP → NC → AS → Int32 → Int32 → Int32 → Int32 → Option (((MP × NC) × AS) × Int32)} (hmk465 : ∀ (μ : MP) (ν : NC) (a : AS) (z19 : Int32) (z20 : Int32) (z21 : Int32), k465 μ ν a z19 z20 z21 = some r0 → mn ν r0.1.1.2) (hmk483 : ∀ (μ : MP) (ν : NC) (a : AS) (z19 : Int32) (z20 : Int32) (z21 : Int32) (z22 : Int32), k483 μ ν a z19 z20 z21 z22 = some r0 → mn ν r0.1.1.2) (h : b_L_lines_543 k465 k483 w μ ν a x19 x20 x21 x22  = some r0) : mn ν r0.1.1.2 := by
  unfold b_L_lines_543 at h
  replace h := (of_guard h).2
  replace h := (of_guard h).2
  by_cases c558 : ((a 1 (0 : Int32).toNatClampNeg) - (a 1 ((14 : Int32) + x22).toNatClampNeg)) = (15 : Int32)
  · replace h := (if_pos c558).symm.trans h
    obtain ⟨v19, hv19, h⟩ := bind_of h
    obtain ⟨t20, et20⟩ : ∃ y, x20 + (1 : Int32) = y := ⟨_, rfl⟩
    replace h := yl_of h et20
    exact mb_L_lines_584 hmk465 hmk483 h
  · replace h := (if_neg c558).symm.trans h
    exact mb_L_lines_584 hmk465 hmk483 h
set_option maxHeartbeats 4000000 in
set_option maxRecDepth 100000 in
theorem lb_L_lines_543 {p : Program} {l : Launch} (hl : l.stackTraces = false) {e : Env} {s : State} {m : MethodId} {args : Array Value} {below : List Frame} {meth : Method} {c : Code} {D : va_G} {E : Nat → ClassId} {sz : Nat} {μ0 : MP} {ν0 : NC} {a0 : AS} {Ad0 : Nat → Nat → Nat} {Q : Nat → Nat} {B : Nat × (Nat → Nat)} {w : Nat} {r0 : ((MP × NC) × AS) × Int32} (C : cx p s m args meth c D E (Aof (zS μ0 ν0 a0 Ad0) [] s.heap.size) cL_lines 23 "TradeLineLaw") (hEv : eV (Ad0 30 0) (Ad0 31 0) B (Aof (zS μ0 ν0 a0 Ad0) [] s.heap.size) s s.heap) (hN : vN s) (hr : meth.sig.returnType = (some .boolean)) (hz : s.heap.size = sz) (hI0 : lwI ν0) (hQ0 : lwQ Ad0 Q) {μ : MP} {ν : NC} {a : AS} {Ad : Nat → Nat → Nat} (hm0 : mn ν0 ν) (hp0 : kp ν0 Ad0 Ad) {x19 : Int32} {x20 : Int32} {x21 : Int32} {x22 : Int32}  {k465 : MP → NC → AS → Int32 → Int32 → Int32 → Option (((MP × NC) × AS) × Int32)} {k483 : MP → NC → AS → Int32 → Int32 → Int32 → Int32 → Option (((MP × NC) × AS) × Int32)} (hmk465 : ∀ (μ : MP) (ν : NC) (a : AS) (z19 : Int32) (z20 : Int32) (z21 : Int32), k465 μ ν a z19 z20 z21 = some r0 → mn ν r0.1.1.2) (hk465 : ∀ (μ : MP) (ν : NC) (a : AS) (Ad : Nat → Nat → Nat) (z19 : Int32) (z20 : Int32) (z21 : Int32), mn ν0 ν → kp ν0 Ad0 Ad → k465 μ ν a z19 z20 z21 = some r0 → G p l e ({ frames := 14, cells := kc r0.1.1.2 - kc ν0, slots := ks r0.1.1.2 - ks ν0, locals := 398 } : Room) s m args below meth c D E (Aof (zS μ0 ν0 a0 Ad0) [] s.heap.size) 23 (MQ below (cQ D E sz (zS μ0 ν0 a0 Ad0) [] (pI (fun r u => r = r0.2 ∧ ∃ A1, u = (zS r0.1.1.1 r0.1.1.2 r0.1.2 A1, []) ∧ kp ν0 Ad0 A1))) args s (kc r0.1.1.2 - kc ν0) (ks r0.1.1.2 - ks ν0) (Aof (zS μ0 ν0 a0 Ad0) [] s.heap.size)) (zS μ ν a Ad) [] (kc ν - kc ν0) (ks ν - ks ν0) 465 [(0, .ref (Q 0)), (4, .ref (Q 1)), (5, .ref (Q 2)), (6, .ref (Q 3)), (7, .ref (Q 4)), (8, .ref (Q 5)), (9, .ref (Q 6)), (10, .ref (Q 7)), (19, .int z19), (20, .int z20), (21, .int z21)] []) (hmk483 : ∀ (μ : MP) (ν : NC) (a : AS) (z19 : Int32) (z20 : Int32) (z21 : Int32) (z22 : Int32), k483 μ ν a z19 z20 z21 z22 = some r0 → mn ν r0.1.1.2) (hk483 : ∀ (μ : MP) (ν : NC) (a : AS) (Ad : Nat → Nat → Nat) (z19 : Int32) (z20 : Int32) (z21 : Int32) (z22 : Int32), mn ν0 ν → kp ν0 Ad0 Ad → k483 μ ν a z19 z20 z21 z22 = some r0 → G p l e ({ frames := 14, cells := kc r0.1.1.2 - kc ν0, slots := ks r0.1.1.2 - ks ν0, locals := 398 } : Room) s m args below meth c D E (Aof (zS μ0 ν0 a0 Ad0) [] s.heap.size) 23 (MQ below (cQ D E sz (zS μ0 ν0 a0 Ad0) [] (pI (fun r u => r = r0.2 ∧ ∃ A1, u = (zS r0.1.1.1 r0.1.1.2 r0.1.2 A1, []) ∧ kp ν0 Ad0 A1))) args s (kc r0.1.1.2 - kc ν0) (ks r0.1.1.2 - ks ν0) (Aof (zS μ0 ν0 a0 Ad0) [] s.heap.size)) (zS μ ν a Ad) [] (kc ν - kc ν0) (ks ν - ks ν0) 483 [(0, .ref (Q 0)), (4, .ref (Q 1)), (5, .ref (Q 2)), (6, .ref (Q 3)), (7, .ref (Q 4)), (8, .ref (Q 5)), (9, .ref (Q 6)), (10, .ref (Q 7)), (19, .int z19), (20, .int z20), (21, .int z21), (22, .int z22)] []) (h : b_L_lines_543 k465 k483 w μ ν a x19 x20 x21 x22  = some r0) : G p l e ({ frames := 14, cells := kc r0.1.1.2 - kc ν0, slots := ks r0.1.1.2 - ks ν0, locals := 398 } : Room) s m args below meth c D E (Aof (zS μ0 ν0 a0 Ad0) [] s.heap.size) 23 (MQ below (cQ D E sz (zS μ0 ν0 a0 Ad0) [] (pI (fun r u => r = r0.2 ∧ ∃ A1, u = (zS r0.1.1.1 r0.1.1.2 r0.1.2 A1, []) ∧ kp ν0 Ad0 A1))) args s (kc r0.1.1.2 - kc ν0) (ks r0.1.1.2 - ks ν0) (Aof (zS μ0 ν0 a0 Ad0) [] s.heap.size)) (zS μ ν a Ad) [] (kc ν - kc ν0) (ks ν - ks ν0) 543 [(0, .ref (Q 0)), (4, .ref (Q 1)), (5, .ref (Q 2)), (6, .ref (Q 3)), (7, .ref (Q 4)), (8, .ref (Q 5)), (9, .ref (Q 6)), (10, .ref (Q 7)), (19, .int x19), (20, .int x20), (21, .int x21), (22, .int x22)] [] := by
  have m0 := mb_L_lines_543 hmk465 hmk483 h
  have e1 := m0.2.1; have e2 := m0.2.2.1; have e3 := hm0.2.1; have e4 := hm0.2.2.1
  have hI := lwI_mn hI0 hm0; have hQ := lwQ_kp hI0 hp0 hQ0
  unfold b_L_lines_543 at h
  refine g_aload C dL_lines_543 1 rfl ?_
  refine g_iconst (v := (0 : Int32)) C dL_lines_545 (by decide) ?_
  obtain ⟨g13, h⟩ := of_guard h
  refine q_iald C (show rsh (ν.1, μ.2, ν.2, Ad) from hI.2) (j := 1) (N := 22) (by decide) (lwQ_i hQ (j := 1) (N := 22) (by decide)) g13 dL_lines_546 ?_
  refine g_aload C dL_lines_547 1 rfl ?_
  refine g_bipush (v := (14 : Int32)) C dL_lines_549 (by decide) ?_
  refine g_iload C dL_lines_551 11 rfl ?_
  refine g_iadd C dL_lines_553 ?_
  obtain ⟨g14, h⟩ := of_guard h
  refine q_iald C (show rsh (ν.1, μ.2, ν.2, Ad) from hI.2) (j := 1) (N := 22) (by decide) (lwQ_i hQ (j := 1) (N := 22) (by decide)) g14 dL_lines_554 ?_
  refine g_isub C dL_lines_555 ?_
  refine g_bipush (v := (15 : Int32)) C dL_lines_556 (by decide) ?_
  refine g_icmp_ne (tgt := 584) C dL_lines_558 (by decide) (fun c558 => ?_) (fun c558 => ?_)
  · replace h := (if_neg c558).symm.trans h
    refine g_lv [0, 1, 2, 3, 4, 5, 6, 7, 8, 9, 10, 11] rfl ?_
    exact lb_L_lines_584 hl C hEv hN hr hz hI0 hQ0 hm0 hp0 hmk465 hk465 hmk483 hk483 h
  · replace h := (if_pos c558).symm.trans h
    refine g_aload C dL_lines_561 1 rfl ?_
    refine g_aload C dL_lines_563 2 rfl ?_
    refine g_aload C dL_lines_565 3 rfl ?_
    refine g_aload C dL_lines_567 4 rfl ?_
    refine g_aload C dL_lines_569 5 rfl ?_
    refine g_iload C dL_lines_571 11 rfl ?_
    refine g_iconst (v := (2 : Int32)) C dL_lines_573 (by decide) ?_
    refine g_iconst (v := (0 : Int32)) C dL_lines_574 (by decide) ?_
    refine g_iconst (v := (0 : Int32)) C dL_lines_575 (by decide) ?_
    refine g_iconst (v := (0 : Int32)) C dL_lines_576 (by decide) ?_
    refine g_iconst (v := (0 : Int32)) C dL_lines_577 (by decide) ?_
    obtain ⟨v19, hv19, h⟩ := bind_of h
    refine g_cSv (n := 11) (exc := []) (exr := []) C [_, _, _, _, _, _, _, _, _, _, _] _ rfl rfl [] [] rfl rfl rfl rfl (fun _ h => absurd h (by simp)) (fun _ h => absurd h (by simp)) (fun _ h => absurd h (by simp)) (fun sz => wk_L_send l _ ν _ Ad Q hI hQ w _ _ _ _ _ _  _ hv19 D E sz) rfl gw_458 gw_0 gw_456 gw_457 ⟨by decide +kernel, by decide +kernel, by decide +kernel⟩ ⟨rfl, rfl⟩ ⟨Nat.le_of_ble_eq_true rfl, Nat.le_of_ble_eq_true rfl⟩ (Nat.le_of_ble_eq_true rfl) dL_lines_578 ⟨by show (kc ν - kc ν0) + 0 ≤ kc r0.1.1.2 - kc ν0; omega, by show (ks ν - ks ν0) + 0 ≤ ks r0.1.1.2 - ks ν0; omega⟩ (fun u hp hx => ?_)
    obtain rfl := hp
    try dsimp only [List.append_nil]
    obtain ⟨t20, et20⟩ : ∃ y : Int32, x20 + (1 : Int32) = y := ⟨_, rfl⟩
    replace h := yl_of h et20
    refine g_iinc (v := t20) (lv' := [(20, .int t20), (0, .ref (Q 0)), (4, .ref (Q 1)), (5, .ref (Q 2)), (6, .ref (Q 3)), (7, .ref (Q 4)), (8, .ref (Q 5)), (9, .ref (Q 6)), (10, .ref (Q 7)), (19, .int x19), (21, .int x21), (22, .int x22)]) C dL_lines_581 9 rfl (by rw [← et20]; rfl) (by decide) rfl ?_
    refine g_lv [1, 2, 3, 4, 5, 6, 7, 8, 9, 0, 10, 11] rfl ?_
    exact lb_L_lines_584 hl C hEv hN hr hz hI0 hQ0 hm0 hp0 hmk465 hk465 hmk483 hk483 h
noncomputable def b_L_lines_483 (k465 : MP → NC → AS → Int32 → Int32 → Int32 → Option (((MP × NC) × AS) × Int32)) (k483 : MP → NC → AS → Int32 → Int32 → Int32 → Int32 → Option (((MP × NC) × AS) × Int32)) (w : Nat) (μ : MP) (ν : NC) (a : AS) (x19 : Int32) (x20 : Int32) (x21 : Int32) (x22 : Int32)  : Option (((MP × NC) × AS) × Int32) := (if (2 : Int32) ≤ x22 then (yl (x21 + (1 : Int32)) (fun t9 => k465 μ ν a x19 x20 t9)) else (bif ixB ((2 : Int32) + x22) 22 then (if (a 1 ((2 : Int32) + x22).toNatClampNeg) = (0 : Int32) then (b_L_lines_612 k465 k483 w μ ν a x19 x20 x21 x22) else (bif ixB (0 : Int32) 22 then bif ixB ((12 : Int32) + x22) 22 then (if ((a 1 (0 : Int32).toNatClampNeg) - (a 1 ((12 : Int32) + x22).toNatClampNeg)) ≤ (9 : Int32) then (b_L_lines_543 k465 k483 w μ ν a x19 x20 x21 x22) else ((f_L_send w a x22 (1 : Int32) (0 : Int32) (0 : Int32) (0 : Int32) (0 : Int32)).bind (fun v21 => yl (x20 + (1 : Int32)) (fun t22 => b_L_lines_543 k465 k483 w μ ν v21.1 x19 t22 x21 x22)))) else none else none)) else none))
theorem mb_L_lines_483 {w : Nat} {μ : MP} {ν : NC} {a : AS} {x19 : Int32} {x20 : Int32} {x21 : Int32} {x22 : Int32}  {r0 : ((MP × NC) × AS) × Int32} {k465 : MP → NC → AS → Int32 → Int32 → Int32 → Option (((MP × NC) × AS) × Int32)} {k483 : MP → NC → AS → Int32 → Int32 → Int32 → Int32 → Option (((MP × NC) × AS) × Int32)} (hmk465 : ∀ (μ : MP) (ν : NC) (a : AS) (z19 : Int32) (z20 : Int32) (z21 : Int32), k465 μ ν a z19 z20 z21 = some r0 → mn ν r0.1.1.2) (hmk483 : ∀ (μ : MP) (ν : NC) (a : AS) (z19 : Int32) (z20 : Int32) (z21 : Int32) (z22 : Int32), k483 μ ν a z19 z20 z21 z22 = some r0 → mn ν r0.1.1.2) (h : b_L_lines_483 k465 k483 w μ ν a x19 x20 x21 x22  = some r0) : mn ν r0.1.1.2 := by
  unfold b_L_lines_483 at h
  by_cases c486 : (2 : Int32) ≤ x22
  · replace h := (if_pos c486).symm.trans h
    obtain ⟨t9, et9⟩ : ∃ y, x21 + (1 : Int32) = y := ⟨_, rfl⟩
    replace h := yl_of h et9
    exact hmk465 _ _ _ _ _ _ h
  · replace h := (if_neg c486).symm.trans h
    replace h := (of_guard h).2
    by_cases c496 : (a 1 ((2 : Int32) + x22).toNatClampNeg) = (0 : Int32)
    · replace h := (if_pos c496).symm.trans h
      exact mb_L_lines_612 hmk465 hmk483 h
    · replace h := (if_neg c496).symm.trans h
      replace h := (of_guard h).2
      replace h := (of_guard h).2
      by_cases c517 : ((a 1 (0 : Int32).toNatClampNeg) - (a 1 ((12 : Int32) + x22).toNatClampNeg)) ≤ (9 : Int32)
      · replace h := (if_pos c517).symm.trans h
        exact mb_L_lines_543 hmk465 hmk483 h
      · replace h := (if_neg c517).symm.trans h
        obtain ⟨v21, hv21, h⟩ := bind_of h
        obtain ⟨t22, et22⟩ : ∃ y, x20 + (1 : Int32) = y := ⟨_, rfl⟩
        replace h := yl_of h et22
        exact mb_L_lines_543 hmk465 hmk483 h
set_option maxHeartbeats 4000000 in
set_option maxRecDepth 100000 in
theorem lb_L_lines_483 {p : Program} {l : Launch} (hl : l.stackTraces = false) {e : Env} {s : State} {m : MethodId} {args : Array Value} {below : List Frame} {meth : Method} {c : Code} {D : va_G} {E : Nat → ClassId} {sz : Nat} {μ0 : MP} {ν0 : NC} {a0 : AS} {Ad0 : Nat → Nat → Nat} {Q : Nat → Nat} {B : Nat × (Nat → Nat)} {w : Nat} {r0 : ((MP × NC) × AS) × Int32} (C : cx p s m args meth c D E (Aof (zS μ0 ν0 a0 Ad0) [] s.heap.size) cL_lines 23 "TradeLineLaw") (hEv : eV (Ad0 30 0) (Ad0 31 0) B (Aof (zS μ0 ν0 a0 Ad0) [] s.heap.size) s s.heap) (hN : vN s) (hr : meth.sig.returnType = (some .boolean)) (hz : s.heap.size = sz) (hI0 : lwI ν0) (hQ0 : lwQ Ad0 Q) {μ : MP} {ν : NC} {a : AS} {Ad : Nat → Nat → Nat} (hm0 : mn ν0 ν) (hp0 : kp ν0 Ad0 Ad) {x19 : Int32} {x20 : Int32} {x21 : Int32} {x22 : Int32}  {k465 : MP → NC → AS → Int32 → Int32 → Int32 → Option (((MP × NC) × AS) × Int32)} {k483 : MP → NC → AS → Int32 → Int32 → Int32 → Int32 → Option (((MP × NC) × AS) × Int32)} (hmk465 : ∀ (μ : MP) (ν : NC) (a : AS) (z19 : Int32) (z20 : Int32) (z21 : Int32), k465 μ ν a z19 z20 z21 = some r0 → mn ν r0.1.1.2) (hk465 : ∀ (μ : MP) (ν : NC) (a : AS) (Ad : Nat → Nat → Nat) (z19 : Int32) (z20 : Int32) (z21 : Int32), mn ν0 ν → kp ν0 Ad0 Ad → k465 μ ν a z19 z20 z21 = some r0 → G p l e ({ frames := 14, cells := kc r0.1.1.2 - kc ν0, slots := ks r0.1.1.2 - ks ν0, locals := 398 } : Room) s m args below meth c D E (Aof (zS μ0 ν0 a0 Ad0) [] s.heap.size) 23 (MQ below (cQ D E sz (zS μ0 ν0 a0 Ad0) [] (pI (fun r u => r = r0.2 ∧ ∃ A1, u = (zS r0.1.1.1 r0.1.1.2 r0.1.2 A1, []) ∧ kp ν0 Ad0 A1))) args s (kc r0.1.1.2 - kc ν0) (ks r0.1.1.2 - ks ν0) (Aof (zS μ0 ν0 a0 Ad0) [] s.heap.size)) (zS μ ν a Ad) [] (kc ν - kc ν0) (ks ν - ks ν0) 465 [(0, .ref (Q 0)), (4, .ref (Q 1)), (5, .ref (Q 2)), (6, .ref (Q 3)), (7, .ref (Q 4)), (8, .ref (Q 5)), (9, .ref (Q 6)), (10, .ref (Q 7)), (19, .int z19), (20, .int z20), (21, .int z21)] []) (hmk483 : ∀ (μ : MP) (ν : NC) (a : AS) (z19 : Int32) (z20 : Int32) (z21 : Int32) (z22 : Int32), k483 μ ν a z19 z20 z21 z22 = some r0 → mn ν r0.1.1.2) (hk483 : ∀ (μ : MP) (ν : NC) (a : AS) (Ad : Nat → Nat → Nat) (z19 : Int32) (z20 : Int32) (z21 : Int32) (z22 : Int32), mn ν0 ν → kp ν0 Ad0 Ad → k483 μ ν a z19 z20 z21 z22 = some r0 → G p l e ({ frames := 14, cells := kc r0.1.1.2 - kc ν0, slots := ks r0.1.1.2 - ks ν0, locals := 398 } : Room) s m args below meth c D E (Aof (zS μ0 ν0 a0 Ad0) [] s.heap.size) 23 (MQ below (cQ D E sz (zS μ0 ν0 a0 Ad0) [] (pI (fun r u => r = r0.2 ∧ ∃ A1, u = (zS r0.1.1.1 r0.1.1.2 r0.1.2 A1, []) ∧ kp ν0 Ad0 A1))) args s (kc r0.1.1.2 - kc ν0) (ks r0.1.1.2 - ks ν0) (Aof (zS μ0 ν0 a0 Ad0) [] s.heap.size)) (zS μ ν a Ad) [] (kc ν - kc ν0) (ks ν - ks ν0) 483 [(0, .ref (Q 0)), (4, .ref (Q 1)), (5, .ref (Q 2)), (6, .ref (Q 3)), (7, .ref (Q 4)), (8, .ref (Q 5)), (9, .ref (Q 6)), (10, .ref (Q 7)), (19, .int z19), (20, .int z20), (21, .int z21), (22, .int z22)] []) (h : b_L_lines_483 k465 k483 w μ ν a x19 x20 x21 x22  = some r0) : G p l e ({ frames := 14, cells := kc r0.1.1.2 - kc ν0, slots := ks r0.1.1.2 - ks ν0, locals := 398 } : Room) s m args below meth c D E (Aof (zS μ0 ν0 a0 Ad0) [] s.heap.size) 23 (MQ below (cQ D E sz (zS μ0 ν0 a0 Ad0) [] (pI (fun r u => r = r0.2 ∧ ∃ A1, u = (zS r0.1.1.1 r0.1.1.2 r0.1.2 A1, []) ∧ kp ν0 Ad0 A1))) args s (kc r0.1.1.2 - kc ν0) (ks r0.1.1.2 - ks ν0) (Aof (zS μ0 ν0 a0 Ad0) [] s.heap.size)) (zS μ ν a Ad) [] (kc ν - kc ν0) (ks ν - ks ν0) 483 [(0, .ref (Q 0)), (4, .ref (Q 1)), (5, .ref (Q 2)), (6, .ref (Q 3)), (7, .ref (Q 4)), (8, .ref (Q 5)), (9, .ref (Q 6)), (10, .ref (Q 7)), (19, .int x19), (20, .int x20), (21, .int x21), (22, .int x22)] [] := by
  have m0 := mb_L_lines_483 hmk465 hmk483 h
  have e1 := m0.2.1; have e2 := m0.2.2.1; have e3 := hm0.2.1; have e4 := hm0.2.2.1
  have hI := lwI_mn hI0 hm0; have hQ := lwQ_kp hI0 hp0 hQ0
  unfold b_L_lines_483 at h
  refine g_iload C dL_lines_483 11 rfl ?_
  refine g_iconst (v := (2 : Int32)) C dL_lines_485 (by decide) ?_
  refine g_icmp_ge (tgt := 618) C dL_lines_486 (by decide) (fun c486 => ?_) (fun c486 => ?_)
  · replace h := (if_pos c486).symm.trans h
    obtain ⟨t9, et9⟩ : ∃ y : Int32, x21 + (1 : Int32) = y := ⟨_, rfl⟩
    replace h := yl_of h et9
    refine g_iinc (v := t9) (lv' := [(21, .int t9), (0, .ref (Q 0)), (4, .ref (Q 1)), (5, .ref (Q 2)), (6, .ref (Q 3)), (7, .ref (Q 4)), (8, .ref (Q 5)), (9, .ref (Q 6)), (10, .ref (Q 7)), (19, .int x19), (20, .int x20), (22, .int x22)]) C dL_lines_618 10 rfl (by rw [← et9]; rfl) (by decide) rfl ?_
    refine g_goto (tgt := 465) C dL_lines_621 (by decide) ?_
    refine g_lv [1, 2, 3, 4, 5, 6, 7, 8, 9, 10, 0] rfl ?_
    exact hk465 _ _ _ _ _ _ _ hm0 hp0 h
  · replace h := (if_neg c486).symm.trans h
    refine g_aload C dL_lines_489 1 rfl ?_
    refine g_iconst (v := (2 : Int32)) C dL_lines_491 (by decide) ?_
    refine g_iload C dL_lines_492 11 rfl ?_
    refine g_iadd C dL_lines_494 ?_
    obtain ⟨g10, h⟩ := of_guard h
    refine q_iald C (show rsh (ν.1, μ.2, ν.2, Ad) from hI.2) (j := 1) (N := 22) (by decide) (lwQ_i hQ (j := 1) (N := 22) (by decide)) g10 dL_lines_495 ?_
    refine g_if_ne (tgt := 502) C dL_lines_496 (by decide) (fun c496 => ?_) (fun c496 => ?_)
    · replace h := (if_neg c496).symm.trans h
      refine g_aload C dL_lines_502 1 rfl ?_
      refine g_iconst (v := (0 : Int32)) C dL_lines_504 (by decide) ?_
      obtain ⟨g11, h⟩ := of_guard h
      refine q_iald C (show rsh (ν.1, μ.2, ν.2, Ad) from hI.2) (j := 1) (N := 22) (by decide) (lwQ_i hQ (j := 1) (N := 22) (by decide)) g11 dL_lines_505 ?_
      refine g_aload C dL_lines_506 1 rfl ?_
      refine g_bipush (v := (12 : Int32)) C dL_lines_508 (by decide) ?_
      refine g_iload C dL_lines_510 11 rfl ?_
      refine g_iadd C dL_lines_512 ?_
      obtain ⟨g12, h⟩ := of_guard h
      refine q_iald C (show rsh (ν.1, μ.2, ν.2, Ad) from hI.2) (j := 1) (N := 22) (by decide) (lwQ_i hQ (j := 1) (N := 22) (by decide)) g12 dL_lines_513 ?_
      refine g_isub C dL_lines_514 ?_
      refine g_bipush (v := (9 : Int32)) C dL_lines_515 (by decide) ?_
      refine g_icmp_le (tgt := 543) C dL_lines_517 (by decide) (fun c517 => ?_) (fun c517 => ?_)
      · replace h := (if_pos c517).symm.trans h
        refine g_lv [0, 1, 2, 3, 4, 5, 6, 7, 8, 9, 10, 11] rfl ?_
        exact lb_L_lines_543 hl C hEv hN hr hz hI0 hQ0 hm0 hp0 hmk465 hk465 hmk483 hk483 h
      · replace h := (if_neg c517).symm.trans h
        refine g_aload C dL_lines_520 1 rfl ?_
        refine g_aload C dL_lines_522 2 rfl ?_
        refine g_aload C dL_lines_524 3 rfl ?_
        refine g_aload C dL_lines_526 4 rfl ?_
        refine g_aload C dL_lines_528 5 rfl ?_
        refine g_iload C dL_lines_530 11 rfl ?_
        refine g_iconst (v := (1 : Int32)) C dL_lines_532 (by decide) ?_
        refine g_iconst (v := (0 : Int32)) C dL_lines_533 (by decide) ?_
        refine g_iconst (v := (0 : Int32)) C dL_lines_534 (by decide) ?_
        refine g_iconst (v := (0 : Int32)) C dL_lines_535 (by decide) ?_
        refine g_iconst (v := (0 : Int32)) C dL_lines_536 (by decide) ?_
        obtain ⟨v21, hv21, h⟩ := bind_of h
        refine g_cSv (n := 11) (exc := []) (exr := []) C [_, _, _, _, _, _, _, _, _, _, _] _ rfl rfl [] [] rfl rfl rfl rfl (fun _ h => absurd h (by simp)) (fun _ h => absurd h (by simp)) (fun _ h => absurd h (by simp)) (fun sz => wk_L_send l _ ν _ Ad Q hI hQ w _ _ _ _ _ _  _ hv21 D E sz) rfl gw_458 gw_0 gw_456 gw_457 ⟨by decide +kernel, by decide +kernel, by decide +kernel⟩ ⟨rfl, rfl⟩ ⟨Nat.le_of_ble_eq_true rfl, Nat.le_of_ble_eq_true rfl⟩ (Nat.le_of_ble_eq_true rfl) dL_lines_537 ⟨by show (kc ν - kc ν0) + 0 ≤ kc r0.1.1.2 - kc ν0; omega, by show (ks ν - ks ν0) + 0 ≤ ks r0.1.1.2 - ks ν0; omega⟩ (fun u hp hx => ?_)
        obtain rfl := hp
        try dsimp only [List.append_nil]
        obtain ⟨t22, et22⟩ : ∃ y : Int32, x20 + (1 : Int32) = y := ⟨_, rfl⟩
        replace h := yl_of h et22
        refine g_iinc (v := t22) (lv' := [(20, .int t22), (0, .ref (Q 0)), (4, .ref (Q 1)), (5, .ref (Q 2)), (6, .ref (Q 3)), (7, .ref (Q 4)), (8, .ref (Q 5)), (9, .ref (Q 6)), (10, .ref (Q 7)), (19, .int x19), (21, .int x21), (22, .int x22)]) C dL_lines_540 9 rfl (by rw [← et22]; rfl) (by decide) rfl ?_
        refine g_lv [1, 2, 3, 4, 5, 6, 7, 8, 9, 0, 10, 11] rfl ?_
        exact lb_L_lines_543 hl C hEv hN hr hz hI0 hQ0 hm0 hp0 hmk465 hk465 hmk483 hk483 h
    · replace h := (if_pos c496).symm.trans h
      refine g_goto (tgt := 612) C dL_lines_499 (by decide) ?_
      refine g_lv [0, 1, 2, 3, 4, 5, 6, 7, 8, 9, 10, 11] rfl ?_
      exact lb_L_lines_612 hl C hEv hN hr hz hI0 hQ0 hm0 hp0 hmk465 hk465 hmk483 hk483 h
noncomputable def l_L_lines_483 (k465 : MP → NC → AS → Int32 → Int32 → Int32 → Option (((MP × NC) × AS) × Int32)) (w : Nat) : Nat → MP → NC → AS → Int32 → Int32 → Int32 → Int32 → Option (((MP × NC) × AS) × Int32)
  | 0 => fun _ _ _ _ _ _ _ => none
  | n + 1 => fun μ ν a x19 x20 x21 x22 => b_L_lines_483 k465 (l_L_lines_483 k465 w n) w μ ν a x19 x20 x21 x22
theorem ml_L_lines_483 {w : Nat} {r0 : ((MP × NC) × AS) × Int32} {k465 : MP → NC → AS → Int32 → Int32 → Int32 → Option (((MP × NC) × AS) × Int32)} (hmk465 : ∀ (μ : MP) (ν : NC) (a : AS) (z19 : Int32) (z20 : Int32) (z21 : Int32), k465 μ ν a z19 z20 z21 = some r0 → mn ν r0.1.1.2) : ∀ (n : Nat) (μ : MP) (ν : NC) (a : AS) (x19 : Int32) (x20 : Int32) (x21 : Int32) (x22 : Int32), l_L_lines_483 k465 w n μ ν a x19 x20 x21 x22 = some r0 → mn ν r0.1.1.2 := by
  intro n
  induction n with
  | zero => exact fun μ ν a x19 x20 x21 x22 h => absurd (show (none : Option (((MP × NC) × AS) × Int32)) = some r0 from h) (by simp)
  | succ n ih => exact fun μ ν a x19 x20 x21 x22 h => mb_L_lines_483 hmk465 ih h
theorem ll_L_lines_483 {p : Program} {l : Launch} (hl : l.stackTraces = false) {e : Env} {s : State} {m : MethodId} {args : Array Value} {below : List Frame} {meth : Method} {c : Code} {D : va_G} {E : Nat → ClassId} {sz : Nat} {μ0 : MP} {ν0 : NC} {a0 : AS} {Ad0 : Nat → Nat → Nat} {Q : Nat → Nat} {B : Nat × (Nat → Nat)} {w : Nat} {r0 : ((MP × NC) × AS) × Int32} (C : cx p s m args meth c D E (Aof (zS μ0 ν0 a0 Ad0) [] s.heap.size) cL_lines 23 "TradeLineLaw") (hEv : eV (Ad0 30 0) (Ad0 31 0) B (Aof (zS μ0 ν0 a0 Ad0) [] s.heap.size) s s.heap) (hN : vN s) (hr : meth.sig.returnType = (some .boolean)) (hz : s.heap.size = sz) (hI0 : lwI ν0) (hQ0 : lwQ Ad0 Q) {k465 : MP → NC → AS → Int32 → Int32 → Int32 → Option (((MP × NC) × AS) × Int32)} (hmk465 : ∀ (μ : MP) (ν : NC) (a : AS) (z19 : Int32) (z20 : Int32) (z21 : Int32), k465 μ ν a z19 z20 z21 = some r0 → mn ν r0.1.1.2) (hk465 : ∀ (μ : MP) (ν : NC) (a : AS) (Ad : Nat → Nat → Nat) (z19 : Int32) (z20 : Int32) (z21 : Int32), mn ν0 ν → kp ν0 Ad0 Ad → k465 μ ν a z19 z20 z21 = some r0 → G p l e ({ frames := 14, cells := kc r0.1.1.2 - kc ν0, slots := ks r0.1.1.2 - ks ν0, locals := 398 } : Room) s m args below meth c D E (Aof (zS μ0 ν0 a0 Ad0) [] s.heap.size) 23 (MQ below (cQ D E sz (zS μ0 ν0 a0 Ad0) [] (pI (fun r u => r = r0.2 ∧ ∃ A1, u = (zS r0.1.1.1 r0.1.1.2 r0.1.2 A1, []) ∧ kp ν0 Ad0 A1))) args s (kc r0.1.1.2 - kc ν0) (ks r0.1.1.2 - ks ν0) (Aof (zS μ0 ν0 a0 Ad0) [] s.heap.size)) (zS μ ν a Ad) [] (kc ν - kc ν0) (ks ν - ks ν0) 465 [(0, .ref (Q 0)), (4, .ref (Q 1)), (5, .ref (Q 2)), (6, .ref (Q 3)), (7, .ref (Q 4)), (8, .ref (Q 5)), (9, .ref (Q 6)), (10, .ref (Q 7)), (19, .int z19), (20, .int z20), (21, .int z21)] []) : ∀ (n : Nat) (μ : MP) (ν : NC) (a : AS) (Ad : Nat → Nat → Nat) (x19 : Int32) (x20 : Int32) (x21 : Int32) (x22 : Int32), mn ν0 ν → kp ν0 Ad0 Ad → l_L_lines_483 k465 w n μ ν a x19 x20 x21 x22 = some r0 → G p l e ({ frames := 14, cells := kc r0.1.1.2 - kc ν0, slots := ks r0.1.1.2 - ks ν0, locals := 398 } : Room) s m args below meth c D E (Aof (zS μ0 ν0 a0 Ad0) [] s.heap.size) 23 (MQ below (cQ D E sz (zS μ0 ν0 a0 Ad0) [] (pI (fun r u => r = r0.2 ∧ ∃ A1, u = (zS r0.1.1.1 r0.1.1.2 r0.1.2 A1, []) ∧ kp ν0 Ad0 A1))) args s (kc r0.1.1.2 - kc ν0) (ks r0.1.1.2 - ks ν0) (Aof (zS μ0 ν0 a0 Ad0) [] s.heap.size)) (zS μ ν a Ad) [] (kc ν - kc ν0) (ks ν - ks ν0) 483 [(0, .ref (Q 0)), (4, .ref (Q 1)), (5, .ref (Q 2)), (6, .ref (Q 3)), (7, .ref (Q 4)), (8, .ref (Q 5)), (9, .ref (Q 6)), (10, .ref (Q 7)), (19, .int x19), (20, .int x20), (21, .int x21), (22, .int x22)] [] := by
  intro n
  induction n with
  | zero => exact fun μ ν a Ad x19 x20 x21 x22 hm0 hp0 h => absurd (show (none : Option (((MP × NC) × AS) × Int32)) = some r0 from h) (by simp)
  | succ n ih => exact fun μ ν a Ad x19 x20 x21 x22 hm0 hp0 h => lb_L_lines_483 (w := w) hl C hEv hN hr hz hI0 hQ0 hm0 hp0 hmk465 hk465 (fun μ ν a x19 x20 x21 x22 h => ml_L_lines_483 hmk465 n μ ν a x19 x20 x21 x22 h) ih h
noncomputable def b_L_lines_465 (k465 : MP → NC → AS → Int32 → Int32 → Int32 → Option (((MP × NC) × AS) × Int32)) (w : Nat) (μ : MP) (ν : NC) (a : AS) (x19 : Int32) (x20 : Int32) (x21 : Int32)  : Option (((MP × NC) × AS) × Int32) := (if x19 ≤ x21 then ((f_L_pass w μ ν (0 : Int32)).bind (fun v4 => b_L_lines_629  w v4.1.1 v4.1.2 a x19 x20 v4.2)) else (bif ixB (0 : Int32) 22 then yl (up2 a 1 (0 : Int32).toNatClampNeg ((a 1 (0 : Int32).toNatClampNeg) + (1 : Int32))) (fun a8 => l_L_lines_483 k465 w w μ ν a8 x19 x20 x21 (0 : Int32)) else none))
theorem mb_L_lines_465 {w : Nat} {μ : MP} {ν : NC} {a : AS} {x19 : Int32} {x20 : Int32} {x21 : Int32}  {r0 : ((MP × NC) × AS) × Int32} {k465 : MP → NC → AS → Int32 → Int32 → Int32 → Option (((MP × NC) × AS) × Int32)} (hmk465 : ∀ (μ : MP) (ν : NC) (a : AS) (z19 : Int32) (z20 : Int32) (z21 : Int32), k465 μ ν a z19 z20 z21 = some r0 → mn ν r0.1.1.2) (h : b_L_lines_465 k465 w μ ν a x19 x20 x21  = some r0) : mn ν r0.1.1.2 := by
  unfold b_L_lines_465 at h
  by_cases c469 : x19 ≤ x21
  · replace h := (if_pos c469).symm.trans h
    obtain ⟨v4, hv4, h⟩ := bind_of h
    exact mn_trans (m_L_pass hv4) (mb_L_lines_629  h)
  · replace h := (if_neg c469).symm.trans h
    replace h := (of_guard h).2
    obtain ⟨a8, ea8⟩ : ∃ y, up2 a 1 (0 : Int32).toNatClampNeg ((a 1 (0 : Int32).toNatClampNeg) + (1 : Int32)) = y := ⟨_, rfl⟩
    replace h := yl_of h ea8
    exact ml_L_lines_483 hmk465 _ _ _ _ _ _ _ _ h
set_option maxHeartbeats 4000000 in
set_option maxRecDepth 100000 in
theorem lb_L_lines_465 {p : Program} {l : Launch} (hl : l.stackTraces = false) {e : Env} {s : State} {m : MethodId} {args : Array Value} {below : List Frame} {meth : Method} {c : Code} {D : va_G} {E : Nat → ClassId} {sz : Nat} {μ0 : MP} {ν0 : NC} {a0 : AS} {Ad0 : Nat → Nat → Nat} {Q : Nat → Nat} {B : Nat × (Nat → Nat)} {w : Nat} {r0 : ((MP × NC) × AS) × Int32} (C : cx p s m args meth c D E (Aof (zS μ0 ν0 a0 Ad0) [] s.heap.size) cL_lines 23 "TradeLineLaw") (hEv : eV (Ad0 30 0) (Ad0 31 0) B (Aof (zS μ0 ν0 a0 Ad0) [] s.heap.size) s s.heap) (hN : vN s) (hr : meth.sig.returnType = (some .boolean)) (hz : s.heap.size = sz) (hI0 : lwI ν0) (hQ0 : lwQ Ad0 Q) {μ : MP} {ν : NC} {a : AS} {Ad : Nat → Nat → Nat} (hm0 : mn ν0 ν) (hp0 : kp ν0 Ad0 Ad) {x19 : Int32} {x20 : Int32} {x21 : Int32}  {k465 : MP → NC → AS → Int32 → Int32 → Int32 → Option (((MP × NC) × AS) × Int32)} (hmk465 : ∀ (μ : MP) (ν : NC) (a : AS) (z19 : Int32) (z20 : Int32) (z21 : Int32), k465 μ ν a z19 z20 z21 = some r0 → mn ν r0.1.1.2) (hk465 : ∀ (μ : MP) (ν : NC) (a : AS) (Ad : Nat → Nat → Nat) (z19 : Int32) (z20 : Int32) (z21 : Int32), mn ν0 ν → kp ν0 Ad0 Ad → k465 μ ν a z19 z20 z21 = some r0 → G p l e ({ frames := 14, cells := kc r0.1.1.2 - kc ν0, slots := ks r0.1.1.2 - ks ν0, locals := 398 } : Room) s m args below meth c D E (Aof (zS μ0 ν0 a0 Ad0) [] s.heap.size) 23 (MQ below (cQ D E sz (zS μ0 ν0 a0 Ad0) [] (pI (fun r u => r = r0.2 ∧ ∃ A1, u = (zS r0.1.1.1 r0.1.1.2 r0.1.2 A1, []) ∧ kp ν0 Ad0 A1))) args s (kc r0.1.1.2 - kc ν0) (ks r0.1.1.2 - ks ν0) (Aof (zS μ0 ν0 a0 Ad0) [] s.heap.size)) (zS μ ν a Ad) [] (kc ν - kc ν0) (ks ν - ks ν0) 465 [(0, .ref (Q 0)), (4, .ref (Q 1)), (5, .ref (Q 2)), (6, .ref (Q 3)), (7, .ref (Q 4)), (8, .ref (Q 5)), (9, .ref (Q 6)), (10, .ref (Q 7)), (19, .int z19), (20, .int z20), (21, .int z21)] []) (h : b_L_lines_465 k465 w μ ν a x19 x20 x21  = some r0) : G p l e ({ frames := 14, cells := kc r0.1.1.2 - kc ν0, slots := ks r0.1.1.2 - ks ν0, locals := 398 } : Room) s m args below meth c D E (Aof (zS μ0 ν0 a0 Ad0) [] s.heap.size) 23 (MQ below (cQ D E sz (zS μ0 ν0 a0 Ad0) [] (pI (fun r u => r = r0.2 ∧ ∃ A1, u = (zS r0.1.1.1 r0.1.1.2 r0.1.2 A1, []) ∧ kp ν0 Ad0 A1))) args s (kc r0.1.1.2 - kc ν0) (ks r0.1.1.2 - ks ν0) (Aof (zS μ0 ν0 a0 Ad0) [] s.heap.size)) (zS μ ν a Ad) [] (kc ν - kc ν0) (ks ν - ks ν0) 465 [(0, .ref (Q 0)), (4, .ref (Q 1)), (5, .ref (Q 2)), (6, .ref (Q 3)), (7, .ref (Q 4)), (8, .ref (Q 5)), (9, .ref (Q 6)), (10, .ref (Q 7)), (19, .int x19), (20, .int x20), (21, .int x21)] [] := by
  have m0 := mb_L_lines_465 hmk465 h
  have e1 := m0.2.1; have e2 := m0.2.2.1; have e3 := hm0.2.1; have e4 := hm0.2.2.1
  have hI := lwI_mn hI0 hm0; have hQ := lwQ_kp hI0 hp0 hQ0
  unfold b_L_lines_465 at h
  refine g_iload C dL_lines_465 10 rfl ?_
  refine g_iload C dL_lines_467 8 rfl ?_
  refine g_icmp_ge (tgt := 624) C dL_lines_469 (by decide) (fun c469 => ?_) (fun c469 => ?_)
  · replace h := (if_pos c469).symm.trans h
    refine g_aload_n C dL_lines_624 rfl 0 rfl ?_
    refine g_iconst (v := (0 : Int32)) C dL_lines_625 (by decide) ?_
    obtain ⟨v4, hv4, h⟩ := bind_of h
    have m2 := m_L_pass hv4
    have m3 := mb_L_lines_629  h
    have a1 := hm0.2.1; have a2 := hm0.2.2.1; have b1 := m2.2.1; have b2 := m2.2.2.1; have d1 := m3.2.1; have d2 := m3.2.2.1
    refine g_cSh (n := 2) (exr := []) C hEv hN ⟨hp0.2.1 0, hp0.2.2 0⟩ [_, _] _ rfl rfl [] rfl rfl (fun sz => wc_L_pass l hl B _ ν _ Ad Q hI hQ w _ _ hv4 D E sz) rfl gh_pass gw_0 gw_1050 gw_1051 ⟨by decide +kernel, by decide +kernel, by decide +kernel⟩ ⟨rfl, rfl⟩ ⟨Nat.le_of_ble_eq_true rfl, Nat.le_of_ble_eq_true rfl⟩ (Nat.le_of_ble_eq_true rfl) dL_lines_626 ⟨by show (kc ν - kc ν0) + (kc v4.1.2 - kc ν) ≤ kc r0.1.1.2 - kc ν0; omega, by show (ks ν - ks ν0) + (ks v4.1.2 - ks ν) ≤ ks r0.1.1.2 - ks ν0; omega⟩ (fun r u hp hx => ?_)
    obtain ⟨er, A1, rfl, hkp⟩ := hp
    rw [er]
    try dsimp only [List.append_nil]
    refine g_widen (k := kc v4.1.2 - kc ν0) (n := ks v4.1.2 - ks ν0) (by omega) (by omega) ?_
    refine g_lv [0, 8, 9] rfl ?_
    exact lb_L_lines_629 hl C hEv hN hr hz hI0 hQ0 (mn_trans hm0 m2) (kp_trans hp0 hm0 hkp)  h
  · replace h := (if_neg c469).symm.trans h
    refine g_aload C dL_lines_472 1 rfl ?_
    refine g_iconst (v := (0 : Int32)) C dL_lines_474 (by decide) ?_
    refine g_dup2 C dL_lines_475 rfl rfl ?_
    obtain ⟨g7, h⟩ := of_guard h
    refine q_iald C (show rsh (ν.1, μ.2, ν.2, Ad) from hI.2) (j := 1) (N := 22) (by decide) (lwQ_i hQ (j := 1) (N := 22) (by decide)) g7 dL_lines_476 ?_
    refine g_iconst (v := (1 : Int32)) C dL_lines_477 (by decide) ?_
    refine g_iadd C dL_lines_478 ?_
    refine q_iast C (show rsh (ν.1, μ.2, ν.2, Ad) from hI.2) (j := 1) (N := 22) (by decide) (lwQ_i hQ (j := 1) (N := 22) (by decide)) g7 dL_lines_479 (fun a8 ea8 => ?_)
    replace h := yl_of h ea8
    refine g_iconst (v := (0 : Int32)) C dL_lines_480 (by decide) ?_
    refine g_istore (lv' := [(22, .int (0 : Int32)), (0, .ref (Q 0)), (4, .ref (Q 1)), (5, .ref (Q 2)), (6, .ref (Q 3)), (7, .ref (Q 4)), (8, .ref (Q 5)), (9, .ref (Q 6)), (10, .ref (Q 7)), (19, .int x19), (20, .int x20), (21, .int x21)]) C dL_lines_481 (by decide) rfl ?_
    refine g_lv [1, 2, 3, 4, 5, 6, 7, 8, 9, 10, 11, 0] rfl ?_
    exact ll_L_lines_483 hl C hEv hN hr hz hI0 hQ0 hmk465 hk465 w _ _ _ _ _ _ _ _ hm0 hp0 h
noncomputable def l_L_lines_465  (w : Nat) : Nat → MP → NC → AS → Int32 → Int32 → Int32 → Option (((MP × NC) × AS) × Int32)
  | 0 => fun _ _ _ _ _ _ => none
  | n + 1 => fun μ ν a x19 x20 x21 => b_L_lines_465  (l_L_lines_465  w n) w μ ν a x19 x20 x21
theorem ml_L_lines_465 {w : Nat} {r0 : ((MP × NC) × AS) × Int32}   : ∀ (n : Nat) (μ : MP) (ν : NC) (a : AS) (x19 : Int32) (x20 : Int32) (x21 : Int32), l_L_lines_465  w n μ ν a x19 x20 x21 = some r0 → mn ν r0.1.1.2 := by
  intro n
  induction n with
  | zero => exact fun μ ν a x19 x20 x21 h => absurd (show (none : Option (((MP × NC) × AS) × Int32)) = some r0 from h) (by simp)
  | succ n ih => exact fun μ ν a x19 x20 x21 h => mb_L_lines_465  ih h
theorem ll_L_lines_465 {p : Program} {l : Launch} (hl : l.stackTraces = false) {e : Env} {s : State} {m : MethodId} {args : Array Value} {below : List Frame} {meth : Method} {c : Code} {D : va_G} {E : Nat → ClassId} {sz : Nat} {μ0 : MP} {ν0 : NC} {a0 : AS} {Ad0 : Nat → Nat → Nat} {Q : Nat → Nat} {B : Nat × (Nat → Nat)} {w : Nat} {r0 : ((MP × NC) × AS) × Int32} (C : cx p s m args meth c D E (Aof (zS μ0 ν0 a0 Ad0) [] s.heap.size) cL_lines 23 "TradeLineLaw") (hEv : eV (Ad0 30 0) (Ad0 31 0) B (Aof (zS μ0 ν0 a0 Ad0) [] s.heap.size) s s.heap) (hN : vN s) (hr : meth.sig.returnType = (some .boolean)) (hz : s.heap.size = sz) (hI0 : lwI ν0) (hQ0 : lwQ Ad0 Q)   : ∀ (n : Nat) (μ : MP) (ν : NC) (a : AS) (Ad : Nat → Nat → Nat) (x19 : Int32) (x20 : Int32) (x21 : Int32), mn ν0 ν → kp ν0 Ad0 Ad → l_L_lines_465  w n μ ν a x19 x20 x21 = some r0 → G p l e ({ frames := 14, cells := kc r0.1.1.2 - kc ν0, slots := ks r0.1.1.2 - ks ν0, locals := 398 } : Room) s m args below meth c D E (Aof (zS μ0 ν0 a0 Ad0) [] s.heap.size) 23 (MQ below (cQ D E sz (zS μ0 ν0 a0 Ad0) [] (pI (fun r u => r = r0.2 ∧ ∃ A1, u = (zS r0.1.1.1 r0.1.1.2 r0.1.2 A1, []) ∧ kp ν0 Ad0 A1))) args s (kc r0.1.1.2 - kc ν0) (ks r0.1.1.2 - ks ν0) (Aof (zS μ0 ν0 a0 Ad0) [] s.heap.size)) (zS μ ν a Ad) [] (kc ν - kc ν0) (ks ν - ks ν0) 465 [(0, .ref (Q 0)), (4, .ref (Q 1)), (5, .ref (Q 2)), (6, .ref (Q 3)), (7, .ref (Q 4)), (8, .ref (Q 5)), (9, .ref (Q 6)), (10, .ref (Q 7)), (19, .int x19), (20, .int x20), (21, .int x21)] [] := by
  intro n
  induction n with
  | zero => exact fun μ ν a Ad x19 x20 x21 hm0 hp0 h => absurd (show (none : Option (((MP × NC) × AS) × Int32)) = some r0 from h) (by simp)
  | succ n ih => exact fun μ ν a Ad x19 x20 x21 hm0 hp0 h => lb_L_lines_465 (w := w) hl C hEv hN hr hz hI0 hQ0 hm0 hp0  (fun μ ν a x19 x20 x21 h => ml_L_lines_465  n μ ν a x19 x20 x21 h) ih h
noncomputable def b_L_lines_453  (w : Nat) (μ : MP) (ν : NC) (a : AS)  (s0 : Int32) (s1 : Int32) (s2 : Int32) : Option (((MP × NC) × AS) × Int32) := (f_L_low w a s1 s0).bind (fun v2 => yl ((s2 + v2)) (fun t3 => l_L_lines_465  w w μ ν a t3 (0 : Int32) (0 : Int32)))
theorem mb_L_lines_453 {w : Nat} {μ : MP} {ν : NC} {a : AS}  {s0 : Int32} {s1 : Int32} {s2 : Int32} {r0 : ((MP × NC) × AS) × Int32}   (h : b_L_lines_453  w μ ν a  s0 s1 s2 = some r0) : mn ν r0.1.1.2 := by
  unfold b_L_lines_453 at h
  obtain ⟨v2, hv2, h⟩ := bind_of h
  obtain ⟨t3, et3⟩ : ∃ y, (s2 + v2) = y := ⟨_, rfl⟩
  replace h := yl_of h et3
  exact ml_L_lines_465  _ _ _ _ _ _ _ h
set_option maxHeartbeats 4000000 in
set_option maxRecDepth 100000 in
theorem lb_L_lines_453 {p : Program} {l : Launch} (hl : l.stackTraces = false) {e : Env} {s : State} {m : MethodId} {args : Array Value} {below : List Frame} {meth : Method} {c : Code} {D : va_G} {E : Nat → ClassId} {sz : Nat} {μ0 : MP} {ν0 : NC} {a0 : AS} {Ad0 : Nat → Nat → Nat} {Q : Nat → Nat} {B : Nat × (Nat → Nat)} {w : Nat} {r0 : ((MP × NC) × AS) × Int32} (C : cx p s m args meth c D E (Aof (zS μ0 ν0 a0 Ad0) [] s.heap.size) cL_lines 23 "TradeLineLaw") (hEv : eV (Ad0 30 0) (Ad0 31 0) B (Aof (zS μ0 ν0 a0 Ad0) [] s.heap.size) s s.heap) (hN : vN s) (hr : meth.sig.returnType = (some .boolean)) (hz : s.heap.size = sz) (hI0 : lwI ν0) (hQ0 : lwQ Ad0 Q) {μ : MP} {ν : NC} {a : AS} {Ad : Nat → Nat → Nat} (hm0 : mn ν0 ν) (hp0 : kp ν0 Ad0 Ad)  {s0 : Int32} {s1 : Int32} {s2 : Int32}   (h : b_L_lines_453  w μ ν a  s0 s1 s2 = some r0) : G p l e ({ frames := 14, cells := kc r0.1.1.2 - kc ν0, slots := ks r0.1.1.2 - ks ν0, locals := 398 } : Room) s m args below meth c D E (Aof (zS μ0 ν0 a0 Ad0) [] s.heap.size) 23 (MQ below (cQ D E sz (zS μ0 ν0 a0 Ad0) [] (pI (fun r u => r = r0.2 ∧ ∃ A1, u = (zS r0.1.1.1 r0.1.1.2 r0.1.2 A1, []) ∧ kp ν0 Ad0 A1))) args s (kc r0.1.1.2 - kc ν0) (ks r0.1.1.2 - ks ν0) (Aof (zS μ0 ν0 a0 Ad0) [] s.heap.size)) (zS μ ν a Ad) [] (kc ν - kc ν0) (ks ν - ks ν0) 453 [(0, .ref (Q 0)), (4, .ref (Q 1)), (5, .ref (Q 2)), (6, .ref (Q 3)), (7, .ref (Q 4)), (8, .ref (Q 5)), (9, .ref (Q 6)), (10, .ref (Q 7))] [.int s0, .int s1, .int s2] := by
  have m0 := mb_L_lines_453  h
  have e1 := m0.2.1; have e2 := m0.2.2.1; have e3 := hm0.2.1; have e4 := hm0.2.2.1
  have hI := lwI_mn hI0 hm0; have hQ := lwQ_kp hI0 hp0 hQ0
  unfold b_L_lines_453 at h
  obtain ⟨v2, hv2, h⟩ := bind_of h
  refine g_cSi (n := 2) (exc := []) (exr := []) C [_, _] _ rfl rfl [] [] rfl rfl rfl rfl (fun _ h => absurd h (by simp)) (fun _ h => absurd h (by simp)) (fun _ h => absurd h (by simp)) (fun sz => wk_L_low l _ ν _ Ad Q hI hQ w _ _  _ hv2 D E sz) rfl gw_210 gw_0 gw_208 gw_209 ⟨by decide +kernel, by decide +kernel, by decide +kernel⟩ ⟨rfl, rfl⟩ ⟨Nat.le_of_ble_eq_true rfl, Nat.le_of_ble_eq_true rfl⟩ (Nat.le_of_ble_eq_true rfl) dL_lines_453 ⟨by show (kc ν - kc ν0) + 0 ≤ kc r0.1.1.2 - kc ν0; omega, by show (ks ν - ks ν0) + 0 ≤ ks r0.1.1.2 - ks ν0; omega⟩ (fun r u hp hx => ?_)
  obtain ⟨er, rfl⟩ := hp
  rw [er]
  try dsimp only [List.append_nil]
  refine g_iadd C dL_lines_456 ?_
  refine q_topi (fun t3 et3 => ?_)
  replace h := yl_of h et3
  refine g_istore (lv' := [(19, .int t3), (0, .ref (Q 0)), (4, .ref (Q 1)), (5, .ref (Q 2)), (6, .ref (Q 3)), (7, .ref (Q 4)), (8, .ref (Q 5)), (9, .ref (Q 6)), (10, .ref (Q 7))]) C dL_lines_457 (by decide) rfl ?_
  refine g_iconst (v := (0 : Int32)) C dL_lines_459 (by decide) ?_
  refine g_istore (lv' := [(20, .int (0 : Int32)), (19, .int t3), (0, .ref (Q 0)), (4, .ref (Q 1)), (5, .ref (Q 2)), (6, .ref (Q 3)), (7, .ref (Q 4)), (8, .ref (Q 5)), (9, .ref (Q 6)), (10, .ref (Q 7))]) C dL_lines_460 (by decide) rfl ?_
  refine g_iconst (v := (0 : Int32)) C dL_lines_462 (by decide) ?_
  refine g_istore (lv' := [(21, .int (0 : Int32)), (20, .int (0 : Int32)), (19, .int t3), (0, .ref (Q 0)), (4, .ref (Q 1)), (5, .ref (Q 2)), (6, .ref (Q 3)), (7, .ref (Q 4)), (8, .ref (Q 5)), (9, .ref (Q 6)), (10, .ref (Q 7))]) C dL_lines_463 (by decide) rfl ?_
  refine g_lv [3, 4, 5, 6, 7, 8, 9, 10, 2, 1, 0] rfl ?_
  exact ll_L_lines_465 hl C hEv hN hr hz hI0 hQ0  w _ _ _ _ _ _ _ hm0 hp0 h
noncomputable def b_L_lines_362  (w : Nat) (μ : MP) (ν : NC) (a : AS)  (s0 : Int32) : Option (((MP × NC) × AS) × Int32) := (if s0 = (-7100 : Int32) then (some (((μ, ν), a), (1 : Int32))) else (some (((μ, ν), a), (0 : Int32))))
theorem mb_L_lines_362 {w : Nat} {μ : MP} {ν : NC} {a : AS}  {s0 : Int32} {r0 : ((MP × NC) × AS) × Int32}   (h : b_L_lines_362  w μ ν a  s0 = some r0) : mn ν r0.1.1.2 := by
  unfold b_L_lines_362 at h
  by_cases c365 : s0 = (-7100 : Int32)
  · replace h := (if_pos c365).symm.trans h
    obtain rfl := Option.some.inj h
    exact mn_rfl _
  · replace h := (if_neg c365).symm.trans h
    obtain rfl := Option.some.inj h
    exact mn_rfl _
set_option maxHeartbeats 4000000 in
set_option maxRecDepth 100000 in
theorem lb_L_lines_362 {p : Program} {l : Launch} (hl : l.stackTraces = false) {e : Env} {s : State} {m : MethodId} {args : Array Value} {below : List Frame} {meth : Method} {c : Code} {D : va_G} {E : Nat → ClassId} {sz : Nat} {μ0 : MP} {ν0 : NC} {a0 : AS} {Ad0 : Nat → Nat → Nat} {Q : Nat → Nat} {B : Nat × (Nat → Nat)} {w : Nat} {r0 : ((MP × NC) × AS) × Int32} (C : cx p s m args meth c D E (Aof (zS μ0 ν0 a0 Ad0) [] s.heap.size) cL_lines 23 "TradeLineLaw") (hEv : eV (Ad0 30 0) (Ad0 31 0) B (Aof (zS μ0 ν0 a0 Ad0) [] s.heap.size) s s.heap) (hN : vN s) (hr : meth.sig.returnType = (some .boolean)) (hz : s.heap.size = sz) (hI0 : lwI ν0) (hQ0 : lwQ Ad0 Q) {μ : MP} {ν : NC} {a : AS} {Ad : Nat → Nat → Nat} (hm0 : mn ν0 ν) (hp0 : kp ν0 Ad0 Ad)  {s0 : Int32}   (h : b_L_lines_362  w μ ν a  s0 = some r0) : G p l e ({ frames := 14, cells := kc r0.1.1.2 - kc ν0, slots := ks r0.1.1.2 - ks ν0, locals := 398 } : Room) s m args below meth c D E (Aof (zS μ0 ν0 a0 Ad0) [] s.heap.size) 23 (MQ below (cQ D E sz (zS μ0 ν0 a0 Ad0) [] (pI (fun r u => r = r0.2 ∧ ∃ A1, u = (zS r0.1.1.1 r0.1.1.2 r0.1.2 A1, []) ∧ kp ν0 Ad0 A1))) args s (kc r0.1.1.2 - kc ν0) (ks r0.1.1.2 - ks ν0) (Aof (zS μ0 ν0 a0 Ad0) [] s.heap.size)) (zS μ ν a Ad) [] (kc ν - kc ν0) (ks ν - ks ν0) 362 [] [.int s0] := by
  have m0 := mb_L_lines_362  h
  have e1 := m0.2.1; have e2 := m0.2.2.1; have e3 := hm0.2.1; have e4 := hm0.2.2.1
  have hI := lwI_mn hI0 hm0; have hQ := lwQ_kp hI0 hp0 hQ0
  unfold b_L_lines_362 at h
  refine g_sipush (v := (-7100 : Int32)) C dL_lines_362 (by decide) ?_
  refine g_icmp_ne (tgt := 372) C dL_lines_365 (by decide) (fun c365 => ?_) (fun c365 => ?_)
  · replace h := (if_neg c365).symm.trans h
    refine g_iconst (v := (0 : Int32)) C dL_lines_372 (by decide) ?_
    obtain rfl := Option.some.inj h
    exact g_iret C hr rfl hz ⟨(hm0.2.2.2 30 (by decide) (by decide)).1, (hm0.2.2.2 31 (by decide) (by decide)).1, hp0.2.1, hp0.2.2⟩ ⟨rfl, Ad, rfl, hp0⟩ (fun j x h => by simp at h) dL_lines_373
  · replace h := (if_pos c365).symm.trans h
    refine g_iconst (v := (1 : Int32)) C dL_lines_368 (by decide) ?_
    refine g_goto (tgt := 373) C dL_lines_369 (by decide) ?_
    obtain rfl := Option.some.inj h
    exact g_iret C hr rfl hz ⟨(hm0.2.2.2 30 (by decide) (by decide)).1, (hm0.2.2.2 31 (by decide) (by decide)).1, hp0.2.1, hp0.2.2⟩ ⟨rfl, Ad, rfl, hp0⟩ (fun j x h => by simp at h) dL_lines_373
noncomputable def b_L_lines_354  (w : Nat) (μ : MP) (ν : NC) (a : AS) (x18 : Int32)  : Option (((MP × NC) × AS) × Int32) := (f_L_garble w μ ν x18 (2147483647 : Int32)).bind (fun v26 => b_L_lines_362  w v26.1.1 v26.1.2 a v26.2)
theorem mb_L_lines_354 {w : Nat} {μ : MP} {ν : NC} {a : AS} {x18 : Int32}  {r0 : ((MP × NC) × AS) × Int32}   (h : b_L_lines_354  w μ ν a x18  = some r0) : mn ν r0.1.1.2 := by
  unfold b_L_lines_354 at h
  obtain ⟨v26, hv26, h⟩ := bind_of h
  exact mn_trans (m_L_garble hv26) (mb_L_lines_362  h)
set_option maxHeartbeats 4000000 in
set_option maxRecDepth 100000 in
theorem lb_L_lines_354 {p : Program} {l : Launch} (hl : l.stackTraces = false) {e : Env} {s : State} {m : MethodId} {args : Array Value} {below : List Frame} {meth : Method} {c : Code} {D : va_G} {E : Nat → ClassId} {sz : Nat} {μ0 : MP} {ν0 : NC} {a0 : AS} {Ad0 : Nat → Nat → Nat} {Q : Nat → Nat} {B : Nat × (Nat → Nat)} {w : Nat} {r0 : ((MP × NC) × AS) × Int32} (C : cx p s m args meth c D E (Aof (zS μ0 ν0 a0 Ad0) [] s.heap.size) cL_lines 23 "TradeLineLaw") (hEv : eV (Ad0 30 0) (Ad0 31 0) B (Aof (zS μ0 ν0 a0 Ad0) [] s.heap.size) s s.heap) (hN : vN s) (hr : meth.sig.returnType = (some .boolean)) (hz : s.heap.size = sz) (hI0 : lwI ν0) (hQ0 : lwQ Ad0 Q) {μ : MP} {ν : NC} {a : AS} {Ad : Nat → Nat → Nat} (hm0 : mn ν0 ν) (hp0 : kp ν0 Ad0 Ad) {x18 : Int32}    (h : b_L_lines_354  w μ ν a x18  = some r0) : G p l e ({ frames := 14, cells := kc r0.1.1.2 - kc ν0, slots := ks r0.1.1.2 - ks ν0, locals := 398 } : Room) s m args below meth c D E (Aof (zS μ0 ν0 a0 Ad0) [] s.heap.size) 23 (MQ below (cQ D E sz (zS μ0 ν0 a0 Ad0) [] (pI (fun r u => r = r0.2 ∧ ∃ A1, u = (zS r0.1.1.1 r0.1.1.2 r0.1.2 A1, []) ∧ kp ν0 Ad0 A1))) args s (kc r0.1.1.2 - kc ν0) (ks r0.1.1.2 - ks ν0) (Aof (zS μ0 ν0 a0 Ad0) [] s.heap.size)) (zS μ ν a Ad) [] (kc ν - kc ν0) (ks ν - ks ν0) 354 [(0, .ref (Q 0)), (18, .int x18)] [] := by
  have m0 := mb_L_lines_354  h
  have e1 := m0.2.1; have e2 := m0.2.2.1; have e3 := hm0.2.1; have e4 := hm0.2.2.1
  have hI := lwI_mn hI0 hm0; have hQ := lwQ_kp hI0 hp0 hQ0
  unfold b_L_lines_354 at h
  refine g_aload_n C dL_lines_354 rfl 0 rfl ?_
  refine g_iload C dL_lines_355 1 rfl ?_
  refine g_ldc (v := (2147483647 : Int32)) C gw_1049 dL_lines_357 ?_
  obtain ⟨v26, hv26, h⟩ := bind_of h
  have m2 := m_L_garble hv26
  have m3 := mb_L_lines_362  h
  have a1 := hm0.2.1; have a2 := hm0.2.2.1; have b1 := m2.2.1; have b2 := m2.2.2.1; have d1 := m3.2.1; have d2 := m3.2.2.1
  refine g_cSh (n := 3) (exr := []) C hEv hN ⟨hp0.2.1 0, hp0.2.2 0⟩ [_, _, _] _ rfl rfl [] rfl rfl (fun sz => wc_L_garble l hl B _ ν _ Ad Q hI hQ w _ _ _ hv26 D E sz) rfl gh_garble gw_0 gw_1037 gw_1038 ⟨by decide +kernel, by decide +kernel, by decide +kernel⟩ ⟨rfl, rfl⟩ ⟨Nat.le_of_ble_eq_true rfl, Nat.le_of_ble_eq_true rfl⟩ (Nat.le_of_ble_eq_true rfl) dL_lines_359 ⟨by show (kc ν - kc ν0) + (kc v26.1.2 - kc ν) ≤ kc r0.1.1.2 - kc ν0; omega, by show (ks ν - ks ν0) + (ks v26.1.2 - ks ν) ≤ ks r0.1.1.2 - ks ν0; omega⟩ (fun r u hp hx => ?_)
  obtain ⟨er, A1, rfl, hkp⟩ := hp
  rw [er]
  try dsimp only [List.append_nil]
  refine g_widen (k := kc v26.1.2 - kc ν0) (n := ks v26.1.2 - ks ν0) (by omega) (by omega) ?_
  refine g_lv [] rfl ?_
  exact lb_L_lines_362 hl C hEv hN hr hz hI0 hQ0 (mn_trans hm0 m2) (kp_trans hp0 hm0 hkp)  h
noncomputable def b_L_lines_418  (w : Nat) (μ : MP) (ν : NC) (a : AS) (x19 : Int32) (x20 : Nat) (s0 : Int32) : Option (((MP × NC) × AS) × Int32) := bif lnB x20 64 then (f_L_get w a x20 x19).bind (fun v36 => (if s0 = (v36 &&& (63 : Int32)) then (some (((μ, ν), a), (1 : Int32))) else (some (((μ, ν), a), (0 : Int32))))) else none
theorem mb_L_lines_418 {w : Nat} {μ : MP} {ν : NC} {a : AS} {x19 : Int32} {x20 : Nat} {s0 : Int32} {r0 : ((MP × NC) × AS) × Int32}   (h : b_L_lines_418  w μ ν a x19 x20 s0 = some r0) : mn ν r0.1.1.2 := by
  unfold b_L_lines_418 at h
  replace h := (of_guard h).2
  obtain ⟨v36, hv36, h⟩ := bind_of h
  by_cases c428 : s0 = (v36 &&& (63 : Int32))
  · replace h := (if_pos c428).symm.trans h
    obtain rfl := Option.some.inj h
    exact mn_rfl _
  · replace h := (if_neg c428).symm.trans h
    obtain rfl := Option.some.inj h
    exact mn_rfl _
set_option maxHeartbeats 4000000 in
set_option maxRecDepth 100000 in
theorem lb_L_lines_418 {p : Program} {l : Launch} (hl : l.stackTraces = false) {e : Env} {s : State} {m : MethodId} {args : Array Value} {below : List Frame} {meth : Method} {c : Code} {D : va_G} {E : Nat → ClassId} {sz : Nat} {μ0 : MP} {ν0 : NC} {a0 : AS} {Ad0 : Nat → Nat → Nat} {Q : Nat → Nat} {B : Nat × (Nat → Nat)} {w : Nat} {r0 : ((MP × NC) × AS) × Int32} (C : cx p s m args meth c D E (Aof (zS μ0 ν0 a0 Ad0) [] s.heap.size) cL_lines 23 "TradeLineLaw") (hEv : eV (Ad0 30 0) (Ad0 31 0) B (Aof (zS μ0 ν0 a0 Ad0) [] s.heap.size) s s.heap) (hN : vN s) (hr : meth.sig.returnType = (some .boolean)) (hz : s.heap.size = sz) (hI0 : lwI ν0) (hQ0 : lwQ Ad0 Q) {μ : MP} {ν : NC} {a : AS} {Ad : Nat → Nat → Nat} (hm0 : mn ν0 ν) (hp0 : kp ν0 Ad0 Ad) {x19 : Int32} {x20 : Nat} {s0 : Int32}   (h : b_L_lines_418  w μ ν a x19 x20 s0 = some r0) : G p l e ({ frames := 14, cells := kc r0.1.1.2 - kc ν0, slots := ks r0.1.1.2 - ks ν0, locals := 398 } : Room) s m args below meth c D E (Aof (zS μ0 ν0 a0 Ad0) [] s.heap.size) 23 (MQ below (cQ D E sz (zS μ0 ν0 a0 Ad0) [] (pI (fun r u => r = r0.2 ∧ ∃ A1, u = (zS r0.1.1.1 r0.1.1.2 r0.1.2 A1, []) ∧ kp ν0 Ad0 A1))) args s (kc r0.1.1.2 - kc ν0) (ks r0.1.1.2 - ks ν0) (Aof (zS μ0 ν0 a0 Ad0) [] s.heap.size)) (zS μ ν a Ad) [] (kc ν - kc ν0) (ks ν - ks ν0) 418 [(19, .int x19), (20, .ref (Q x20))] [.int s0] := by
  have m0 := mb_L_lines_418  h
  have e1 := m0.2.1; have e2 := m0.2.2.1; have e3 := hm0.2.1; have e4 := hm0.2.2.1
  have hI := lwI_mn hI0 hm0; have hQ := lwQ_kp hI0 hp0 hQ0
  unfold b_L_lines_418 at h
  refine g_aload C dL_lines_418 1 rfl ?_
  refine g_iload C dL_lines_420 0 rfl ?_
  obtain ⟨g35, h⟩ := of_guard h
  obtain ⟨v36, hv36, h⟩ := bind_of h
  refine g_cSi (n := 2) (exc := []) (exr := []) C [_, _] _ rfl rfl [] [] rfl rfl rfl rfl (fun _ h => absurd h (by simp)) (fun _ h => absurd h (by simp)) (fun _ h => absurd h (by simp)) (fun sz => wk_L_get l _ ν _ Ad Q hI hQ w _ _ (lwQ_l hQ g35) _ hv36 D E sz) rfl gw_998 gw_0 gw_996 gw_997 ⟨by decide +kernel, by decide +kernel, by decide +kernel⟩ ⟨rfl, rfl⟩ ⟨Nat.le_of_ble_eq_true rfl, Nat.le_of_ble_eq_true rfl⟩ (Nat.le_of_ble_eq_true rfl) dL_lines_422 ⟨by show (kc ν - kc ν0) + 0 ≤ kc r0.1.1.2 - kc ν0; omega, by show (ks ν - ks ν0) + 0 ≤ ks r0.1.1.2 - ks ν0; omega⟩ (fun r u hp hx => ?_)
  obtain ⟨er, rfl⟩ := hp
  rw [er]
  try dsimp only [List.append_nil]
  refine g_bipush (v := (63 : Int32)) C dL_lines_425 (by decide) ?_
  refine g_iand C dL_lines_427 ?_
  refine g_icmp_ne (tgt := 435) C dL_lines_428 (by decide) (fun c428 => ?_) (fun c428 => ?_)
  · replace h := (if_neg c428).symm.trans h
    refine g_iconst (v := (0 : Int32)) C dL_lines_435 (by decide) ?_
    obtain rfl := Option.some.inj h
    exact g_iret C hr rfl hz ⟨(hm0.2.2.2 30 (by decide) (by decide)).1, (hm0.2.2.2 31 (by decide) (by decide)).1, hp0.2.1, hp0.2.2⟩ ⟨rfl, Ad, rfl, hp0⟩ (fun j x h => by simp at h) dL_lines_436
  · replace h := (if_pos c428).symm.trans h
    refine g_iconst (v := (1 : Int32)) C dL_lines_431 (by decide) ?_
    refine g_goto (tgt := 436) C dL_lines_432 (by decide) ?_
    obtain rfl := Option.some.inj h
    exact g_iret C hr rfl hz ⟨(hm0.2.2.2 30 (by decide) (by decide)).1, (hm0.2.2.2 31 (by decide) (by decide)).1, hp0.2.1, hp0.2.2⟩ ⟨rfl, Ad, rfl, hp0⟩ (fun j x h => by simp at h) dL_lines_436
noncomputable def b_L_lines_386  (w : Nat) (μ : MP) (ν : NC) (a : AS) (x18 : Int32) (x19 : Int32) (s0 : Nat) : Option (((MP × NC) × AS) × Int32) := bif lnB s0 64 then (f_L_get w a s0 x19).bind (fun v32 => (f_L_set w a s0 x19 ((v32 &&& (8191 : Int32)) ||| (8192 : Int32))).bind (fun v33 => (f_L_garble w μ ν x18 x19).bind (fun v34 => b_L_lines_418  w v34.1.1 v34.1.2 v33.1 x19 s0 v34.2))) else none
theorem mb_L_lines_386 {w : Nat} {μ : MP} {ν : NC} {a : AS} {x18 : Int32} {x19 : Int32} {s0 : Nat} {r0 : ((MP × NC) × AS) × Int32}   (h : b_L_lines_386  w μ ν a x18 x19 s0 = some r0) : mn ν r0.1.1.2 := by
  unfold b_L_lines_386 at h
  replace h := (of_guard h).2
  obtain ⟨v32, hv32, h⟩ := bind_of h
  obtain ⟨v33, hv33, h⟩ := bind_of h
  obtain ⟨v34, hv34, h⟩ := bind_of h
  exact mn_trans (m_L_garble hv34) (mb_L_lines_418  h)
set_option maxHeartbeats 4000000 in
set_option maxRecDepth 100000 in
theorem lb_L_lines_386 {p : Program} {l : Launch} (hl : l.stackTraces = false) {e : Env} {s : State} {m : MethodId} {args : Array Value} {below : List Frame} {meth : Method} {c : Code} {D : va_G} {E : Nat → ClassId} {sz : Nat} {μ0 : MP} {ν0 : NC} {a0 : AS} {Ad0 : Nat → Nat → Nat} {Q : Nat → Nat} {B : Nat × (Nat → Nat)} {w : Nat} {r0 : ((MP × NC) × AS) × Int32} (C : cx p s m args meth c D E (Aof (zS μ0 ν0 a0 Ad0) [] s.heap.size) cL_lines 23 "TradeLineLaw") (hEv : eV (Ad0 30 0) (Ad0 31 0) B (Aof (zS μ0 ν0 a0 Ad0) [] s.heap.size) s s.heap) (hN : vN s) (hr : meth.sig.returnType = (some .boolean)) (hz : s.heap.size = sz) (hI0 : lwI ν0) (hQ0 : lwQ Ad0 Q) {μ : MP} {ν : NC} {a : AS} {Ad : Nat → Nat → Nat} (hm0 : mn ν0 ν) (hp0 : kp ν0 Ad0 Ad) {x18 : Int32} {x19 : Int32} {s0 : Nat}   (h : b_L_lines_386  w μ ν a x18 x19 s0 = some r0) : G p l e ({ frames := 14, cells := kc r0.1.1.2 - kc ν0, slots := ks r0.1.1.2 - ks ν0, locals := 398 } : Room) s m args below meth c D E (Aof (zS μ0 ν0 a0 Ad0) [] s.heap.size) 23 (MQ below (cQ D E sz (zS μ0 ν0 a0 Ad0) [] (pI (fun r u => r = r0.2 ∧ ∃ A1, u = (zS r0.1.1.1 r0.1.1.2 r0.1.2 A1, []) ∧ kp ν0 Ad0 A1))) args s (kc r0.1.1.2 - kc ν0) (ks r0.1.1.2 - ks ν0) (Aof (zS μ0 ν0 a0 Ad0) [] s.heap.size)) (zS μ ν a Ad) [] (kc ν - kc ν0) (ks ν - ks ν0) 386 [(0, .ref (Q 0)), (18, .int x18), (19, .int x19)] [.ref (Q s0)] := by
  have m0 := mb_L_lines_386  h
  have e1 := m0.2.1; have e2 := m0.2.2.1; have e3 := hm0.2.1; have e4 := hm0.2.2.1
  have hI := lwI_mn hI0 hm0; have hQ := lwQ_kp hI0 hp0 hQ0
  unfold b_L_lines_386 at h
  refine g_astore (lv' := [(20, .ref (Q s0)), (0, .ref (Q 0)), (18, .int x18), (19, .int x19)]) C dL_lines_386 (by decide) rfl ?_
  refine g_aload C dL_lines_388 0 rfl ?_
  refine g_iload C dL_lines_390 3 rfl ?_
  refine g_aload C dL_lines_392 0 rfl ?_
  refine g_iload C dL_lines_394 3 rfl ?_
  obtain ⟨g31, h⟩ := of_guard h
  obtain ⟨v32, hv32, h⟩ := bind_of h
  refine g_cSi (n := 2) (exc := []) (exr := []) C [_, _] _ rfl rfl [] [] rfl rfl rfl rfl (fun _ h => absurd h (by simp)) (fun _ h => absurd h (by simp)) (fun _ h => absurd h (by simp)) (fun sz => wk_L_get l _ ν _ Ad Q hI hQ w _ _ (lwQ_l hQ g31) _ hv32 D E sz) rfl gw_998 gw_0 gw_996 gw_997 ⟨by decide +kernel, by decide +kernel, by decide +kernel⟩ ⟨rfl, rfl⟩ ⟨Nat.le_of_ble_eq_true rfl, Nat.le_of_ble_eq_true rfl⟩ (Nat.le_of_ble_eq_true rfl) dL_lines_396 ⟨by show (kc ν - kc ν0) + 0 ≤ kc r0.1.1.2 - kc ν0; omega, by show (ks ν - ks ν0) + 0 ≤ ks r0.1.1.2 - ks ν0; omega⟩ (fun r u hp hx => ?_)
  obtain ⟨er, rfl⟩ := hp
  rw [er]
  try dsimp only [List.append_nil]
  refine g_sipush (v := (8191 : Int32)) C dL_lines_399 (by decide) ?_
  refine g_iand C dL_lines_402 ?_
  refine g_sipush (v := (8192 : Int32)) C dL_lines_403 (by decide) ?_
  refine g_ior C dL_lines_406 ?_
  obtain ⟨v33, hv33, h⟩ := bind_of h
  refine g_cSv (n := 3) (exc := []) (exr := []) C [_, _, _] _ rfl rfl [] [] rfl rfl rfl rfl (fun _ h => absurd h (by simp)) (fun _ h => absurd h (by simp)) (fun _ h => absurd h (by simp)) (fun sz => wk_L_set l _ ν _ Ad Q hI hQ w _ _ _ (lwQ_l hQ g31) _ hv33 D E sz) rfl gw_464 gw_0 gw_462 gw_463 ⟨by decide +kernel, by decide +kernel, by decide +kernel⟩ ⟨rfl, rfl⟩ ⟨Nat.le_of_ble_eq_true rfl, Nat.le_of_ble_eq_true rfl⟩ (Nat.le_of_ble_eq_true rfl) dL_lines_407 ⟨by show (kc ν - kc ν0) + 0 ≤ kc r0.1.1.2 - kc ν0; omega, by show (ks ν - ks ν0) + 0 ≤ ks r0.1.1.2 - ks ν0; omega⟩ (fun u hp hx => ?_)
  obtain rfl := hp
  try dsimp only [List.append_nil]
  refine g_aload_n C dL_lines_410 rfl 1 rfl ?_
  refine g_iload C dL_lines_411 2 rfl ?_
  refine g_iload C dL_lines_413 3 rfl ?_
  obtain ⟨v34, hv34, h⟩ := bind_of h
  have m2 := m_L_garble hv34
  have m3 := mb_L_lines_418  h
  have a1 := hm0.2.1; have a2 := hm0.2.2.1; have b1 := m2.2.1; have b2 := m2.2.2.1; have d1 := m3.2.1; have d2 := m3.2.2.1
  refine g_cSh (n := 3) (exr := []) C hEv hN ⟨hp0.2.1 0, hp0.2.2 0⟩ [_, _, _] _ rfl rfl [] rfl rfl (fun sz => wc_L_garble l hl B _ ν _ Ad Q hI hQ w _ _ _ hv34 D E sz) rfl gh_garble gw_0 gw_1037 gw_1038 ⟨by decide +kernel, by decide +kernel, by decide +kernel⟩ ⟨rfl, rfl⟩ ⟨Nat.le_of_ble_eq_true rfl, Nat.le_of_ble_eq_true rfl⟩ (Nat.le_of_ble_eq_true rfl) dL_lines_415 ⟨by show (kc ν - kc ν0) + (kc v34.1.2 - kc ν) ≤ kc r0.1.1.2 - kc ν0; omega, by show (ks ν - ks ν0) + (ks v34.1.2 - ks ν) ≤ ks r0.1.1.2 - ks ν0; omega⟩ (fun r u hp hx => ?_)
  obtain ⟨er, A1, rfl, hkp⟩ := hp
  rw [er]
  try dsimp only [List.append_nil]
  refine g_widen (k := kc v34.1.2 - kc ν0) (n := ks v34.1.2 - ks ν0) (by omega) (by omega) ?_
  refine g_lv [3, 0] rfl ?_
  exact lb_L_lines_418 hl C hEv hN hr hz hI0 hQ0 (mn_trans hm0 m2) (kp_trans hp0 hm0 hkp)  h
noncomputable def b_L_lines_335  (w : Nat) (μ : MP) (ν : NC) (a : AS) (x18 : Int32) (x19 : Int32) (s0 : Int32) : Option (((MP × NC) × AS) × Int32) := (if s0 = (-7100 : Int32) then (bif ixB ((16 : Int32) + x18) 22 then (if x19 = (a 1 ((16 : Int32) + x18).toNatClampNeg) then (b_L_lines_354  w μ ν a x18) else ((if x18 = (0 : Int32) then (b_L_lines_386  w μ ν a x18 x19 2) else (b_L_lines_386  w μ ν a x18 x19 3)))) else none) else (b_L_lines_354  w μ ν a x18))
theorem mb_L_lines_335 {w : Nat} {μ : MP} {ν : NC} {a : AS} {x18 : Int32} {x19 : Int32} {s0 : Int32} {r0 : ((MP × NC) × AS) × Int32}   (h : b_L_lines_335  w μ ν a x18 x19 s0 = some r0) : mn ν r0.1.1.2 := by
  unfold b_L_lines_335 at h
  by_cases c338 : s0 = (-7100 : Int32)
  · replace h := (if_pos c338).symm.trans h
    replace h := (of_guard h).2
    by_cases c351 : x19 = (a 1 ((16 : Int32) + x18).toNatClampNeg)
    · replace h := (if_pos c351).symm.trans h
      exact mb_L_lines_354  h
    · replace h := (if_neg c351).symm.trans h
      by_cases c376 : x18 = (0 : Int32)
      · replace h := (if_pos c376).symm.trans h
        exact mb_L_lines_386  h
      · replace h := (if_neg c376).symm.trans h
        exact mb_L_lines_386  h
  · replace h := (if_neg c338).symm.trans h
    exact mb_L_lines_354  h
set_option maxHeartbeats 4000000 in
set_option maxRecDepth 100000 in
theorem lb_L_lines_335 {p : Program} {l : Launch} (hl : l.stackTraces = false) {e : Env} {s : State} {m : MethodId} {args : Array Value} {below : List Frame} {meth : Method} {c : Code} {D : va_G} {E : Nat → ClassId} {sz : Nat} {μ0 : MP} {ν0 : NC} {a0 : AS} {Ad0 : Nat → Nat → Nat} {Q : Nat → Nat} {B : Nat × (Nat → Nat)} {w : Nat} {r0 : ((MP × NC) × AS) × Int32} (C : cx p s m args meth c D E (Aof (zS μ0 ν0 a0 Ad0) [] s.heap.size) cL_lines 23 "TradeLineLaw") (hEv : eV (Ad0 30 0) (Ad0 31 0) B (Aof (zS μ0 ν0 a0 Ad0) [] s.heap.size) s s.heap) (hN : vN s) (hr : meth.sig.returnType = (some .boolean)) (hz : s.heap.size = sz) (hI0 : lwI ν0) (hQ0 : lwQ Ad0 Q) {μ : MP} {ν : NC} {a : AS} {Ad : Nat → Nat → Nat} (hm0 : mn ν0 ν) (hp0 : kp ν0 Ad0 Ad) {x18 : Int32} {x19 : Int32} {s0 : Int32}   (h : b_L_lines_335  w μ ν a x18 x19 s0 = some r0) : G p l e ({ frames := 14, cells := kc r0.1.1.2 - kc ν0, slots := ks r0.1.1.2 - ks ν0, locals := 398 } : Room) s m args below meth c D E (Aof (zS μ0 ν0 a0 Ad0) [] s.heap.size) 23 (MQ below (cQ D E sz (zS μ0 ν0 a0 Ad0) [] (pI (fun r u => r = r0.2 ∧ ∃ A1, u = (zS r0.1.1.1 r0.1.1.2 r0.1.2 A1, []) ∧ kp ν0 Ad0 A1))) args s (kc r0.1.1.2 - kc ν0) (ks r0.1.1.2 - ks ν0) (Aof (zS μ0 ν0 a0 Ad0) [] s.heap.size)) (zS μ ν a Ad) [] (kc ν - kc ν0) (ks ν - ks ν0) 335 [(0, .ref (Q 0)), (4, .ref (Q 1)), (5, .ref (Q 2)), (6, .ref (Q 3)), (18, .int x18), (19, .int x19)] [.int s0] := by
  have m0 := mb_L_lines_335  h
  have e1 := m0.2.1; have e2 := m0.2.2.1; have e3 := hm0.2.1; have e4 := hm0.2.2.1
  have hI := lwI_mn hI0 hm0; have hQ := lwQ_kp hI0 hp0 hQ0
  unfold b_L_lines_335 at h
  refine g_sipush (v := (-7100 : Int32)) C dL_lines_335 (by decide) ?_
  refine g_icmp_ne (tgt := 354) C dL_lines_338 (by decide) (fun c338 => ?_) (fun c338 => ?_)
  · replace h := (if_neg c338).symm.trans h
    refine g_lv [0, 4] rfl ?_
    exact lb_L_lines_354 hl C hEv hN hr hz hI0 hQ0 hm0 hp0  h
  · replace h := (if_pos c338).symm.trans h
    refine g_iload C dL_lines_341 5 rfl ?_
    refine g_aload C dL_lines_343 1 rfl ?_
    refine g_bipush (v := (16 : Int32)) C dL_lines_345 (by decide) ?_
    refine g_iload C dL_lines_347 4 rfl ?_
    refine g_iadd C dL_lines_349 ?_
    obtain ⟨g30, h⟩ := of_guard h
    refine q_iald C (show rsh (ν.1, μ.2, ν.2, Ad) from hI.2) (j := 1) (N := 22) (by decide) (lwQ_i hQ (j := 1) (N := 22) (by decide)) g30 dL_lines_350 ?_
    refine g_icmp_ne (tgt := 374) C dL_lines_351 (by decide) (fun c351 => ?_) (fun c351 => ?_)
    · replace h := (if_neg c351).symm.trans h
      refine g_iload C dL_lines_374 4 rfl ?_
      refine g_if_ne (tgt := 384) C dL_lines_376 (by decide) (fun c376 => ?_) (fun c376 => ?_)
      · replace h := (if_neg c376).symm.trans h
        refine g_aload C dL_lines_384 3 rfl ?_
        refine g_lv [0, 4, 5] rfl ?_
        exact lb_L_lines_386 hl C hEv hN hr hz hI0 hQ0 hm0 hp0  h
      · replace h := (if_pos c376).symm.trans h
        refine g_aload C dL_lines_379 2 rfl ?_
        refine g_goto (tgt := 386) C dL_lines_381 (by decide) ?_
        refine g_lv [0, 4, 5] rfl ?_
        exact lb_L_lines_386 hl C hEv hN hr hz hI0 hQ0 hm0 hp0  h
    · replace h := (if_pos c351).symm.trans h
      refine g_lv [0, 4] rfl ?_
      exact lb_L_lines_354 hl C hEv hN hr hz hI0 hQ0 hm0 hp0  h
noncomputable def b_L_lines_315  (w : Nat) (μ : MP) (ν : NC) (a : AS) (x18 : Int32) (x19 : Int32) (s0 : Int32) : Option (((MP × NC) × AS) × Int32) := (if s0 = (-7100 : Int32) then (bif ixB ((16 : Int32) + x18) 22 then (f_L_garble w μ ν x18 (a 1 ((16 : Int32) + x18).toNatClampNeg)).bind (fun v29 => b_L_lines_335  w v29.1.1 v29.1.2 a x18 x19 v29.2) else none) else (b_L_lines_354  w μ ν a x18))
theorem mb_L_lines_315 {w : Nat} {μ : MP} {ν : NC} {a : AS} {x18 : Int32} {x19 : Int32} {s0 : Int32} {r0 : ((MP × NC) × AS) × Int32}   (h : b_L_lines_315  w μ ν a x18 x19 s0 = some r0) : mn ν r0.1.1.2 := by
  unfold b_L_lines_315 at h
  by_cases c318 : s0 = (-7100 : Int32)
  · replace h := (if_pos c318).symm.trans h
    replace h := (of_guard h).2
    obtain ⟨v29, hv29, h⟩ := bind_of h
    exact mn_trans (m_L_garble hv29) (mb_L_lines_335  h)
  · replace h := (if_neg c318).symm.trans h
    exact mb_L_lines_354  h
set_option maxHeartbeats 4000000 in
set_option maxRecDepth 100000 in
theorem lb_L_lines_315 {p : Program} {l : Launch} (hl : l.stackTraces = false) {e : Env} {s : State} {m : MethodId} {args : Array Value} {below : List Frame} {meth : Method} {c : Code} {D : va_G} {E : Nat → ClassId} {sz : Nat} {μ0 : MP} {ν0 : NC} {a0 : AS} {Ad0 : Nat → Nat → Nat} {Q : Nat → Nat} {B : Nat × (Nat → Nat)} {w : Nat} {r0 : ((MP × NC) × AS) × Int32} (C : cx p s m args meth c D E (Aof (zS μ0 ν0 a0 Ad0) [] s.heap.size) cL_lines 23 "TradeLineLaw") (hEv : eV (Ad0 30 0) (Ad0 31 0) B (Aof (zS μ0 ν0 a0 Ad0) [] s.heap.size) s s.heap) (hN : vN s) (hr : meth.sig.returnType = (some .boolean)) (hz : s.heap.size = sz) (hI0 : lwI ν0) (hQ0 : lwQ Ad0 Q) {μ : MP} {ν : NC} {a : AS} {Ad : Nat → Nat → Nat} (hm0 : mn ν0 ν) (hp0 : kp ν0 Ad0 Ad) {x18 : Int32} {x19 : Int32} {s0 : Int32}   (h : b_L_lines_315  w μ ν a x18 x19 s0 = some r0) : G p l e ({ frames := 14, cells := kc r0.1.1.2 - kc ν0, slots := ks r0.1.1.2 - ks ν0, locals := 398 } : Room) s m args below meth c D E (Aof (zS μ0 ν0 a0 Ad0) [] s.heap.size) 23 (MQ below (cQ D E sz (zS μ0 ν0 a0 Ad0) [] (pI (fun r u => r = r0.2 ∧ ∃ A1, u = (zS r0.1.1.1 r0.1.1.2 r0.1.2 A1, []) ∧ kp ν0 Ad0 A1))) args s (kc r0.1.1.2 - kc ν0) (ks r0.1.1.2 - ks ν0) (Aof (zS μ0 ν0 a0 Ad0) [] s.heap.size)) (zS μ ν a Ad) [] (kc ν - kc ν0) (ks ν - ks ν0) 315 [(0, .ref (Q 0)), (4, .ref (Q 1)), (5, .ref (Q 2)), (6, .ref (Q 3)), (18, .int x18), (19, .int x19)] [.int s0] := by
  have m0 := mb_L_lines_315  h
  have e1 := m0.2.1; have e2 := m0.2.2.1; have e3 := hm0.2.1; have e4 := hm0.2.2.1
  have hI := lwI_mn hI0 hm0; have hQ := lwQ_kp hI0 hp0 hQ0
  unfold b_L_lines_315 at h
  refine g_sipush (v := (-7100 : Int32)) C dL_lines_315 (by decide) ?_
  refine g_icmp_ne (tgt := 354) C dL_lines_318 (by decide) (fun c318 => ?_) (fun c318 => ?_)
  · replace h := (if_neg c318).symm.trans h
    refine g_lv [0, 4] rfl ?_
    exact lb_L_lines_354 hl C hEv hN hr hz hI0 hQ0 hm0 hp0  h
  · replace h := (if_pos c318).symm.trans h
    refine g_aload_n C dL_lines_321 rfl 0 rfl ?_
    refine g_iload C dL_lines_322 4 rfl ?_
    refine g_aload C dL_lines_324 1 rfl ?_
    refine g_bipush (v := (16 : Int32)) C dL_lines_326 (by decide) ?_
    refine g_iload C dL_lines_328 4 rfl ?_
    refine g_iadd C dL_lines_330 ?_
    obtain ⟨g28, h⟩ := of_guard h
    refine q_iald C (show rsh (ν.1, μ.2, ν.2, Ad) from hI.2) (j := 1) (N := 22) (by decide) (lwQ_i hQ (j := 1) (N := 22) (by decide)) g28 dL_lines_331 ?_
    obtain ⟨v29, hv29, h⟩ := bind_of h
    have m2 := m_L_garble hv29
    have m3 := mb_L_lines_335  h
    have a1 := hm0.2.1; have a2 := hm0.2.2.1; have b1 := m2.2.1; have b2 := m2.2.2.1; have d1 := m3.2.1; have d2 := m3.2.2.1
    refine g_cSh (n := 3) (exr := []) C hEv hN ⟨hp0.2.1 0, hp0.2.2 0⟩ [_, _, _] _ rfl rfl [] rfl rfl (fun sz => wc_L_garble l hl B _ ν _ Ad Q hI hQ w _ _ _ hv29 D E sz) rfl gh_garble gw_0 gw_1037 gw_1038 ⟨by decide +kernel, by decide +kernel, by decide +kernel⟩ ⟨rfl, rfl⟩ ⟨Nat.le_of_ble_eq_true rfl, Nat.le_of_ble_eq_true rfl⟩ (Nat.le_of_ble_eq_true rfl) dL_lines_332 ⟨by show (kc ν - kc ν0) + (kc v29.1.2 - kc ν) ≤ kc r0.1.1.2 - kc ν0; omega, by show (ks ν - ks ν0) + (ks v29.1.2 - ks ν) ≤ ks r0.1.1.2 - ks ν0; omega⟩ (fun r u hp hx => ?_)
    obtain ⟨er, A1, rfl, hkp⟩ := hp
    rw [er]
    try dsimp only [List.append_nil]
    refine g_widen (k := kc v29.1.2 - kc ν0) (n := ks v29.1.2 - ks ν0) (by omega) (by omega) ?_
    refine g_lv [0, 1, 2, 3, 4, 5] rfl ?_
    exact lb_L_lines_335 hl C hEv hN hr hz hI0 hQ0 (mn_trans hm0 m2) (kp_trans hp0 hm0 hkp)  h
noncomputable def b_L_lines_302  (w : Nat) (μ : MP) (ν : NC) (a : AS) (x18 : Int32) (x19 : Int32) (s0 : Int32) : Option (((MP × NC) × AS) × Int32) := (if s0 = (-7100 : Int32) then ((f_L_garble w μ ν x18 (-1 : Int32)).bind (fun v27 => b_L_lines_315  w v27.1.1 v27.1.2 a x18 x19 v27.2)) else (b_L_lines_354  w μ ν a x18))
theorem mb_L_lines_302 {w : Nat} {μ : MP} {ν : NC} {a : AS} {x18 : Int32} {x19 : Int32} {s0 : Int32} {r0 : ((MP × NC) × AS) × Int32}   (h : b_L_lines_302  w μ ν a x18 x19 s0 = some r0) : mn ν r0.1.1.2 := by
  unfold b_L_lines_302 at h
  by_cases c305 : s0 = (-7100 : Int32)
  · replace h := (if_pos c305).symm.trans h
    obtain ⟨v27, hv27, h⟩ := bind_of h
    exact mn_trans (m_L_garble hv27) (mb_L_lines_315  h)
  · replace h := (if_neg c305).symm.trans h
    exact mb_L_lines_354  h
set_option maxHeartbeats 4000000 in
set_option maxRecDepth 100000 in
theorem lb_L_lines_302 {p : Program} {l : Launch} (hl : l.stackTraces = false) {e : Env} {s : State} {m : MethodId} {args : Array Value} {below : List Frame} {meth : Method} {c : Code} {D : va_G} {E : Nat → ClassId} {sz : Nat} {μ0 : MP} {ν0 : NC} {a0 : AS} {Ad0 : Nat → Nat → Nat} {Q : Nat → Nat} {B : Nat × (Nat → Nat)} {w : Nat} {r0 : ((MP × NC) × AS) × Int32} (C : cx p s m args meth c D E (Aof (zS μ0 ν0 a0 Ad0) [] s.heap.size) cL_lines 23 "TradeLineLaw") (hEv : eV (Ad0 30 0) (Ad0 31 0) B (Aof (zS μ0 ν0 a0 Ad0) [] s.heap.size) s s.heap) (hN : vN s) (hr : meth.sig.returnType = (some .boolean)) (hz : s.heap.size = sz) (hI0 : lwI ν0) (hQ0 : lwQ Ad0 Q) {μ : MP} {ν : NC} {a : AS} {Ad : Nat → Nat → Nat} (hm0 : mn ν0 ν) (hp0 : kp ν0 Ad0 Ad) {x18 : Int32} {x19 : Int32} {s0 : Int32}   (h : b_L_lines_302  w μ ν a x18 x19 s0 = some r0) : G p l e ({ frames := 14, cells := kc r0.1.1.2 - kc ν0, slots := ks r0.1.1.2 - ks ν0, locals := 398 } : Room) s m args below meth c D E (Aof (zS μ0 ν0 a0 Ad0) [] s.heap.size) 23 (MQ below (cQ D E sz (zS μ0 ν0 a0 Ad0) [] (pI (fun r u => r = r0.2 ∧ ∃ A1, u = (zS r0.1.1.1 r0.1.1.2 r0.1.2 A1, []) ∧ kp ν0 Ad0 A1))) args s (kc r0.1.1.2 - kc ν0) (ks r0.1.1.2 - ks ν0) (Aof (zS μ0 ν0 a0 Ad0) [] s.heap.size)) (zS μ ν a Ad) [] (kc ν - kc ν0) (ks ν - ks ν0) 302 [(0, .ref (Q 0)), (4, .ref (Q 1)), (5, .ref (Q 2)), (6, .ref (Q 3)), (18, .int x18), (19, .int x19)] [.int s0] := by
  have m0 := mb_L_lines_302  h
  have e1 := m0.2.1; have e2 := m0.2.2.1; have e3 := hm0.2.1; have e4 := hm0.2.2.1
  have hI := lwI_mn hI0 hm0; have hQ := lwQ_kp hI0 hp0 hQ0
  unfold b_L_lines_302 at h
  refine g_sipush (v := (-7100 : Int32)) C dL_lines_302 (by decide) ?_
  refine g_icmp_ne (tgt := 354) C dL_lines_305 (by decide) (fun c305 => ?_) (fun c305 => ?_)
  · replace h := (if_neg c305).symm.trans h
    refine g_lv [0, 4] rfl ?_
    exact lb_L_lines_354 hl C hEv hN hr hz hI0 hQ0 hm0 hp0  h
  · replace h := (if_pos c305).symm.trans h
    refine g_aload_n C dL_lines_308 rfl 0 rfl ?_
    refine g_iload C dL_lines_309 4 rfl ?_
    refine g_iconst (v := (-1 : Int32)) C dL_lines_311 (by decide) ?_
    obtain ⟨v27, hv27, h⟩ := bind_of h
    have m2 := m_L_garble hv27
    have m3 := mb_L_lines_315  h
    have a1 := hm0.2.1; have a2 := hm0.2.2.1; have b1 := m2.2.1; have b2 := m2.2.2.1; have d1 := m3.2.1; have d2 := m3.2.2.1
    refine g_cSh (n := 3) (exr := []) C hEv hN ⟨hp0.2.1 0, hp0.2.2 0⟩ [_, _, _] _ rfl rfl [] rfl rfl (fun sz => wc_L_garble l hl B _ ν _ Ad Q hI hQ w _ _ _ hv27 D E sz) rfl gh_garble gw_0 gw_1037 gw_1038 ⟨by decide +kernel, by decide +kernel, by decide +kernel⟩ ⟨rfl, rfl⟩ ⟨Nat.le_of_ble_eq_true rfl, Nat.le_of_ble_eq_true rfl⟩ (Nat.le_of_ble_eq_true rfl) dL_lines_312 ⟨by show (kc ν - kc ν0) + (kc v27.1.2 - kc ν) ≤ kc r0.1.1.2 - kc ν0; omega, by show (ks ν - ks ν0) + (ks v27.1.2 - ks ν) ≤ ks r0.1.1.2 - ks ν0; omega⟩ (fun r u hp hx => ?_)
    obtain ⟨er, A1, rfl, hkp⟩ := hp
    rw [er]
    try dsimp only [List.append_nil]
    refine g_widen (k := kc v27.1.2 - kc ν0) (n := ks v27.1.2 - ks ν0) (by omega) (by omega) ?_
    refine g_lv [0, 1, 2, 3, 4, 5] rfl ?_
    exact lb_L_lines_315 hl C hEv hN hr hz hI0 hQ0 (mn_trans hm0 m2) (kp_trans hp0 hm0 hkp)  h
noncomputable def b_L_lines_264  (w : Nat) (μ : MP) (ν : NC) (a : AS)  (s0 : Int32) : Option (((MP × NC) × AS) × Int32) := (if s0 = (1 : Int32) then (some (((μ, ν), a), (1 : Int32))) else (some (((μ, ν), a), (0 : Int32))))
theorem mb_L_lines_264 {w : Nat} {μ : MP} {ν : NC} {a : AS}  {s0 : Int32} {r0 : ((MP × NC) × AS) × Int32}   (h : b_L_lines_264  w μ ν a  s0 = some r0) : mn ν r0.1.1.2 := by
  unfold b_L_lines_264 at h
  by_cases c265 : s0 = (1 : Int32)
  · replace h := (if_pos c265).symm.trans h
    obtain rfl := Option.some.inj h
    exact mn_rfl _
  · replace h := (if_neg c265).symm.trans h
    obtain rfl := Option.some.inj h
    exact mn_rfl _
set_option maxHeartbeats 4000000 in
set_option maxRecDepth 100000 in
theorem lb_L_lines_264 {p : Program} {l : Launch} (hl : l.stackTraces = false) {e : Env} {s : State} {m : MethodId} {args : Array Value} {below : List Frame} {meth : Method} {c : Code} {D : va_G} {E : Nat → ClassId} {sz : Nat} {μ0 : MP} {ν0 : NC} {a0 : AS} {Ad0 : Nat → Nat → Nat} {Q : Nat → Nat} {B : Nat × (Nat → Nat)} {w : Nat} {r0 : ((MP × NC) × AS) × Int32} (C : cx p s m args meth c D E (Aof (zS μ0 ν0 a0 Ad0) [] s.heap.size) cL_lines 23 "TradeLineLaw") (hEv : eV (Ad0 30 0) (Ad0 31 0) B (Aof (zS μ0 ν0 a0 Ad0) [] s.heap.size) s s.heap) (hN : vN s) (hr : meth.sig.returnType = (some .boolean)) (hz : s.heap.size = sz) (hI0 : lwI ν0) (hQ0 : lwQ Ad0 Q) {μ : MP} {ν : NC} {a : AS} {Ad : Nat → Nat → Nat} (hm0 : mn ν0 ν) (hp0 : kp ν0 Ad0 Ad)  {s0 : Int32}   (h : b_L_lines_264  w μ ν a  s0 = some r0) : G p l e ({ frames := 14, cells := kc r0.1.1.2 - kc ν0, slots := ks r0.1.1.2 - ks ν0, locals := 398 } : Room) s m args below meth c D E (Aof (zS μ0 ν0 a0 Ad0) [] s.heap.size) 23 (MQ below (cQ D E sz (zS μ0 ν0 a0 Ad0) [] (pI (fun r u => r = r0.2 ∧ ∃ A1, u = (zS r0.1.1.1 r0.1.1.2 r0.1.2 A1, []) ∧ kp ν0 Ad0 A1))) args s (kc r0.1.1.2 - kc ν0) (ks r0.1.1.2 - ks ν0) (Aof (zS μ0 ν0 a0 Ad0) [] s.heap.size)) (zS μ ν a Ad) [] (kc ν - kc ν0) (ks ν - ks ν0) 264 [] [.int s0] := by
  have m0 := mb_L_lines_264  h
  have e1 := m0.2.1; have e2 := m0.2.2.1; have e3 := hm0.2.1; have e4 := hm0.2.2.1
  have hI := lwI_mn hI0 hm0; have hQ := lwQ_kp hI0 hp0 hQ0
  unfold b_L_lines_264 at h
  refine g_iconst (v := (1 : Int32)) C dL_lines_264 (by decide) ?_
  refine g_icmp_ne (tgt := 272) C dL_lines_265 (by decide) (fun c265 => ?_) (fun c265 => ?_)
  · replace h := (if_neg c265).symm.trans h
    refine g_iconst (v := (0 : Int32)) C dL_lines_272 (by decide) ?_
    obtain rfl := Option.some.inj h
    exact g_iret C hr rfl hz ⟨(hm0.2.2.2 30 (by decide) (by decide)).1, (hm0.2.2.2 31 (by decide) (by decide)).1, hp0.2.1, hp0.2.2⟩ ⟨rfl, Ad, rfl, hp0⟩ (fun j x h => by simp at h) dL_lines_273
  · replace h := (if_pos c265).symm.trans h
    refine g_iconst (v := (1 : Int32)) C dL_lines_268 (by decide) ?_
    refine g_goto (tgt := 273) C dL_lines_269 (by decide) ?_
    obtain rfl := Option.some.inj h
    exact g_iret C hr rfl hz ⟨(hm0.2.2.2 30 (by decide) (by decide)).1, (hm0.2.2.2 31 (by decide) (by decide)).1, hp0.2.1, hp0.2.2⟩ ⟨rfl, Ad, rfl, hp0⟩ (fun j x h => by simp at h) dL_lines_273
noncomputable def b_L_lines_215  (w : Nat) (μ : MP) (ν : NC) (a : AS)  (s0 : Int32) : Option (((MP × NC) × AS) × Int32) := (if s0 = (0 : Int32) then (some (((μ, ν), a), (1 : Int32))) else (some (((μ, ν), a), (0 : Int32))))
theorem mb_L_lines_215 {w : Nat} {μ : MP} {ν : NC} {a : AS}  {s0 : Int32} {r0 : ((MP × NC) × AS) × Int32}   (h : b_L_lines_215  w μ ν a  s0 = some r0) : mn ν r0.1.1.2 := by
  unfold b_L_lines_215 at h
  by_cases c215 : s0 = (0 : Int32)
  · replace h := (if_pos c215).symm.trans h
    obtain rfl := Option.some.inj h
    exact mn_rfl _
  · replace h := (if_neg c215).symm.trans h
    obtain rfl := Option.some.inj h
    exact mn_rfl _
set_option maxHeartbeats 4000000 in
set_option maxRecDepth 100000 in
theorem lb_L_lines_215 {p : Program} {l : Launch} (hl : l.stackTraces = false) {e : Env} {s : State} {m : MethodId} {args : Array Value} {below : List Frame} {meth : Method} {c : Code} {D : va_G} {E : Nat → ClassId} {sz : Nat} {μ0 : MP} {ν0 : NC} {a0 : AS} {Ad0 : Nat → Nat → Nat} {Q : Nat → Nat} {B : Nat × (Nat → Nat)} {w : Nat} {r0 : ((MP × NC) × AS) × Int32} (C : cx p s m args meth c D E (Aof (zS μ0 ν0 a0 Ad0) [] s.heap.size) cL_lines 23 "TradeLineLaw") (hEv : eV (Ad0 30 0) (Ad0 31 0) B (Aof (zS μ0 ν0 a0 Ad0) [] s.heap.size) s s.heap) (hN : vN s) (hr : meth.sig.returnType = (some .boolean)) (hz : s.heap.size = sz) (hI0 : lwI ν0) (hQ0 : lwQ Ad0 Q) {μ : MP} {ν : NC} {a : AS} {Ad : Nat → Nat → Nat} (hm0 : mn ν0 ν) (hp0 : kp ν0 Ad0 Ad)  {s0 : Int32}   (h : b_L_lines_215  w μ ν a  s0 = some r0) : G p l e ({ frames := 14, cells := kc r0.1.1.2 - kc ν0, slots := ks r0.1.1.2 - ks ν0, locals := 398 } : Room) s m args below meth c D E (Aof (zS μ0 ν0 a0 Ad0) [] s.heap.size) 23 (MQ below (cQ D E sz (zS μ0 ν0 a0 Ad0) [] (pI (fun r u => r = r0.2 ∧ ∃ A1, u = (zS r0.1.1.1 r0.1.1.2 r0.1.2 A1, []) ∧ kp ν0 Ad0 A1))) args s (kc r0.1.1.2 - kc ν0) (ks r0.1.1.2 - ks ν0) (Aof (zS μ0 ν0 a0 Ad0) [] s.heap.size)) (zS μ ν a Ad) [] (kc ν - kc ν0) (ks ν - ks ν0) 215 [] [.int s0] := by
  have m0 := mb_L_lines_215  h
  have e1 := m0.2.1; have e2 := m0.2.2.1; have e3 := hm0.2.1; have e4 := hm0.2.2.1
  have hI := lwI_mn hI0 hm0; have hQ := lwQ_kp hI0 hp0 hQ0
  unfold b_L_lines_215 at h
  refine g_if_ne (tgt := 222) C dL_lines_215 (by decide) (fun c215 => ?_) (fun c215 => ?_)
  · replace h := (if_neg c215).symm.trans h
    refine g_iconst (v := (0 : Int32)) C dL_lines_222 (by decide) ?_
    obtain rfl := Option.some.inj h
    exact g_iret C hr rfl hz ⟨(hm0.2.2.2 30 (by decide) (by decide)).1, (hm0.2.2.2 31 (by decide) (by decide)).1, hp0.2.1, hp0.2.2⟩ ⟨rfl, Ad, rfl, hp0⟩ (fun j x h => by simp at h) dL_lines_223
  · replace h := (if_pos c215).symm.trans h
    refine g_iconst (v := (1 : Int32)) C dL_lines_218 (by decide) ?_
    refine g_goto (tgt := 223) C dL_lines_219 (by decide) ?_
    obtain rfl := Option.some.inj h
    exact g_iret C hr rfl hz ⟨(hm0.2.2.2 30 (by decide) (by decide)).1, (hm0.2.2.2 31 (by decide) (by decide)).1, hp0.2.1, hp0.2.2⟩ ⟨rfl, Ad, rfl, hp0⟩ (fun j x h => by simp at h) dL_lines_223
noncomputable def b_L_lines_188  (w : Nat) (μ : MP) (ν : NC) (a : AS) (x18 : Int32) (s0 : Int32) : Option (((MP × NC) × AS) × Int32) := (if s0 = (-7200 : Int32) then (bif ixB ((16 : Int32) + x18) 22 then (if (a 1 ((16 : Int32) + x18).toNatClampNeg) = (0 : Int32) then ((f_L_come w μ ν x18 (100 : Int32)).bind (fun v44 => b_L_lines_215  w v44.1.1 v44.1.2 a v44.2)) else ((f_L_one w a x18).bind (fun v42 => (f_L_come w μ ν x18 (1 : Int32)).bind (fun v43 => b_L_lines_264  w v43.1.1 v43.1.2 v42.1 v43.2)))) else none) else (some (((μ, ν), a), (0 : Int32))))
theorem mb_L_lines_188 {w : Nat} {μ : MP} {ν : NC} {a : AS} {x18 : Int32} {s0 : Int32} {r0 : ((MP × NC) × AS) × Int32}   (h : b_L_lines_188  w μ ν a x18 s0 = some r0) : mn ν r0.1.1.2 := by
  unfold b_L_lines_188 at h
  by_cases c191 : s0 = (-7200 : Int32)
  · replace h := (if_pos c191).symm.trans h
    replace h := (of_guard h).2
    by_cases c204 : (a 1 ((16 : Int32) + x18).toNatClampNeg) = (0 : Int32)
    · replace h := (if_pos c204).symm.trans h
      obtain ⟨v44, hv44, h⟩ := bind_of h
      exact mn_trans (m_L_come hv44) (mb_L_lines_215  h)
    · replace h := (if_neg c204).symm.trans h
      obtain ⟨v42, hv42, h⟩ := bind_of h
      obtain ⟨v43, hv43, h⟩ := bind_of h
      exact mn_trans (m_L_come hv43) (mb_L_lines_264  h)
  · replace h := (if_neg c191).symm.trans h
    obtain rfl := Option.some.inj h
    exact mn_rfl _
set_option maxHeartbeats 4000000 in
set_option maxRecDepth 100000 in
theorem lb_L_lines_188 {p : Program} {l : Launch} (hl : l.stackTraces = false) {e : Env} {s : State} {m : MethodId} {args : Array Value} {below : List Frame} {meth : Method} {c : Code} {D : va_G} {E : Nat → ClassId} {sz : Nat} {μ0 : MP} {ν0 : NC} {a0 : AS} {Ad0 : Nat → Nat → Nat} {Q : Nat → Nat} {B : Nat × (Nat → Nat)} {w : Nat} {r0 : ((MP × NC) × AS) × Int32} (C : cx p s m args meth c D E (Aof (zS μ0 ν0 a0 Ad0) [] s.heap.size) cL_lines 23 "TradeLineLaw") (hEv : eV (Ad0 30 0) (Ad0 31 0) B (Aof (zS μ0 ν0 a0 Ad0) [] s.heap.size) s s.heap) (hN : vN s) (hr : meth.sig.returnType = (some .boolean)) (hz : s.heap.size = sz) (hI0 : lwI ν0) (hQ0 : lwQ Ad0 Q) {μ : MP} {ν : NC} {a : AS} {Ad : Nat → Nat → Nat} (hm0 : mn ν0 ν) (hp0 : kp ν0 Ad0 Ad) {x18 : Int32} {s0 : Int32}   (h : b_L_lines_188  w μ ν a x18 s0 = some r0) : G p l e ({ frames := 14, cells := kc r0.1.1.2 - kc ν0, slots := ks r0.1.1.2 - ks ν0, locals := 398 } : Room) s m args below meth c D E (Aof (zS μ0 ν0 a0 Ad0) [] s.heap.size) 23 (MQ below (cQ D E sz (zS μ0 ν0 a0 Ad0) [] (pI (fun r u => r = r0.2 ∧ ∃ A1, u = (zS r0.1.1.1 r0.1.1.2 r0.1.2 A1, []) ∧ kp ν0 Ad0 A1))) args s (kc r0.1.1.2 - kc ν0) (ks r0.1.1.2 - ks ν0) (Aof (zS μ0 ν0 a0 Ad0) [] s.heap.size)) (zS μ ν a Ad) [] (kc ν - kc ν0) (ks ν - ks ν0) 188 [(0, .ref (Q 0)), (4, .ref (Q 1)), (5, .ref (Q 2)), (6, .ref (Q 3)), (7, .ref (Q 4)), (8, .ref (Q 5)), (9, .ref (Q 6)), (10, .ref (Q 7)), (11, .ref (Q 8)), (12, .ref (Q 9)), (13, .ref (Q 10)), (14, .ref (Q 11)), (15, .ref (Q 12)), (16, .ref (Q 13)), (17, .ref (Q 14)), (18, .int x18)] [.int s0] := by
  have m0 := mb_L_lines_188  h
  have e1 := m0.2.1; have e2 := m0.2.2.1; have e3 := hm0.2.1; have e4 := hm0.2.2.1
  have hI := lwI_mn hI0 hm0; have hQ := lwQ_kp hI0 hp0 hQ0
  unfold b_L_lines_188 at h
  refine g_sipush (v := (-7200 : Int32)) C dL_lines_188 (by decide) ?_
  refine g_icmp_eq (tgt := 196) C dL_lines_191 (by decide) (fun c191 => ?_) (fun c191 => ?_)
  · replace h := (if_pos c191).symm.trans h
    refine g_aload C dL_lines_196 1 rfl ?_
    refine g_bipush (v := (16 : Int32)) C dL_lines_198 (by decide) ?_
    refine g_iload C dL_lines_200 15 rfl ?_
    refine g_iadd C dL_lines_202 ?_
    obtain ⟨g41, h⟩ := of_guard h
    refine q_iald C (show rsh (ν.1, μ.2, ν.2, Ad) from hI.2) (j := 1) (N := 22) (by decide) (lwQ_i hQ (j := 1) (N := 22) (by decide)) g41 dL_lines_203 ?_
    refine g_if_ne (tgt := 224) C dL_lines_204 (by decide) (fun c204 => ?_) (fun c204 => ?_)
    · replace h := (if_neg c204).symm.trans h
      refine g_aload C dL_lines_224 1 rfl ?_
      refine g_aload C dL_lines_226 2 rfl ?_
      refine g_aload C dL_lines_228 3 rfl ?_
      refine g_aload C dL_lines_230 4 rfl ?_
      refine g_aload C dL_lines_232 5 rfl ?_
      refine g_aload C dL_lines_234 6 rfl ?_
      refine g_aload C dL_lines_236 7 rfl ?_
      refine g_aload C dL_lines_238 8 rfl ?_
      refine g_aload C dL_lines_240 9 rfl ?_
      refine g_aload C dL_lines_242 10 rfl ?_
      refine g_aload C dL_lines_244 11 rfl ?_
      refine g_aload C dL_lines_246 12 rfl ?_
      refine g_aload C dL_lines_248 13 rfl ?_
      refine g_aload C dL_lines_250 14 rfl ?_
      refine g_iload C dL_lines_252 15 rfl ?_
      obtain ⟨v42, hv42, h⟩ := bind_of h
      refine g_cSv (n := 15) (exc := []) (exr := []) C [_, _, _, _, _, _, _, _, _, _, _, _, _, _, _] _ rfl rfl [] [] rfl rfl rfl rfl (fun _ h => absurd h (by simp)) (fun _ h => absurd h (by simp)) (fun _ h => absurd h (by simp)) (fun sz => wk_L_one l _ ν _ Ad Q hI hQ w _  _ hv42 D E sz) rfl gw_995 gw_0 gw_993 gw_994 ⟨by decide +kernel, by decide +kernel, by decide +kernel⟩ ⟨rfl, rfl⟩ ⟨Nat.le_of_ble_eq_true rfl, Nat.le_of_ble_eq_true rfl⟩ (Nat.le_of_ble_eq_true rfl) dL_lines_254 ⟨by show (kc ν - kc ν0) + 0 ≤ kc r0.1.1.2 - kc ν0; omega, by show (ks ν - ks ν0) + 0 ≤ ks r0.1.1.2 - ks ν0; omega⟩ (fun u hp hx => ?_)
      obtain rfl := hp
      try dsimp only [List.append_nil]
      refine g_aload_n C dL_lines_257 rfl 0 rfl ?_
      refine g_iload C dL_lines_258 15 rfl ?_
      refine g_iconst (v := (1 : Int32)) C dL_lines_260 (by decide) ?_
      obtain ⟨v43, hv43, h⟩ := bind_of h
      have m2 := m_L_come hv43
      have m3 := mb_L_lines_264  h
      have a1 := hm0.2.1; have a2 := hm0.2.2.1; have b1 := m2.2.1; have b2 := m2.2.2.1; have d1 := m3.2.1; have d2 := m3.2.2.1
      refine g_cSh (n := 3) (exr := []) C hEv hN ⟨hp0.2.1 0, hp0.2.2 0⟩ [_, _, _] _ rfl rfl [] rfl rfl (fun sz => wc_L_come l hl B _ ν _ Ad Q hI hQ w _ _ _ hv43 D E sz) rfl gh_come gw_0 gw_470 gw_471 ⟨by decide +kernel, by decide +kernel, by decide +kernel⟩ ⟨rfl, rfl⟩ ⟨Nat.le_of_ble_eq_true rfl, Nat.le_of_ble_eq_true rfl⟩ (Nat.le_of_ble_eq_true rfl) dL_lines_261 ⟨by show (kc ν - kc ν0) + (kc v43.1.2 - kc ν) ≤ kc r0.1.1.2 - kc ν0; omega, by show (ks ν - ks ν0) + (ks v43.1.2 - ks ν) ≤ ks r0.1.1.2 - ks ν0; omega⟩ (fun r u hp hx => ?_)
      obtain ⟨er, A1, rfl, hkp⟩ := hp
      rw [er]
      try dsimp only [List.append_nil]
      refine g_widen (k := kc v43.1.2 - kc ν0) (n := ks v43.1.2 - ks ν0) (by omega) (by omega) ?_
      refine g_lv [] rfl ?_
      exact lb_L_lines_264 hl C hEv hN hr hz hI0 hQ0 (mn_trans hm0 m2) (kp_trans hp0 hm0 hkp)  h
    · replace h := (if_pos c204).symm.trans h
      refine g_aload_n C dL_lines_207 rfl 0 rfl ?_
      refine g_iload C dL_lines_208 15 rfl ?_
      refine g_bipush (v := (100 : Int32)) C dL_lines_210 (by decide) ?_
      obtain ⟨v44, hv44, h⟩ := bind_of h
      have m2 := m_L_come hv44
      have m3 := mb_L_lines_215  h
      have a1 := hm0.2.1; have a2 := hm0.2.2.1; have b1 := m2.2.1; have b2 := m2.2.2.1; have d1 := m3.2.1; have d2 := m3.2.2.1
      refine g_cSh (n := 3) (exr := []) C hEv hN ⟨hp0.2.1 0, hp0.2.2 0⟩ [_, _, _] _ rfl rfl [] rfl rfl (fun sz => wc_L_come l hl B _ ν _ Ad Q hI hQ w _ _ _ hv44 D E sz) rfl gh_come gw_0 gw_470 gw_471 ⟨by decide +kernel, by decide +kernel, by decide +kernel⟩ ⟨rfl, rfl⟩ ⟨Nat.le_of_ble_eq_true rfl, Nat.le_of_ble_eq_true rfl⟩ (Nat.le_of_ble_eq_true rfl) dL_lines_212 ⟨by show (kc ν - kc ν0) + (kc v44.1.2 - kc ν) ≤ kc r0.1.1.2 - kc ν0; omega, by show (ks ν - ks ν0) + (ks v44.1.2 - ks ν) ≤ ks r0.1.1.2 - ks ν0; omega⟩ (fun r u hp hx => ?_)
      obtain ⟨er, A1, rfl, hkp⟩ := hp
      rw [er]
      try dsimp only [List.append_nil]
      refine g_widen (k := kc v44.1.2 - kc ν0) (n := ks v44.1.2 - ks ν0) (by omega) (by omega) ?_
      refine g_lv [] rfl ?_
      exact lb_L_lines_215 hl C hEv hN hr hz hI0 hQ0 (mn_trans hm0 m2) (kp_trans hp0 hm0 hkp)  h
  · replace h := (if_neg c191).symm.trans h
    refine g_iconst (v := (0 : Int32)) C dL_lines_194 (by decide) ?_
    obtain rfl := Option.some.inj h
    exact g_iret C hr rfl hz ⟨(hm0.2.2.2 30 (by decide) (by decide)).1, (hm0.2.2.2 31 (by decide) (by decide)).1, hp0.2.1, hp0.2.2⟩ ⟨rfl, Ad, rfl, hp0⟩ (fun j x h => by simp at h) dL_lines_195
noncomputable def b_L_lines_174  (w : Nat) (μ : MP) (ν : NC) (a : AS) (x18 : Int32) (s0 : Int32) : Option (((MP × NC) × AS) × Int32) := (if s0 = (-7200 : Int32) then ((f_L_come w μ ν x18 (101 : Int32)).bind (fun v40 => b_L_lines_188  w v40.1.1 v40.1.2 a x18 v40.2)) else (some (((μ, ν), a), (0 : Int32))))
theorem mb_L_lines_174 {w : Nat} {μ : MP} {ν : NC} {a : AS} {x18 : Int32} {s0 : Int32} {r0 : ((MP × NC) × AS) × Int32}   (h : b_L_lines_174  w μ ν a x18 s0 = some r0) : mn ν r0.1.1.2 := by
  unfold b_L_lines_174 at h
  by_cases c177 : s0 = (-7200 : Int32)
  · replace h := (if_pos c177).symm.trans h
    obtain ⟨v40, hv40, h⟩ := bind_of h
    exact mn_trans (m_L_come hv40) (mb_L_lines_188  h)
  · replace h := (if_neg c177).symm.trans h
    obtain rfl := Option.some.inj h
    exact mn_rfl _
set_option maxHeartbeats 4000000 in
set_option maxRecDepth 100000 in
theorem lb_L_lines_174 {p : Program} {l : Launch} (hl : l.stackTraces = false) {e : Env} {s : State} {m : MethodId} {args : Array Value} {below : List Frame} {meth : Method} {c : Code} {D : va_G} {E : Nat → ClassId} {sz : Nat} {μ0 : MP} {ν0 : NC} {a0 : AS} {Ad0 : Nat → Nat → Nat} {Q : Nat → Nat} {B : Nat × (Nat → Nat)} {w : Nat} {r0 : ((MP × NC) × AS) × Int32} (C : cx p s m args meth c D E (Aof (zS μ0 ν0 a0 Ad0) [] s.heap.size) cL_lines 23 "TradeLineLaw") (hEv : eV (Ad0 30 0) (Ad0 31 0) B (Aof (zS μ0 ν0 a0 Ad0) [] s.heap.size) s s.heap) (hN : vN s) (hr : meth.sig.returnType = (some .boolean)) (hz : s.heap.size = sz) (hI0 : lwI ν0) (hQ0 : lwQ Ad0 Q) {μ : MP} {ν : NC} {a : AS} {Ad : Nat → Nat → Nat} (hm0 : mn ν0 ν) (hp0 : kp ν0 Ad0 Ad) {x18 : Int32} {s0 : Int32}   (h : b_L_lines_174  w μ ν a x18 s0 = some r0) : G p l e ({ frames := 14, cells := kc r0.1.1.2 - kc ν0, slots := ks r0.1.1.2 - ks ν0, locals := 398 } : Room) s m args below meth c D E (Aof (zS μ0 ν0 a0 Ad0) [] s.heap.size) 23 (MQ below (cQ D E sz (zS μ0 ν0 a0 Ad0) [] (pI (fun r u => r = r0.2 ∧ ∃ A1, u = (zS r0.1.1.1 r0.1.1.2 r0.1.2 A1, []) ∧ kp ν0 Ad0 A1))) args s (kc r0.1.1.2 - kc ν0) (ks r0.1.1.2 - ks ν0) (Aof (zS μ0 ν0 a0 Ad0) [] s.heap.size)) (zS μ ν a Ad) [] (kc ν - kc ν0) (ks ν - ks ν0) 174 [(0, .ref (Q 0)), (4, .ref (Q 1)), (5, .ref (Q 2)), (6, .ref (Q 3)), (7, .ref (Q 4)), (8, .ref (Q 5)), (9, .ref (Q 6)), (10, .ref (Q 7)), (11, .ref (Q 8)), (12, .ref (Q 9)), (13, .ref (Q 10)), (14, .ref (Q 11)), (15, .ref (Q 12)), (16, .ref (Q 13)), (17, .ref (Q 14)), (18, .int x18)] [.int s0] := by
  have m0 := mb_L_lines_174  h
  have e1 := m0.2.1; have e2 := m0.2.2.1; have e3 := hm0.2.1; have e4 := hm0.2.2.1
  have hI := lwI_mn hI0 hm0; have hQ := lwQ_kp hI0 hp0 hQ0
  unfold b_L_lines_174 at h
  refine g_sipush (v := (-7200 : Int32)) C dL_lines_174 (by decide) ?_
  refine g_icmp_ne (tgt := 194) C dL_lines_177 (by decide) (fun c177 => ?_) (fun c177 => ?_)
  · replace h := (if_neg c177).symm.trans h
    refine g_iconst (v := (0 : Int32)) C dL_lines_194 (by decide) ?_
    obtain rfl := Option.some.inj h
    exact g_iret C hr rfl hz ⟨(hm0.2.2.2 30 (by decide) (by decide)).1, (hm0.2.2.2 31 (by decide) (by decide)).1, hp0.2.1, hp0.2.2⟩ ⟨rfl, Ad, rfl, hp0⟩ (fun j x h => by simp at h) dL_lines_195
  · replace h := (if_pos c177).symm.trans h
    refine g_aload_n C dL_lines_180 rfl 0 rfl ?_
    refine g_iload C dL_lines_181 15 rfl ?_
    refine g_bipush (v := (101 : Int32)) C dL_lines_183 (by decide) ?_
    obtain ⟨v40, hv40, h⟩ := bind_of h
    have m2 := m_L_come hv40
    have m3 := mb_L_lines_188  h
    have a1 := hm0.2.1; have a2 := hm0.2.2.1; have b1 := m2.2.1; have b2 := m2.2.2.1; have d1 := m3.2.1; have d2 := m3.2.2.1
    refine g_cSh (n := 3) (exr := []) C hEv hN ⟨hp0.2.1 0, hp0.2.2 0⟩ [_, _, _] _ rfl rfl [] rfl rfl (fun sz => wc_L_come l hl B _ ν _ Ad Q hI hQ w _ _ _ hv40 D E sz) rfl gh_come gw_0 gw_470 gw_471 ⟨by decide +kernel, by decide +kernel, by decide +kernel⟩ ⟨rfl, rfl⟩ ⟨Nat.le_of_ble_eq_true rfl, Nat.le_of_ble_eq_true rfl⟩ (Nat.le_of_ble_eq_true rfl) dL_lines_185 ⟨by show (kc ν - kc ν0) + (kc v40.1.2 - kc ν) ≤ kc r0.1.1.2 - kc ν0; omega, by show (ks ν - ks ν0) + (ks v40.1.2 - ks ν) ≤ ks r0.1.1.2 - ks ν0; omega⟩ (fun r u hp hx => ?_)
    obtain ⟨er, A1, rfl, hkp⟩ := hp
    rw [er]
    try dsimp only [List.append_nil]
    refine g_widen (k := kc v40.1.2 - kc ν0) (n := ks v40.1.2 - ks ν0) (by omega) (by omega) ?_
    refine g_lv [0, 1, 2, 3, 4, 5, 6, 7, 8, 9, 10, 11, 12, 13, 14, 15] rfl ?_
    exact lb_L_lines_188 hl C hEv hN hr hz hI0 hQ0 (mn_trans hm0 m2) (kp_trans hp0 hm0 hkp)  h
noncomputable def b_L_lines_161  (w : Nat) (μ : MP) (ν : NC) (a : AS) (x18 : Int32) (s0 : Int32) : Option (((MP × NC) × AS) × Int32) := (if s0 = (-7100 : Int32) then ((f_L_come w μ ν x18 (0 : Int32)).bind (fun v39 => b_L_lines_174  w v39.1.1 v39.1.2 a x18 v39.2)) else (some (((μ, ν), a), (0 : Int32))))
theorem mb_L_lines_161 {w : Nat} {μ : MP} {ν : NC} {a : AS} {x18 : Int32} {s0 : Int32} {r0 : ((MP × NC) × AS) × Int32}   (h : b_L_lines_161  w μ ν a x18 s0 = some r0) : mn ν r0.1.1.2 := by
  unfold b_L_lines_161 at h
  by_cases c164 : s0 = (-7100 : Int32)
  · replace h := (if_pos c164).symm.trans h
    obtain ⟨v39, hv39, h⟩ := bind_of h
    exact mn_trans (m_L_come hv39) (mb_L_lines_174  h)
  · replace h := (if_neg c164).symm.trans h
    obtain rfl := Option.some.inj h
    exact mn_rfl _
set_option maxHeartbeats 4000000 in
set_option maxRecDepth 100000 in
theorem lb_L_lines_161 {p : Program} {l : Launch} (hl : l.stackTraces = false) {e : Env} {s : State} {m : MethodId} {args : Array Value} {below : List Frame} {meth : Method} {c : Code} {D : va_G} {E : Nat → ClassId} {sz : Nat} {μ0 : MP} {ν0 : NC} {a0 : AS} {Ad0 : Nat → Nat → Nat} {Q : Nat → Nat} {B : Nat × (Nat → Nat)} {w : Nat} {r0 : ((MP × NC) × AS) × Int32} (C : cx p s m args meth c D E (Aof (zS μ0 ν0 a0 Ad0) [] s.heap.size) cL_lines 23 "TradeLineLaw") (hEv : eV (Ad0 30 0) (Ad0 31 0) B (Aof (zS μ0 ν0 a0 Ad0) [] s.heap.size) s s.heap) (hN : vN s) (hr : meth.sig.returnType = (some .boolean)) (hz : s.heap.size = sz) (hI0 : lwI ν0) (hQ0 : lwQ Ad0 Q) {μ : MP} {ν : NC} {a : AS} {Ad : Nat → Nat → Nat} (hm0 : mn ν0 ν) (hp0 : kp ν0 Ad0 Ad) {x18 : Int32} {s0 : Int32}   (h : b_L_lines_161  w μ ν a x18 s0 = some r0) : G p l e ({ frames := 14, cells := kc r0.1.1.2 - kc ν0, slots := ks r0.1.1.2 - ks ν0, locals := 398 } : Room) s m args below meth c D E (Aof (zS μ0 ν0 a0 Ad0) [] s.heap.size) 23 (MQ below (cQ D E sz (zS μ0 ν0 a0 Ad0) [] (pI (fun r u => r = r0.2 ∧ ∃ A1, u = (zS r0.1.1.1 r0.1.1.2 r0.1.2 A1, []) ∧ kp ν0 Ad0 A1))) args s (kc r0.1.1.2 - kc ν0) (ks r0.1.1.2 - ks ν0) (Aof (zS μ0 ν0 a0 Ad0) [] s.heap.size)) (zS μ ν a Ad) [] (kc ν - kc ν0) (ks ν - ks ν0) 161 [(0, .ref (Q 0)), (4, .ref (Q 1)), (5, .ref (Q 2)), (6, .ref (Q 3)), (7, .ref (Q 4)), (8, .ref (Q 5)), (9, .ref (Q 6)), (10, .ref (Q 7)), (11, .ref (Q 8)), (12, .ref (Q 9)), (13, .ref (Q 10)), (14, .ref (Q 11)), (15, .ref (Q 12)), (16, .ref (Q 13)), (17, .ref (Q 14)), (18, .int x18)] [.int s0] := by
  have m0 := mb_L_lines_161  h
  have e1 := m0.2.1; have e2 := m0.2.2.1; have e3 := hm0.2.1; have e4 := hm0.2.2.1
  have hI := lwI_mn hI0 hm0; have hQ := lwQ_kp hI0 hp0 hQ0
  unfold b_L_lines_161 at h
  refine g_sipush (v := (-7100 : Int32)) C dL_lines_161 (by decide) ?_
  refine g_icmp_ne (tgt := 194) C dL_lines_164 (by decide) (fun c164 => ?_) (fun c164 => ?_)
  · replace h := (if_neg c164).symm.trans h
    refine g_iconst (v := (0 : Int32)) C dL_lines_194 (by decide) ?_
    obtain rfl := Option.some.inj h
    exact g_iret C hr rfl hz ⟨(hm0.2.2.2 30 (by decide) (by decide)).1, (hm0.2.2.2 31 (by decide) (by decide)).1, hp0.2.1, hp0.2.2⟩ ⟨rfl, Ad, rfl, hp0⟩ (fun j x h => by simp at h) dL_lines_195
  · replace h := (if_pos c164).symm.trans h
    refine g_aload_n C dL_lines_167 rfl 0 rfl ?_
    refine g_iload C dL_lines_168 15 rfl ?_
    refine g_iconst (v := (0 : Int32)) C dL_lines_170 (by decide) ?_
    obtain ⟨v39, hv39, h⟩ := bind_of h
    have m2 := m_L_come hv39
    have m3 := mb_L_lines_174  h
    have a1 := hm0.2.1; have a2 := hm0.2.2.1; have b1 := m2.2.1; have b2 := m2.2.2.1; have d1 := m3.2.1; have d2 := m3.2.2.1
    refine g_cSh (n := 3) (exr := []) C hEv hN ⟨hp0.2.1 0, hp0.2.2 0⟩ [_, _, _] _ rfl rfl [] rfl rfl (fun sz => wc_L_come l hl B _ ν _ Ad Q hI hQ w _ _ _ hv39 D E sz) rfl gh_come gw_0 gw_470 gw_471 ⟨by decide +kernel, by decide +kernel, by decide +kernel⟩ ⟨rfl, rfl⟩ ⟨Nat.le_of_ble_eq_true rfl, Nat.le_of_ble_eq_true rfl⟩ (Nat.le_of_ble_eq_true rfl) dL_lines_171 ⟨by show (kc ν - kc ν0) + (kc v39.1.2 - kc ν) ≤ kc r0.1.1.2 - kc ν0; omega, by show (ks ν - ks ν0) + (ks v39.1.2 - ks ν) ≤ ks r0.1.1.2 - ks ν0; omega⟩ (fun r u hp hx => ?_)
    obtain ⟨er, A1, rfl, hkp⟩ := hp
    rw [er]
    try dsimp only [List.append_nil]
    refine g_widen (k := kc v39.1.2 - kc ν0) (n := ks v39.1.2 - ks ν0) (by omega) (by omega) ?_
    refine g_lv [0, 1, 2, 3, 4, 5, 6, 7, 8, 9, 10, 11, 12, 13, 14, 15] rfl ?_
    exact lb_L_lines_174 hl C hEv hN hr hz hI0 hQ0 (mn_trans hm0 m2) (kp_trans hp0 hm0 hkp)  h
noncomputable def b_L_lines_149  (w : Nat) (μ : MP) (ν : NC) (a : AS) (x18 : Int32) (s0 : Int32) : Option (((MP × NC) × AS) × Int32) := (if s0 = (-7100 : Int32) then ((f_L_come w μ ν (-1 : Int32) (1 : Int32)).bind (fun v38 => b_L_lines_161  w v38.1.1 v38.1.2 a x18 v38.2)) else (some (((μ, ν), a), (0 : Int32))))
theorem mb_L_lines_149 {w : Nat} {μ : MP} {ν : NC} {a : AS} {x18 : Int32} {s0 : Int32} {r0 : ((MP × NC) × AS) × Int32}   (h : b_L_lines_149  w μ ν a x18 s0 = some r0) : mn ν r0.1.1.2 := by
  unfold b_L_lines_149 at h
  by_cases c152 : s0 = (-7100 : Int32)
  · replace h := (if_pos c152).symm.trans h
    obtain ⟨v38, hv38, h⟩ := bind_of h
    exact mn_trans (m_L_come hv38) (mb_L_lines_161  h)
  · replace h := (if_neg c152).symm.trans h
    obtain rfl := Option.some.inj h
    exact mn_rfl _
set_option maxHeartbeats 4000000 in
set_option maxRecDepth 100000 in
theorem lb_L_lines_149 {p : Program} {l : Launch} (hl : l.stackTraces = false) {e : Env} {s : State} {m : MethodId} {args : Array Value} {below : List Frame} {meth : Method} {c : Code} {D : va_G} {E : Nat → ClassId} {sz : Nat} {μ0 : MP} {ν0 : NC} {a0 : AS} {Ad0 : Nat → Nat → Nat} {Q : Nat → Nat} {B : Nat × (Nat → Nat)} {w : Nat} {r0 : ((MP × NC) × AS) × Int32} (C : cx p s m args meth c D E (Aof (zS μ0 ν0 a0 Ad0) [] s.heap.size) cL_lines 23 "TradeLineLaw") (hEv : eV (Ad0 30 0) (Ad0 31 0) B (Aof (zS μ0 ν0 a0 Ad0) [] s.heap.size) s s.heap) (hN : vN s) (hr : meth.sig.returnType = (some .boolean)) (hz : s.heap.size = sz) (hI0 : lwI ν0) (hQ0 : lwQ Ad0 Q) {μ : MP} {ν : NC} {a : AS} {Ad : Nat → Nat → Nat} (hm0 : mn ν0 ν) (hp0 : kp ν0 Ad0 Ad) {x18 : Int32} {s0 : Int32}   (h : b_L_lines_149  w μ ν a x18 s0 = some r0) : G p l e ({ frames := 14, cells := kc r0.1.1.2 - kc ν0, slots := ks r0.1.1.2 - ks ν0, locals := 398 } : Room) s m args below meth c D E (Aof (zS μ0 ν0 a0 Ad0) [] s.heap.size) 23 (MQ below (cQ D E sz (zS μ0 ν0 a0 Ad0) [] (pI (fun r u => r = r0.2 ∧ ∃ A1, u = (zS r0.1.1.1 r0.1.1.2 r0.1.2 A1, []) ∧ kp ν0 Ad0 A1))) args s (kc r0.1.1.2 - kc ν0) (ks r0.1.1.2 - ks ν0) (Aof (zS μ0 ν0 a0 Ad0) [] s.heap.size)) (zS μ ν a Ad) [] (kc ν - kc ν0) (ks ν - ks ν0) 149 [(0, .ref (Q 0)), (4, .ref (Q 1)), (5, .ref (Q 2)), (6, .ref (Q 3)), (7, .ref (Q 4)), (8, .ref (Q 5)), (9, .ref (Q 6)), (10, .ref (Q 7)), (11, .ref (Q 8)), (12, .ref (Q 9)), (13, .ref (Q 10)), (14, .ref (Q 11)), (15, .ref (Q 12)), (16, .ref (Q 13)), (17, .ref (Q 14)), (18, .int x18)] [.int s0] := by
  have m0 := mb_L_lines_149  h
  have e1 := m0.2.1; have e2 := m0.2.2.1; have e3 := hm0.2.1; have e4 := hm0.2.2.1
  have hI := lwI_mn hI0 hm0; have hQ := lwQ_kp hI0 hp0 hQ0
  unfold b_L_lines_149 at h
  refine g_sipush (v := (-7100 : Int32)) C dL_lines_149 (by decide) ?_
  refine g_icmp_ne (tgt := 194) C dL_lines_152 (by decide) (fun c152 => ?_) (fun c152 => ?_)
  · replace h := (if_neg c152).symm.trans h
    refine g_iconst (v := (0 : Int32)) C dL_lines_194 (by decide) ?_
    obtain rfl := Option.some.inj h
    exact g_iret C hr rfl hz ⟨(hm0.2.2.2 30 (by decide) (by decide)).1, (hm0.2.2.2 31 (by decide) (by decide)).1, hp0.2.1, hp0.2.2⟩ ⟨rfl, Ad, rfl, hp0⟩ (fun j x h => by simp at h) dL_lines_195
  · replace h := (if_pos c152).symm.trans h
    refine g_aload_n C dL_lines_155 rfl 0 rfl ?_
    refine g_iconst (v := (-1 : Int32)) C dL_lines_156 (by decide) ?_
    refine g_iconst (v := (1 : Int32)) C dL_lines_157 (by decide) ?_
    obtain ⟨v38, hv38, h⟩ := bind_of h
    have m2 := m_L_come hv38
    have m3 := mb_L_lines_161  h
    have a1 := hm0.2.1; have a2 := hm0.2.2.1; have b1 := m2.2.1; have b2 := m2.2.2.1; have d1 := m3.2.1; have d2 := m3.2.2.1
    refine g_cSh (n := 3) (exr := []) C hEv hN ⟨hp0.2.1 0, hp0.2.2 0⟩ [_, _, _] _ rfl rfl [] rfl rfl (fun sz => wc_L_come l hl B _ ν _ Ad Q hI hQ w _ _ _ hv38 D E sz) rfl gh_come gw_0 gw_470 gw_471 ⟨by decide +kernel, by decide +kernel, by decide +kernel⟩ ⟨rfl, rfl⟩ ⟨Nat.le_of_ble_eq_true rfl, Nat.le_of_ble_eq_true rfl⟩ (Nat.le_of_ble_eq_true rfl) dL_lines_158 ⟨by show (kc ν - kc ν0) + (kc v38.1.2 - kc ν) ≤ kc r0.1.1.2 - kc ν0; omega, by show (ks ν - ks ν0) + (ks v38.1.2 - ks ν) ≤ ks r0.1.1.2 - ks ν0; omega⟩ (fun r u hp hx => ?_)
    obtain ⟨er, A1, rfl, hkp⟩ := hp
    rw [er]
    try dsimp only [List.append_nil]
    refine g_widen (k := kc v38.1.2 - kc ν0) (n := ks v38.1.2 - ks ν0) (by omega) (by omega) ?_
    refine g_lv [0, 1, 2, 3, 4, 5, 6, 7, 8, 9, 10, 11, 12, 13, 14, 15] rfl ?_
    exact lb_L_lines_161 hl C hEv hN hr hz hI0 hQ0 (mn_trans hm0 m2) (kp_trans hp0 hm0 hkp)  h
noncomputable def b_L_lines_128  (w : Nat) (μ : MP) (ν : NC) (a : AS)  (s0 : Int32) : Option (((MP × NC) × AS) × Int32) := (if s0 = (0 : Int32) then (some (((μ, ν), a), (1 : Int32))) else (some (((μ, ν), a), (0 : Int32))))
theorem mb_L_lines_128 {w : Nat} {μ : MP} {ν : NC} {a : AS}  {s0 : Int32} {r0 : ((MP × NC) × AS) × Int32}   (h : b_L_lines_128  w μ ν a  s0 = some r0) : mn ν r0.1.1.2 := by
  unfold b_L_lines_128 at h
  by_cases c128 : s0 = (0 : Int32)
  · replace h := (if_pos c128).symm.trans h
    obtain rfl := Option.some.inj h
    exact mn_rfl _
  · replace h := (if_neg c128).symm.trans h
    obtain rfl := Option.some.inj h
    exact mn_rfl _
set_option maxHeartbeats 4000000 in
set_option maxRecDepth 100000 in
theorem lb_L_lines_128 {p : Program} {l : Launch} (hl : l.stackTraces = false) {e : Env} {s : State} {m : MethodId} {args : Array Value} {below : List Frame} {meth : Method} {c : Code} {D : va_G} {E : Nat → ClassId} {sz : Nat} {μ0 : MP} {ν0 : NC} {a0 : AS} {Ad0 : Nat → Nat → Nat} {Q : Nat → Nat} {B : Nat × (Nat → Nat)} {w : Nat} {r0 : ((MP × NC) × AS) × Int32} (C : cx p s m args meth c D E (Aof (zS μ0 ν0 a0 Ad0) [] s.heap.size) cL_lines 23 "TradeLineLaw") (hEv : eV (Ad0 30 0) (Ad0 31 0) B (Aof (zS μ0 ν0 a0 Ad0) [] s.heap.size) s s.heap) (hN : vN s) (hr : meth.sig.returnType = (some .boolean)) (hz : s.heap.size = sz) (hI0 : lwI ν0) (hQ0 : lwQ Ad0 Q) {μ : MP} {ν : NC} {a : AS} {Ad : Nat → Nat → Nat} (hm0 : mn ν0 ν) (hp0 : kp ν0 Ad0 Ad)  {s0 : Int32}   (h : b_L_lines_128  w μ ν a  s0 = some r0) : G p l e ({ frames := 14, cells := kc r0.1.1.2 - kc ν0, slots := ks r0.1.1.2 - ks ν0, locals := 398 } : Room) s m args below meth c D E (Aof (zS μ0 ν0 a0 Ad0) [] s.heap.size) 23 (MQ below (cQ D E sz (zS μ0 ν0 a0 Ad0) [] (pI (fun r u => r = r0.2 ∧ ∃ A1, u = (zS r0.1.1.1 r0.1.1.2 r0.1.2 A1, []) ∧ kp ν0 Ad0 A1))) args s (kc r0.1.1.2 - kc ν0) (ks r0.1.1.2 - ks ν0) (Aof (zS μ0 ν0 a0 Ad0) [] s.heap.size)) (zS μ ν a Ad) [] (kc ν - kc ν0) (ks ν - ks ν0) 128 [] [.int s0] := by
  have m0 := mb_L_lines_128  h
  have e1 := m0.2.1; have e2 := m0.2.2.1; have e3 := hm0.2.1; have e4 := hm0.2.2.1
  have hI := lwI_mn hI0 hm0; have hQ := lwQ_kp hI0 hp0 hQ0
  unfold b_L_lines_128 at h
  refine g_if_ne (tgt := 135) C dL_lines_128 (by decide) (fun c128 => ?_) (fun c128 => ?_)
  · replace h := (if_neg c128).symm.trans h
    refine g_iconst (v := (0 : Int32)) C dL_lines_135 (by decide) ?_
    obtain rfl := Option.some.inj h
    exact g_iret C hr rfl hz ⟨(hm0.2.2.2 30 (by decide) (by decide)).1, (hm0.2.2.2 31 (by decide) (by decide)).1, hp0.2.1, hp0.2.2⟩ ⟨rfl, Ad, rfl, hp0⟩ (fun j x h => by simp at h) dL_lines_136
  · replace h := (if_pos c128).symm.trans h
    refine g_iconst (v := (1 : Int32)) C dL_lines_131 (by decide) ?_
    refine g_goto (tgt := 136) C dL_lines_132 (by decide) ?_
    obtain rfl := Option.some.inj h
    exact g_iret C hr rfl hz ⟨(hm0.2.2.2 30 (by decide) (by decide)).1, (hm0.2.2.2 31 (by decide) (by decide)).1, hp0.2.1, hp0.2.2⟩ ⟨rfl, Ad, rfl, hp0⟩ (fun j x h => by simp at h) dL_lines_136
noncomputable def b_L_lines_125  (w : Nat) (μ : MP) (ν : NC) (a : AS)  (s0 : Int32) : Option (((MP × NC) × AS) × Int32) := (f_L_connect w μ ν s0).bind (fun v48 => b_L_lines_128  w v48.1.1 v48.1.2 a v48.2)
theorem mb_L_lines_125 {w : Nat} {μ : MP} {ν : NC} {a : AS}  {s0 : Int32} {r0 : ((MP × NC) × AS) × Int32}   (h : b_L_lines_125  w μ ν a  s0 = some r0) : mn ν r0.1.1.2 := by
  unfold b_L_lines_125 at h
  obtain ⟨v48, hv48, h⟩ := bind_of h
  exact mn_trans (m_L_connect hv48) (mb_L_lines_128  h)
set_option maxHeartbeats 4000000 in
set_option maxRecDepth 100000 in
theorem lb_L_lines_125 {p : Program} {l : Launch} (hl : l.stackTraces = false) {e : Env} {s : State} {m : MethodId} {args : Array Value} {below : List Frame} {meth : Method} {c : Code} {D : va_G} {E : Nat → ClassId} {sz : Nat} {μ0 : MP} {ν0 : NC} {a0 : AS} {Ad0 : Nat → Nat → Nat} {Q : Nat → Nat} {B : Nat × (Nat → Nat)} {w : Nat} {r0 : ((MP × NC) × AS) × Int32} (C : cx p s m args meth c D E (Aof (zS μ0 ν0 a0 Ad0) [] s.heap.size) cL_lines 23 "TradeLineLaw") (hEv : eV (Ad0 30 0) (Ad0 31 0) B (Aof (zS μ0 ν0 a0 Ad0) [] s.heap.size) s s.heap) (hN : vN s) (hr : meth.sig.returnType = (some .boolean)) (hz : s.heap.size = sz) (hI0 : lwI ν0) (hQ0 : lwQ Ad0 Q) {μ : MP} {ν : NC} {a : AS} {Ad : Nat → Nat → Nat} (hm0 : mn ν0 ν) (hp0 : kp ν0 Ad0 Ad)  {s0 : Int32}   (h : b_L_lines_125  w μ ν a  s0 = some r0) : G p l e ({ frames := 14, cells := kc r0.1.1.2 - kc ν0, slots := ks r0.1.1.2 - ks ν0, locals := 398 } : Room) s m args below meth c D E (Aof (zS μ0 ν0 a0 Ad0) [] s.heap.size) 23 (MQ below (cQ D E sz (zS μ0 ν0 a0 Ad0) [] (pI (fun r u => r = r0.2 ∧ ∃ A1, u = (zS r0.1.1.1 r0.1.1.2 r0.1.2 A1, []) ∧ kp ν0 Ad0 A1))) args s (kc r0.1.1.2 - kc ν0) (ks r0.1.1.2 - ks ν0) (Aof (zS μ0 ν0 a0 Ad0) [] s.heap.size)) (zS μ ν a Ad) [] (kc ν - kc ν0) (ks ν - ks ν0) 125 [] [.int s0, .ref (Q 0)] := by
  have m0 := mb_L_lines_125  h
  have e1 := m0.2.1; have e2 := m0.2.2.1; have e3 := hm0.2.1; have e4 := hm0.2.2.1
  have hI := lwI_mn hI0 hm0; have hQ := lwQ_kp hI0 hp0 hQ0
  unfold b_L_lines_125 at h
  obtain ⟨v48, hv48, h⟩ := bind_of h
  have m2 := m_L_connect hv48
  have m3 := mb_L_lines_128  h
  have a1 := hm0.2.1; have a2 := hm0.2.2.1; have b1 := m2.2.1; have b2 := m2.2.2.1; have d1 := m3.2.1; have d2 := m3.2.2.1
  refine g_cSh (n := 2) (exr := []) C hEv hN ⟨hp0.2.1 0, hp0.2.2 0⟩ [_, _] _ rfl rfl [] rfl rfl (fun sz => wc_L_connect l hl B _ ν _ Ad Q hI hQ w _ _ hv48 D E sz) rfl gh_connect gw_0 gw_211 gw_212 ⟨by decide +kernel, by decide +kernel, by decide +kernel⟩ ⟨rfl, rfl⟩ ⟨Nat.le_of_ble_eq_true rfl, Nat.le_of_ble_eq_true rfl⟩ (Nat.le_of_ble_eq_true rfl) dL_lines_125 ⟨by show (kc ν - kc ν0) + (kc v48.1.2 - kc ν) ≤ kc r0.1.1.2 - kc ν0; omega, by show (ks ν - ks ν0) + (ks v48.1.2 - ks ν) ≤ ks r0.1.1.2 - ks ν0; omega⟩ (fun r u hp hx => ?_)
  obtain ⟨er, A1, rfl, hkp⟩ := hp
  rw [er]
  try dsimp only [List.append_nil]
  refine g_widen (k := kc v48.1.2 - kc ν0) (n := ks v48.1.2 - ks ν0) (by omega) (by omega) ?_
  refine g_lv [] rfl ?_
  exact lb_L_lines_128 hl C hEv hN hr hz hI0 hQ0 (mn_trans hm0 m2) (kp_trans hp0 hm0 hkp)  h
noncomputable def b_L_lines_109  (w : Nat) (μ : MP) (ν : NC) (a : AS) (x3 : Int32) (s0 : Int32) : Option (((MP × NC) × AS) × Int32) := (f_L_up w a s0).bind (fun v47 => (if (x3 &&& (6 : Int32)) = (0 : Int32) then (b_L_lines_125  w μ ν v47.1 (1 : Int32)) else (b_L_lines_125  w μ ν v47.1 (0 : Int32))))
theorem mb_L_lines_109 {w : Nat} {μ : MP} {ν : NC} {a : AS} {x3 : Int32} {s0 : Int32} {r0 : ((MP × NC) × AS) × Int32}   (h : b_L_lines_109  w μ ν a x3 s0 = some r0) : mn ν r0.1.1.2 := by
  unfold b_L_lines_109 at h
  obtain ⟨v47, hv47, h⟩ := bind_of h
  by_cases c117 : (x3 &&& (6 : Int32)) = (0 : Int32)
  · replace h := (if_pos c117).symm.trans h
    exact mb_L_lines_125  h
  · replace h := (if_neg c117).symm.trans h
    exact mb_L_lines_125  h
set_option maxHeartbeats 4000000 in
set_option maxRecDepth 100000 in
theorem lb_L_lines_109 {p : Program} {l : Launch} (hl : l.stackTraces = false) {e : Env} {s : State} {m : MethodId} {args : Array Value} {below : List Frame} {meth : Method} {c : Code} {D : va_G} {E : Nat → ClassId} {sz : Nat} {μ0 : MP} {ν0 : NC} {a0 : AS} {Ad0 : Nat → Nat → Nat} {Q : Nat → Nat} {B : Nat × (Nat → Nat)} {w : Nat} {r0 : ((MP × NC) × AS) × Int32} (C : cx p s m args meth c D E (Aof (zS μ0 ν0 a0 Ad0) [] s.heap.size) cL_lines 23 "TradeLineLaw") (hEv : eV (Ad0 30 0) (Ad0 31 0) B (Aof (zS μ0 ν0 a0 Ad0) [] s.heap.size) s s.heap) (hN : vN s) (hr : meth.sig.returnType = (some .boolean)) (hz : s.heap.size = sz) (hI0 : lwI ν0) (hQ0 : lwQ Ad0 Q) {μ : MP} {ν : NC} {a : AS} {Ad : Nat → Nat → Nat} (hm0 : mn ν0 ν) (hp0 : kp ν0 Ad0 Ad) {x3 : Int32} {s0 : Int32}   (h : b_L_lines_109  w μ ν a x3 s0 = some r0) : G p l e ({ frames := 14, cells := kc r0.1.1.2 - kc ν0, slots := ks r0.1.1.2 - ks ν0, locals := 398 } : Room) s m args below meth c D E (Aof (zS μ0 ν0 a0 Ad0) [] s.heap.size) 23 (MQ below (cQ D E sz (zS μ0 ν0 a0 Ad0) [] (pI (fun r u => r = r0.2 ∧ ∃ A1, u = (zS r0.1.1.1 r0.1.1.2 r0.1.2 A1, []) ∧ kp ν0 Ad0 A1))) args s (kc r0.1.1.2 - kc ν0) (ks r0.1.1.2 - ks ν0) (Aof (zS μ0 ν0 a0 Ad0) [] s.heap.size)) (zS μ ν a Ad) [] (kc ν - kc ν0) (ks ν - ks ν0) 109 [(0, .ref (Q 0)), (3, .int x3)] [.int s0, .ref (Q 5), .ref (Q 4), .ref (Q 3), .ref (Q 2), .ref (Q 1)] := by
  have m0 := mb_L_lines_109  h
  have e1 := m0.2.1; have e2 := m0.2.2.1; have e3 := hm0.2.1; have e4 := hm0.2.2.1
  have hI := lwI_mn hI0 hm0; have hQ := lwQ_kp hI0 hp0 hQ0
  unfold b_L_lines_109 at h
  obtain ⟨v47, hv47, h⟩ := bind_of h
  refine g_cSv (n := 6) (exc := []) (exr := []) C [_, _, _, _, _, _] _ rfl rfl [] [] rfl rfl rfl rfl (fun _ h => absurd h (by simp)) (fun _ h => absurd h (by simp)) (fun _ h => absurd h (by simp)) (fun sz => wk_L_up l _ ν _ Ad Q hI hQ w _  _ hv47 D E sz) rfl gw_455 gw_0 gw_453 gw_454 ⟨by decide +kernel, by decide +kernel, by decide +kernel⟩ ⟨rfl, rfl⟩ ⟨Nat.le_of_ble_eq_true rfl, Nat.le_of_ble_eq_true rfl⟩ (Nat.le_of_ble_eq_true rfl) dL_lines_109 ⟨by show (kc ν - kc ν0) + 0 ≤ kc r0.1.1.2 - kc ν0; omega, by show (ks ν - ks ν0) + 0 ≤ ks r0.1.1.2 - ks ν0; omega⟩ (fun u hp hx => ?_)
  obtain rfl := hp
  try dsimp only [List.append_nil]
  refine g_aload_n C dL_lines_112 rfl 0 rfl ?_
  refine g_iload_n C dL_lines_113 rfl 1 rfl ?_
  refine g_bipush (v := (6 : Int32)) C dL_lines_114 (by decide) ?_
  refine g_iand C dL_lines_116 ?_
  refine g_if_ne (tgt := 124) C dL_lines_117 (by decide) (fun c117 => ?_) (fun c117 => ?_)
  · replace h := (if_neg c117).symm.trans h
    refine g_iconst (v := (0 : Int32)) C dL_lines_124 (by decide) ?_
    refine g_lv [] rfl ?_
    exact lb_L_lines_125 hl C hEv hN hr hz hI0 hQ0 hm0 hp0  h
  · replace h := (if_pos c117).symm.trans h
    refine g_iconst (v := (1 : Int32)) C dL_lines_120 (by decide) ?_
    refine g_goto (tgt := 125) C dL_lines_121 (by decide) ?_
    refine g_lv [] rfl ?_
    exact lb_L_lines_125 hl C hEv hN hr hz hI0 hQ0 hm0 hp0  h
noncomputable def b_L_lines_79  (w : Nat) (μ : MP) (ν : NC) (a : AS) (x3 : Int32) (s0 : Int32) : Option (((MP × NC) × AS) × Int32) := (if s0 = (-7300 : Int32) then ((if (x3 &&& (6 : Int32)) = (0 : Int32) then (b_L_lines_109  w μ ν a x3 (1 : Int32)) else (b_L_lines_109  w μ ν a x3 (0 : Int32)))) else (some (((μ, ν), a), (0 : Int32))))
theorem mb_L_lines_79 {w : Nat} {μ : MP} {ν : NC} {a : AS} {x3 : Int32} {s0 : Int32} {r0 : ((MP × NC) × AS) × Int32}   (h : b_L_lines_79  w μ ν a x3 s0 = some r0) : mn ν r0.1.1.2 := by
  unfold b_L_lines_79 at h
  by_cases c82 : s0 = (-7300 : Int32)
  · replace h := (if_pos c82).symm.trans h
    by_cases c101 : (x3 &&& (6 : Int32)) = (0 : Int32)
    · replace h := (if_pos c101).symm.trans h
      exact mb_L_lines_109  h
    · replace h := (if_neg c101).symm.trans h
      exact mb_L_lines_109  h
  · replace h := (if_neg c82).symm.trans h
    obtain rfl := Option.some.inj h
    exact mn_rfl _
set_option maxHeartbeats 4000000 in
set_option maxRecDepth 100000 in
theorem lb_L_lines_79 {p : Program} {l : Launch} (hl : l.stackTraces = false) {e : Env} {s : State} {m : MethodId} {args : Array Value} {below : List Frame} {meth : Method} {c : Code} {D : va_G} {E : Nat → ClassId} {sz : Nat} {μ0 : MP} {ν0 : NC} {a0 : AS} {Ad0 : Nat → Nat → Nat} {Q : Nat → Nat} {B : Nat × (Nat → Nat)} {w : Nat} {r0 : ((MP × NC) × AS) × Int32} (C : cx p s m args meth c D E (Aof (zS μ0 ν0 a0 Ad0) [] s.heap.size) cL_lines 23 "TradeLineLaw") (hEv : eV (Ad0 30 0) (Ad0 31 0) B (Aof (zS μ0 ν0 a0 Ad0) [] s.heap.size) s s.heap) (hN : vN s) (hr : meth.sig.returnType = (some .boolean)) (hz : s.heap.size = sz) (hI0 : lwI ν0) (hQ0 : lwQ Ad0 Q) {μ : MP} {ν : NC} {a : AS} {Ad : Nat → Nat → Nat} (hm0 : mn ν0 ν) (hp0 : kp ν0 Ad0 Ad) {x3 : Int32} {s0 : Int32}   (h : b_L_lines_79  w μ ν a x3 s0 = some r0) : G p l e ({ frames := 14, cells := kc r0.1.1.2 - kc ν0, slots := ks r0.1.1.2 - ks ν0, locals := 398 } : Room) s m args below meth c D E (Aof (zS μ0 ν0 a0 Ad0) [] s.heap.size) 23 (MQ below (cQ D E sz (zS μ0 ν0 a0 Ad0) [] (pI (fun r u => r = r0.2 ∧ ∃ A1, u = (zS r0.1.1.1 r0.1.1.2 r0.1.2 A1, []) ∧ kp ν0 Ad0 A1))) args s (kc r0.1.1.2 - kc ν0) (ks r0.1.1.2 - ks ν0) (Aof (zS μ0 ν0 a0 Ad0) [] s.heap.size)) (zS μ ν a Ad) [] (kc ν - kc ν0) (ks ν - ks ν0) 79 [(0, .ref (Q 0)), (3, .int x3), (4, .ref (Q 1)), (5, .ref (Q 2)), (6, .ref (Q 3)), (7, .ref (Q 4)), (8, .ref (Q 5))] [.int s0] := by
  have m0 := mb_L_lines_79  h
  have e1 := m0.2.1; have e2 := m0.2.2.1; have e3 := hm0.2.1; have e4 := hm0.2.2.1
  have hI := lwI_mn hI0 hm0; have hQ := lwQ_kp hI0 hp0 hQ0
  unfold b_L_lines_79 at h
  refine g_sipush (v := (-7300 : Int32)) C dL_lines_79 (by decide) ?_
  refine g_icmp_eq (tgt := 87) C dL_lines_82 (by decide) (fun c82 => ?_) (fun c82 => ?_)
  · replace h := (if_pos c82).symm.trans h
    refine g_aload C dL_lines_87 2 rfl ?_
    refine g_aload C dL_lines_89 3 rfl ?_
    refine g_aload C dL_lines_91 4 rfl ?_
    refine g_aload C dL_lines_93 5 rfl ?_
    refine g_aload C dL_lines_95 6 rfl ?_
    refine g_iload_n C dL_lines_97 rfl 1 rfl ?_
    refine g_bipush (v := (6 : Int32)) C dL_lines_98 (by decide) ?_
    refine g_iand C dL_lines_100 ?_
    refine g_if_ne (tgt := 108) C dL_lines_101 (by decide) (fun c101 => ?_) (fun c101 => ?_)
    · replace h := (if_neg c101).symm.trans h
      refine g_iconst (v := (0 : Int32)) C dL_lines_108 (by decide) ?_
      refine g_lv [0, 1] rfl ?_
      exact lb_L_lines_109 hl C hEv hN hr hz hI0 hQ0 hm0 hp0  h
    · replace h := (if_pos c101).symm.trans h
      refine g_iconst (v := (1 : Int32)) C dL_lines_104 (by decide) ?_
      refine g_goto (tgt := 109) C dL_lines_105 (by decide) ?_
      refine g_lv [0, 1] rfl ?_
      exact lb_L_lines_109 hl C hEv hN hr hz hI0 hQ0 hm0 hp0  h
  · replace h := (if_neg c82).symm.trans h
    refine g_iconst (v := (0 : Int32)) C dL_lines_85 (by decide) ?_
    obtain rfl := Option.some.inj h
    exact g_iret C hr rfl hz ⟨(hm0.2.2.2 30 (by decide) (by decide)).1, (hm0.2.2.2 31 (by decide) (by decide)).1, hp0.2.1, hp0.2.2⟩ ⟨rfl, Ad, rfl, hp0⟩ (fun j x h => by simp at h) dL_lines_86
noncomputable def b_L_lines_57  (w : Nat) (μ : MP) (ν : NC) (a : AS)  (s0 : Int32) : Option (((MP × NC) × AS) × Int32) := (f_L_down w a ).bind (fun v50 => (if s0 = v50.2 then (some (((μ, ν), v50.1), (1 : Int32))) else (some (((μ, ν), v50.1), (0 : Int32)))))
theorem mb_L_lines_57 {w : Nat} {μ : MP} {ν : NC} {a : AS}  {s0 : Int32} {r0 : ((MP × NC) × AS) × Int32}   (h : b_L_lines_57  w μ ν a  s0 = some r0) : mn ν r0.1.1.2 := by
  unfold b_L_lines_57 at h
  obtain ⟨v50, hv50, h⟩ := bind_of h
  by_cases c66 : s0 = v50.2
  · replace h := (if_pos c66).symm.trans h
    obtain rfl := Option.some.inj h
    exact mn_rfl _
  · replace h := (if_neg c66).symm.trans h
    obtain rfl := Option.some.inj h
    exact mn_rfl _
set_option maxHeartbeats 4000000 in
set_option maxRecDepth 100000 in
theorem lb_L_lines_57 {p : Program} {l : Launch} (hl : l.stackTraces = false) {e : Env} {s : State} {m : MethodId} {args : Array Value} {below : List Frame} {meth : Method} {c : Code} {D : va_G} {E : Nat → ClassId} {sz : Nat} {μ0 : MP} {ν0 : NC} {a0 : AS} {Ad0 : Nat → Nat → Nat} {Q : Nat → Nat} {B : Nat × (Nat → Nat)} {w : Nat} {r0 : ((MP × NC) × AS) × Int32} (C : cx p s m args meth c D E (Aof (zS μ0 ν0 a0 Ad0) [] s.heap.size) cL_lines 23 "TradeLineLaw") (hEv : eV (Ad0 30 0) (Ad0 31 0) B (Aof (zS μ0 ν0 a0 Ad0) [] s.heap.size) s s.heap) (hN : vN s) (hr : meth.sig.returnType = (some .boolean)) (hz : s.heap.size = sz) (hI0 : lwI ν0) (hQ0 : lwQ Ad0 Q) {μ : MP} {ν : NC} {a : AS} {Ad : Nat → Nat → Nat} (hm0 : mn ν0 ν) (hp0 : kp ν0 Ad0 Ad)  {s0 : Int32}   (h : b_L_lines_57  w μ ν a  s0 = some r0) : G p l e ({ frames := 14, cells := kc r0.1.1.2 - kc ν0, slots := ks r0.1.1.2 - ks ν0, locals := 398 } : Room) s m args below meth c D E (Aof (zS μ0 ν0 a0 Ad0) [] s.heap.size) 23 (MQ below (cQ D E sz (zS μ0 ν0 a0 Ad0) [] (pI (fun r u => r = r0.2 ∧ ∃ A1, u = (zS r0.1.1.1 r0.1.1.2 r0.1.2 A1, []) ∧ kp ν0 Ad0 A1))) args s (kc r0.1.1.2 - kc ν0) (ks r0.1.1.2 - ks ν0) (Aof (zS μ0 ν0 a0 Ad0) [] s.heap.size)) (zS μ ν a Ad) [] (kc ν - kc ν0) (ks ν - ks ν0) 57 [(4, .ref (Q 1)), (9, .ref (Q 6)), (10, .ref (Q 7))] [.int s0] := by
  have m0 := mb_L_lines_57  h
  have e1 := m0.2.1; have e2 := m0.2.2.1; have e3 := hm0.2.1; have e4 := hm0.2.2.1
  have hI := lwI_mn hI0 hm0; have hQ := lwQ_kp hI0 hp0 hQ0
  unfold b_L_lines_57 at h
  refine g_aload C dL_lines_57 0 rfl ?_
  refine g_aload C dL_lines_59 1 rfl ?_
  refine g_aload C dL_lines_61 2 rfl ?_
  obtain ⟨v50, hv50, h⟩ := bind_of h
  refine g_cSi (n := 3) (exc := []) (exr := []) C [_, _, _] _ rfl rfl [] [] rfl rfl rfl rfl (fun _ h => absurd h (by simp)) (fun _ h => absurd h (by simp)) (fun _ h => absurd h (by simp)) (fun sz => wk_L_down l _ ν _ Ad Q hI hQ w   _ hv50 D E sz) rfl gw_452 gw_0 gw_450 gw_451 ⟨by decide +kernel, by decide +kernel, by decide +kernel⟩ ⟨rfl, rfl⟩ ⟨Nat.le_of_ble_eq_true rfl, Nat.le_of_ble_eq_true rfl⟩ (Nat.le_of_ble_eq_true rfl) dL_lines_63 ⟨by show (kc ν - kc ν0) + 0 ≤ kc r0.1.1.2 - kc ν0; omega, by show (ks ν - ks ν0) + 0 ≤ ks r0.1.1.2 - ks ν0; omega⟩ (fun r u hp hx => ?_)
  obtain ⟨er, rfl⟩ := hp
  rw [er]
  try dsimp only [List.append_nil]
  refine g_icmp_ne (tgt := 73) C dL_lines_66 (by decide) (fun c66 => ?_) (fun c66 => ?_)
  · replace h := (if_neg c66).symm.trans h
    refine g_iconst (v := (0 : Int32)) C dL_lines_73 (by decide) ?_
    obtain rfl := Option.some.inj h
    exact g_iret C hr rfl hz ⟨(hm0.2.2.2 30 (by decide) (by decide)).1, (hm0.2.2.2 31 (by decide) (by decide)).1, hp0.2.1, hp0.2.2⟩ ⟨rfl, Ad, rfl, hp0⟩ (fun j x h => by simp at h) dL_lines_74
  · replace h := (if_pos c66).symm.trans h
    refine g_iconst (v := (1 : Int32)) C dL_lines_69 (by decide) ?_
    refine g_goto (tgt := 74) C dL_lines_70 (by decide) ?_
    obtain rfl := Option.some.inj h
    exact g_iret C hr rfl hz ⟨(hm0.2.2.2 30 (by decide) (by decide)).1, (hm0.2.2.2 31 (by decide) (by decide)).1, hp0.2.1, hp0.2.2⟩ ⟨rfl, Ad, rfl, hp0⟩ (fun j x h => by simp at h) dL_lines_74
noncomputable def b_L_lines_41  (w : Nat) (μ : MP) (ν : NC) (a : AS)  (s0 : Int32) : Option (((MP × NC) × AS) × Int32) := (if s0 = (-7300 : Int32) then (some (((μ, ν), a), (1 : Int32))) else (some (((μ, ν), a), (0 : Int32))))
theorem mb_L_lines_41 {w : Nat} {μ : MP} {ν : NC} {a : AS}  {s0 : Int32} {r0 : ((MP × NC) × AS) × Int32}   (h : b_L_lines_41  w μ ν a  s0 = some r0) : mn ν r0.1.1.2 := by
  unfold b_L_lines_41 at h
  by_cases c44 : s0 = (-7300 : Int32)
  · replace h := (if_pos c44).symm.trans h
    obtain rfl := Option.some.inj h
    exact mn_rfl _
  · replace h := (if_neg c44).symm.trans h
    obtain rfl := Option.some.inj h
    exact mn_rfl _
set_option maxHeartbeats 4000000 in
set_option maxRecDepth 100000 in
theorem lb_L_lines_41 {p : Program} {l : Launch} (hl : l.stackTraces = false) {e : Env} {s : State} {m : MethodId} {args : Array Value} {below : List Frame} {meth : Method} {c : Code} {D : va_G} {E : Nat → ClassId} {sz : Nat} {μ0 : MP} {ν0 : NC} {a0 : AS} {Ad0 : Nat → Nat → Nat} {Q : Nat → Nat} {B : Nat × (Nat → Nat)} {w : Nat} {r0 : ((MP × NC) × AS) × Int32} (C : cx p s m args meth c D E (Aof (zS μ0 ν0 a0 Ad0) [] s.heap.size) cL_lines 23 "TradeLineLaw") (hEv : eV (Ad0 30 0) (Ad0 31 0) B (Aof (zS μ0 ν0 a0 Ad0) [] s.heap.size) s s.heap) (hN : vN s) (hr : meth.sig.returnType = (some .boolean)) (hz : s.heap.size = sz) (hI0 : lwI ν0) (hQ0 : lwQ Ad0 Q) {μ : MP} {ν : NC} {a : AS} {Ad : Nat → Nat → Nat} (hm0 : mn ν0 ν) (hp0 : kp ν0 Ad0 Ad)  {s0 : Int32}   (h : b_L_lines_41  w μ ν a  s0 = some r0) : G p l e ({ frames := 14, cells := kc r0.1.1.2 - kc ν0, slots := ks r0.1.1.2 - ks ν0, locals := 398 } : Room) s m args below meth c D E (Aof (zS μ0 ν0 a0 Ad0) [] s.heap.size) 23 (MQ below (cQ D E sz (zS μ0 ν0 a0 Ad0) [] (pI (fun r u => r = r0.2 ∧ ∃ A1, u = (zS r0.1.1.1 r0.1.1.2 r0.1.2 A1, []) ∧ kp ν0 Ad0 A1))) args s (kc r0.1.1.2 - kc ν0) (ks r0.1.1.2 - ks ν0) (Aof (zS μ0 ν0 a0 Ad0) [] s.heap.size)) (zS μ ν a Ad) [] (kc ν - kc ν0) (ks ν - ks ν0) 41 [] [.int s0] := by
  have m0 := mb_L_lines_41  h
  have e1 := m0.2.1; have e2 := m0.2.2.1; have e3 := hm0.2.1; have e4 := hm0.2.2.1
  have hI := lwI_mn hI0 hm0; have hQ := lwQ_kp hI0 hp0 hQ0
  unfold b_L_lines_41 at h
  refine g_sipush (v := (-7300 : Int32)) C dL_lines_41 (by decide) ?_
  refine g_icmp_ne (tgt := 51) C dL_lines_44 (by decide) (fun c44 => ?_) (fun c44 => ?_)
  · replace h := (if_neg c44).symm.trans h
    refine g_iconst (v := (0 : Int32)) C dL_lines_51 (by decide) ?_
    obtain rfl := Option.some.inj h
    exact g_iret C hr rfl hz ⟨(hm0.2.2.2 30 (by decide) (by decide)).1, (hm0.2.2.2 31 (by decide) (by decide)).1, hp0.2.1, hp0.2.2⟩ ⟨rfl, Ad, rfl, hp0⟩ (fun j x h => by simp at h) dL_lines_52
  · replace h := (if_pos c44).symm.trans h
    refine g_iconst (v := (1 : Int32)) C dL_lines_47 (by decide) ?_
    refine g_goto (tgt := 52) C dL_lines_48 (by decide) ?_
    obtain rfl := Option.some.inj h
    exact g_iret C hr rfl hz ⟨(hm0.2.2.2 30 (by decide) (by decide)).1, (hm0.2.2.2 31 (by decide) (by decide)).1, hp0.2.1, hp0.2.2⟩ ⟨rfl, Ad, rfl, hp0⟩ (fun j x h => by simp at h) dL_lines_52
noncomputable def b_L_lines_30  (w : Nat) (μ : MP) (ν : NC) (a : AS)  (s0 : Int32) : Option (((MP × NC) × AS) × Int32) := (if s0 = (-7300 : Int32) then ((f_L_connect w μ ν (1 : Int32)).bind (fun v52 => b_L_lines_41  w v52.1.1 v52.1.2 a v52.2)) else (some (((μ, ν), a), (0 : Int32))))
theorem mb_L_lines_30 {w : Nat} {μ : MP} {ν : NC} {a : AS}  {s0 : Int32} {r0 : ((MP × NC) × AS) × Int32}   (h : b_L_lines_30  w μ ν a  s0 = some r0) : mn ν r0.1.1.2 := by
  unfold b_L_lines_30 at h
  by_cases c33 : s0 = (-7300 : Int32)
  · replace h := (if_pos c33).symm.trans h
    obtain ⟨v52, hv52, h⟩ := bind_of h
    exact mn_trans (m_L_connect hv52) (mb_L_lines_41  h)
  · replace h := (if_neg c33).symm.trans h
    obtain rfl := Option.some.inj h
    exact mn_rfl _
set_option maxHeartbeats 4000000 in
set_option maxRecDepth 100000 in
theorem lb_L_lines_30 {p : Program} {l : Launch} (hl : l.stackTraces = false) {e : Env} {s : State} {m : MethodId} {args : Array Value} {below : List Frame} {meth : Method} {c : Code} {D : va_G} {E : Nat → ClassId} {sz : Nat} {μ0 : MP} {ν0 : NC} {a0 : AS} {Ad0 : Nat → Nat → Nat} {Q : Nat → Nat} {B : Nat × (Nat → Nat)} {w : Nat} {r0 : ((MP × NC) × AS) × Int32} (C : cx p s m args meth c D E (Aof (zS μ0 ν0 a0 Ad0) [] s.heap.size) cL_lines 23 "TradeLineLaw") (hEv : eV (Ad0 30 0) (Ad0 31 0) B (Aof (zS μ0 ν0 a0 Ad0) [] s.heap.size) s s.heap) (hN : vN s) (hr : meth.sig.returnType = (some .boolean)) (hz : s.heap.size = sz) (hI0 : lwI ν0) (hQ0 : lwQ Ad0 Q) {μ : MP} {ν : NC} {a : AS} {Ad : Nat → Nat → Nat} (hm0 : mn ν0 ν) (hp0 : kp ν0 Ad0 Ad)  {s0 : Int32}   (h : b_L_lines_30  w μ ν a  s0 = some r0) : G p l e ({ frames := 14, cells := kc r0.1.1.2 - kc ν0, slots := ks r0.1.1.2 - ks ν0, locals := 398 } : Room) s m args below meth c D E (Aof (zS μ0 ν0 a0 Ad0) [] s.heap.size) 23 (MQ below (cQ D E sz (zS μ0 ν0 a0 Ad0) [] (pI (fun r u => r = r0.2 ∧ ∃ A1, u = (zS r0.1.1.1 r0.1.1.2 r0.1.2 A1, []) ∧ kp ν0 Ad0 A1))) args s (kc r0.1.1.2 - kc ν0) (ks r0.1.1.2 - ks ν0) (Aof (zS μ0 ν0 a0 Ad0) [] s.heap.size)) (zS μ ν a Ad) [] (kc ν - kc ν0) (ks ν - ks ν0) 30 [(0, .ref (Q 0))] [.int s0] := by
  have m0 := mb_L_lines_30  h
  have e1 := m0.2.1; have e2 := m0.2.2.1; have e3 := hm0.2.1; have e4 := hm0.2.2.1
  have hI := lwI_mn hI0 hm0; have hQ := lwQ_kp hI0 hp0 hQ0
  unfold b_L_lines_30 at h
  refine g_sipush (v := (-7300 : Int32)) C dL_lines_30 (by decide) ?_
  refine g_icmp_ne (tgt := 51) C dL_lines_33 (by decide) (fun c33 => ?_) (fun c33 => ?_)
  · replace h := (if_neg c33).symm.trans h
    refine g_iconst (v := (0 : Int32)) C dL_lines_51 (by decide) ?_
    obtain rfl := Option.some.inj h
    exact g_iret C hr rfl hz ⟨(hm0.2.2.2 30 (by decide) (by decide)).1, (hm0.2.2.2 31 (by decide) (by decide)).1, hp0.2.1, hp0.2.2⟩ ⟨rfl, Ad, rfl, hp0⟩ (fun j x h => by simp at h) dL_lines_52
  · replace h := (if_pos c33).symm.trans h
    refine g_aload_n C dL_lines_36 rfl 0 rfl ?_
    refine g_iconst (v := (1 : Int32)) C dL_lines_37 (by decide) ?_
    obtain ⟨v52, hv52, h⟩ := bind_of h
    have m2 := m_L_connect hv52
    have m3 := mb_L_lines_41  h
    have a1 := hm0.2.1; have a2 := hm0.2.2.1; have b1 := m2.2.1; have b2 := m2.2.2.1; have d1 := m3.2.1; have d2 := m3.2.2.1
    refine g_cSh (n := 2) (exr := []) C hEv hN ⟨hp0.2.1 0, hp0.2.2 0⟩ [_, _] _ rfl rfl [] rfl rfl (fun sz => wc_L_connect l hl B _ ν _ Ad Q hI hQ w _ _ hv52 D E sz) rfl gh_connect gw_0 gw_211 gw_212 ⟨by decide +kernel, by decide +kernel, by decide +kernel⟩ ⟨rfl, rfl⟩ ⟨Nat.le_of_ble_eq_true rfl, Nat.le_of_ble_eq_true rfl⟩ (Nat.le_of_ble_eq_true rfl) dL_lines_38 ⟨by show (kc ν - kc ν0) + (kc v52.1.2 - kc ν) ≤ kc r0.1.1.2 - kc ν0; omega, by show (ks ν - ks ν0) + (ks v52.1.2 - ks ν) ≤ ks r0.1.1.2 - ks ν0; omega⟩ (fun r u hp hx => ?_)
    obtain ⟨er, A1, rfl, hkp⟩ := hp
    rw [er]
    try dsimp only [List.append_nil]
    refine g_widen (k := kc v52.1.2 - kc ν0) (n := ks v52.1.2 - ks ν0) (by omega) (by omega) ?_
    refine g_lv [] rfl ?_
    exact lb_L_lines_41 hl C hEv hN hr hz hI0 hQ0 (mn_trans hm0 m2) (kp_trans hp0 hm0 hkp)  h
noncomputable def f_L_lines  (w : Nat) (μ : MP) (ν : NC) (a : AS) (x1 : Int32) (x2 : Int32) (x3 : Int32)  : Option (((MP × NC) × AS) × Int32) := yl ((x2 &&& (1 : Int32))) (fun t1 => (if x1 = (0 : Int32) then (bif ixB (1 : Int32) 22 then (if (a 1 (1 : Int32).toNatClampNeg) = (1 : Int32) then ((if (x3 &&& (1792 : Int32)) ≤ (0 : Int32) then ((f_L_cut w μ ν ).bind (fun v49 => b_L_lines_57  w v49.1.1 v49.1.2 a v49.2)) else ((f_L_connect w μ ν (0 : Int32)).bind (fun v51 => b_L_lines_30  w v51.1.1 v51.1.2 a v51.2)))) else ((f_L_cut w μ ν ).bind (fun v46 => b_L_lines_79  w v46.1.1 v46.1.2 a x3 v46.2))) else none) else ((if (7 : Int32) ≤ x1 then ((if x1 = (7 : Int32) then (bif ixB ((16 : Int32) + t1) 22 then (f_L_low w a x3 ((a 1 ((16 : Int32) + t1).toNatClampNeg) + (1 : Int32))).bind (fun v24 => (f_L_garble w μ ν (2 : Int32) (0 : Int32)).bind (fun v25 => b_L_lines_302  w v25.1.1 v25.1.2 a t1 v24 v25.2)) else none) else ((if (x2 &&& (96 : Int32)) = (0 : Int32) then (b_L_lines_453  w μ ν a (26 : Int32) x3 (1 : Int32)) else (b_L_lines_453  w μ ν a (6 : Int32) x3 (1 : Int32)))))) else ((f_L_come w μ ν (2 : Int32) (0 : Int32)).bind (fun v37 => b_L_lines_149  w v37.1.1 v37.1.2 a t1 v37.2))))))
theorem mb_L_lines_0 {w : Nat} {μ : MP} {ν : NC} {a : AS} {x1 : Int32} {x2 : Int32} {x3 : Int32}  {r0 : ((MP × NC) × AS) × Int32}   (h : f_L_lines  w μ ν a x1 x2 x3  = some r0) : mn ν r0.1.1.2 := by
  unfold f_L_lines at h
  obtain ⟨t1, et1⟩ : ∃ y, (x2 &&& (1 : Int32)) = y := ⟨_, rfl⟩
  replace h := yl_of h et1
  by_cases c6 : x1 = (0 : Int32)
  · replace h := (if_pos c6).symm.trans h
    replace h := (of_guard h).2
    by_cases c14 : (a 1 (1 : Int32).toNatClampNeg) = (1 : Int32)
    · replace h := (if_pos c14).symm.trans h
      by_cases c22 : (x3 &&& (1792 : Int32)) ≤ (0 : Int32)
      · replace h := (if_pos c22).symm.trans h
        obtain ⟨v49, hv49, h⟩ := bind_of h
        exact mn_trans (m_L_cut hv49) (mb_L_lines_57  h)
      · replace h := (if_neg c22).symm.trans h
        obtain ⟨v51, hv51, h⟩ := bind_of h
        exact mn_trans (m_L_connect hv51) (mb_L_lines_30  h)
    · replace h := (if_neg c14).symm.trans h
      obtain ⟨v46, hv46, h⟩ := bind_of h
      exact mn_trans (m_L_cut hv46) (mb_L_lines_79  h)
  · replace h := (if_neg c6).symm.trans h
    by_cases c140 : (7 : Int32) ≤ x1
    · replace h := (if_pos c140).symm.trans h
      by_cases c277 : x1 = (7 : Int32)
      · replace h := (if_pos c277).symm.trans h
        replace h := (of_guard h).2
        obtain ⟨v24, hv24, h⟩ := bind_of h
        obtain ⟨v25, hv25, h⟩ := bind_of h
        exact mn_trans (m_L_garble hv25) (mb_L_lines_302  h)
      · replace h := (if_neg c277).symm.trans h
        by_cases c443 : (x2 &&& (96 : Int32)) = (0 : Int32)
        · replace h := (if_pos c443).symm.trans h
          exact mb_L_lines_453  h
        · replace h := (if_neg c443).symm.trans h
          exact mb_L_lines_453  h
    · replace h := (if_neg c140).symm.trans h
      obtain ⟨v37, hv37, h⟩ := bind_of h
      exact mn_trans (m_L_come hv37) (mb_L_lines_149  h)
set_option maxHeartbeats 4000000 in
set_option maxRecDepth 100000 in
theorem lb_L_lines_0 {p : Program} {l : Launch} (hl : l.stackTraces = false) {e : Env} {s : State} {m : MethodId} {args : Array Value} {below : List Frame} {meth : Method} {c : Code} {D : va_G} {E : Nat → ClassId} {sz : Nat} {μ0 : MP} {ν0 : NC} {a0 : AS} {Ad0 : Nat → Nat → Nat} {Q : Nat → Nat} {B : Nat × (Nat → Nat)} {w : Nat} {r0 : ((MP × NC) × AS) × Int32} (C : cx p s m args meth c D E (Aof (zS μ0 ν0 a0 Ad0) [] s.heap.size) cL_lines 23 "TradeLineLaw") (hEv : eV (Ad0 30 0) (Ad0 31 0) B (Aof (zS μ0 ν0 a0 Ad0) [] s.heap.size) s s.heap) (hN : vN s) (hr : meth.sig.returnType = (some .boolean)) (hz : s.heap.size = sz) (hI0 : lwI ν0) (hQ0 : lwQ Ad0 Q) {μ : MP} {ν : NC} {a : AS} {Ad : Nat → Nat → Nat} (hm0 : mn ν0 ν) (hp0 : kp ν0 Ad0 Ad) {x1 : Int32} {x2 : Int32} {x3 : Int32}    (h : f_L_lines  w μ ν a x1 x2 x3  = some r0) : G p l e ({ frames := 14, cells := kc r0.1.1.2 - kc ν0, slots := ks r0.1.1.2 - ks ν0, locals := 398 } : Room) s m args below meth c D E (Aof (zS μ0 ν0 a0 Ad0) [] s.heap.size) 23 (MQ below (cQ D E sz (zS μ0 ν0 a0 Ad0) [] (pI (fun r u => r = r0.2 ∧ ∃ A1, u = (zS r0.1.1.1 r0.1.1.2 r0.1.2 A1, []) ∧ kp ν0 Ad0 A1))) args s (kc r0.1.1.2 - kc ν0) (ks r0.1.1.2 - ks ν0) (Aof (zS μ0 ν0 a0 Ad0) [] s.heap.size)) (zS μ ν a Ad) [] (kc ν - kc ν0) (ks ν - ks ν0) 0 [(0, .ref (Q 0)), (1, .int x1), (2, .int x2), (3, .int x3), (4, .ref (Q 1)), (5, .ref (Q 2)), (6, .ref (Q 3)), (7, .ref (Q 4)), (8, .ref (Q 5)), (9, .ref (Q 6)), (10, .ref (Q 7)), (11, .ref (Q 8)), (12, .ref (Q 9)), (13, .ref (Q 10)), (14, .ref (Q 11)), (15, .ref (Q 12)), (16, .ref (Q 13)), (17, .ref (Q 14))] [] := by
  have m0 := mb_L_lines_0  h
  have e1 := m0.2.1; have e2 := m0.2.2.1; have e3 := hm0.2.1; have e4 := hm0.2.2.1
  have hI := lwI_mn hI0 hm0; have hQ := lwQ_kp hI0 hp0 hQ0
  unfold f_L_lines at h
  refine g_iload_n C dL_lines_0 rfl 2 rfl ?_
  refine g_iconst (v := (1 : Int32)) C dL_lines_1 (by decide) ?_
  refine g_iand C dL_lines_2 ?_
  refine q_topi (fun t1 et1 => ?_)
  replace h := yl_of h et1
  refine g_istore (lv' := [(18, .int t1), (0, .ref (Q 0)), (1, .int x1), (2, .int x2), (3, .int x3), (4, .ref (Q 1)), (5, .ref (Q 2)), (6, .ref (Q 3)), (7, .ref (Q 4)), (8, .ref (Q 5)), (9, .ref (Q 6)), (10, .ref (Q 7)), (11, .ref (Q 8)), (12, .ref (Q 9)), (13, .ref (Q 10)), (14, .ref (Q 11)), (15, .ref (Q 12)), (16, .ref (Q 13)), (17, .ref (Q 14))]) C dL_lines_3 (by decide) rfl ?_
  refine g_iload_n C dL_lines_5 rfl 2 rfl ?_
  refine g_if_ne (tgt := 137) C dL_lines_6 (by decide) (fun c6 => ?_) (fun c6 => ?_)
  · replace h := (if_neg c6).symm.trans h
    refine g_iload_n C dL_lines_137 rfl 2 rfl ?_
    refine g_bipush (v := (7 : Int32)) C dL_lines_138 (by decide) ?_
    refine g_icmp_ge (tgt := 274) C dL_lines_140 (by decide) (fun c140 => ?_) (fun c140 => ?_)
    · replace h := (if_pos c140).symm.trans h
      refine g_iload_n C dL_lines_274 rfl 2 rfl ?_
      refine g_bipush (v := (7 : Int32)) C dL_lines_275 (by decide) ?_
      refine g_icmp_ne (tgt := 437) C dL_lines_277 (by decide) (fun c277 => ?_) (fun c277 => ?_)
      · replace h := (if_neg c277).symm.trans h
        refine g_iconst (v := (1 : Int32)) C dL_lines_437 (by decide) ?_
        refine g_iload_n C dL_lines_438 rfl 4 rfl ?_
        refine g_iload_n C dL_lines_439 rfl 3 rfl ?_
        refine g_bipush (v := (96 : Int32)) C dL_lines_440 (by decide) ?_
        refine g_iand C dL_lines_442 ?_
        refine g_if_ne (tgt := 451) C dL_lines_443 (by decide) (fun c443 => ?_) (fun c443 => ?_)
        · replace h := (if_neg c443).symm.trans h
          refine g_bipush (v := (6 : Int32)) C dL_lines_451 (by decide) ?_
          refine g_lv [1, 5, 6, 7, 8, 9, 10, 11] rfl ?_
          exact lb_L_lines_453 hl C hEv hN hr hz hI0 hQ0 hm0 hp0  h
        · replace h := (if_pos c443).symm.trans h
          refine g_bipush (v := (26 : Int32)) C dL_lines_446 (by decide) ?_
          refine g_goto (tgt := 453) C dL_lines_448 (by decide) ?_
          refine g_lv [1, 5, 6, 7, 8, 9, 10, 11] rfl ?_
          exact lb_L_lines_453 hl C hEv hN hr hz hI0 hQ0 hm0 hp0  h
      · replace h := (if_pos c277).symm.trans h
        refine g_iload_n C dL_lines_280 rfl 4 rfl ?_
        refine g_aload C dL_lines_281 5 rfl ?_
        refine g_bipush (v := (16 : Int32)) C dL_lines_283 (by decide) ?_
        refine g_iload C dL_lines_285 0 rfl ?_
        refine g_iadd C dL_lines_287 ?_
        obtain ⟨g23, h⟩ := of_guard h
        refine q_iald C (show rsh (ν.1, μ.2, ν.2, Ad) from hI.2) (j := 1) (N := 22) (by decide) (lwQ_i hQ (j := 1) (N := 22) (by decide)) g23 dL_lines_288 ?_
        refine g_iconst (v := (1 : Int32)) C dL_lines_289 (by decide) ?_
        refine g_iadd C dL_lines_290 ?_
        obtain ⟨v24, hv24, h⟩ := bind_of h
        refine g_cSi (n := 2) (exc := []) (exr := []) C [_, _] _ rfl rfl [] [] rfl rfl rfl rfl (fun _ h => absurd h (by simp)) (fun _ h => absurd h (by simp)) (fun _ h => absurd h (by simp)) (fun sz => wk_L_low l _ ν _ Ad Q hI hQ w _ _  _ hv24 D E sz) rfl gw_210 gw_0 gw_208 gw_209 ⟨by decide +kernel, by decide +kernel, by decide +kernel⟩ ⟨rfl, rfl⟩ ⟨Nat.le_of_ble_eq_true rfl, Nat.le_of_ble_eq_true rfl⟩ (Nat.le_of_ble_eq_true rfl) dL_lines_291 ⟨by show (kc ν - kc ν0) + 0 ≤ kc r0.1.1.2 - kc ν0; omega, by show (ks ν - ks ν0) + 0 ≤ ks r0.1.1.2 - ks ν0; omega⟩ (fun r u hp hx => ?_)
        obtain ⟨er, rfl⟩ := hp
        rw [er]
        try dsimp only [List.append_nil]
        refine g_istore (lv' := [(19, .int v24), (18, .int t1), (0, .ref (Q 0)), (1, .int x1), (2, .int x2), (3, .int x3), (4, .ref (Q 1)), (5, .ref (Q 2)), (6, .ref (Q 3)), (7, .ref (Q 4)), (8, .ref (Q 5)), (9, .ref (Q 6)), (10, .ref (Q 7)), (11, .ref (Q 8)), (12, .ref (Q 9)), (13, .ref (Q 10)), (14, .ref (Q 11)), (15, .ref (Q 12)), (16, .ref (Q 13)), (17, .ref (Q 14))]) C dL_lines_294 (by decide) rfl ?_
        refine g_aload_n C dL_lines_296 rfl 2 rfl ?_
        refine g_iconst (v := (2 : Int32)) C dL_lines_297 (by decide) ?_
        refine g_iconst (v := (0 : Int32)) C dL_lines_298 (by decide) ?_
        obtain ⟨v25, hv25, h⟩ := bind_of h
        have m2 := m_L_garble hv25
        have m3 := mb_L_lines_302  h
        have a1 := hm0.2.1; have a2 := hm0.2.2.1; have b1 := m2.2.1; have b2 := m2.2.2.1; have d1 := m3.2.1; have d2 := m3.2.2.1
        refine g_cSh (n := 3) (exr := []) C hEv hN ⟨hp0.2.1 0, hp0.2.2 0⟩ [_, _, _] _ rfl rfl [] rfl rfl (fun sz => wc_L_garble l hl B _ ν _ Ad Q hI hQ w _ _ _ hv25 D E sz) rfl gh_garble gw_0 gw_1037 gw_1038 ⟨by decide +kernel, by decide +kernel, by decide +kernel⟩ ⟨rfl, rfl⟩ ⟨Nat.le_of_ble_eq_true rfl, Nat.le_of_ble_eq_true rfl⟩ (Nat.le_of_ble_eq_true rfl) dL_lines_299 ⟨by show (kc ν - kc ν0) + (kc v25.1.2 - kc ν) ≤ kc r0.1.1.2 - kc ν0; omega, by show (ks ν - ks ν0) + (ks v25.1.2 - ks ν) ≤ ks r0.1.1.2 - ks ν0; omega⟩ (fun r u hp hx => ?_)
        obtain ⟨er, A1, rfl, hkp⟩ := hp
        rw [er]
        try dsimp only [List.append_nil]
        refine g_widen (k := kc v25.1.2 - kc ν0) (n := ks v25.1.2 - ks ν0) (by omega) (by omega) ?_
        refine g_lv [2, 6, 7, 8, 1, 0] rfl ?_
        exact lb_L_lines_302 hl C hEv hN hr hz hI0 hQ0 (mn_trans hm0 m2) (kp_trans hp0 hm0 hkp)  h
    · replace h := (if_neg c140).symm.trans h
      refine g_aload_n C dL_lines_143 rfl 1 rfl ?_
      refine g_iconst (v := (2 : Int32)) C dL_lines_144 (by decide) ?_
      refine g_iconst (v := (0 : Int32)) C dL_lines_145 (by decide) ?_
      obtain ⟨v37, hv37, h⟩ := bind_of h
      have m2 := m_L_come hv37
      have m3 := mb_L_lines_149  h
      have a1 := hm0.2.1; have a2 := hm0.2.2.1; have b1 := m2.2.1; have b2 := m2.2.2.1; have d1 := m3.2.1; have d2 := m3.2.2.1
      refine g_cSh (n := 3) (exr := []) C hEv hN ⟨hp0.2.1 0, hp0.2.2 0⟩ [_, _, _] _ rfl rfl [] rfl rfl (fun sz => wc_L_come l hl B _ ν _ Ad Q hI hQ w _ _ _ hv37 D E sz) rfl gh_come gw_0 gw_470 gw_471 ⟨by decide +kernel, by decide +kernel, by decide +kernel⟩ ⟨rfl, rfl⟩ ⟨Nat.le_of_ble_eq_true rfl, Nat.le_of_ble_eq_true rfl⟩ (Nat.le_of_ble_eq_true rfl) dL_lines_146 ⟨by show (kc ν - kc ν0) + (kc v37.1.2 - kc ν) ≤ kc r0.1.1.2 - kc ν0; omega, by show (ks ν - ks ν0) + (ks v37.1.2 - ks ν) ≤ ks r0.1.1.2 - ks ν0; omega⟩ (fun r u hp hx => ?_)
      obtain ⟨er, A1, rfl, hkp⟩ := hp
      rw [er]
      try dsimp only [List.append_nil]
      refine g_widen (k := kc v37.1.2 - kc ν0) (n := ks v37.1.2 - ks ν0) (by omega) (by omega) ?_
      refine g_lv [1, 5, 6, 7, 8, 9, 10, 11, 12, 13, 14, 15, 16, 17, 18, 0] rfl ?_
      exact lb_L_lines_149 hl C hEv hN hr hz hI0 hQ0 (mn_trans hm0 m2) (kp_trans hp0 hm0 hkp)  h
  · replace h := (if_pos c6).symm.trans h
    refine g_aload C dL_lines_9 5 rfl ?_
    refine g_iconst (v := (1 : Int32)) C dL_lines_11 (by decide) ?_
    obtain ⟨g45, h⟩ := of_guard h
    refine q_iald C (show rsh (ν.1, μ.2, ν.2, Ad) from hI.2) (j := 1) (N := 22) (by decide) (lwQ_i hQ (j := 1) (N := 22) (by decide)) g45 dL_lines_12 ?_
    refine g_iconst (v := (1 : Int32)) C dL_lines_13 (by decide) ?_
    refine g_icmp_ne (tgt := 75) C dL_lines_14 (by decide) (fun c14 => ?_) (fun c14 => ?_)
    · replace h := (if_neg c14).symm.trans h
      refine g_aload_n C dL_lines_75 rfl 1 rfl ?_
      obtain ⟨v46, hv46, h⟩ := bind_of h
      have m2 := m_L_cut hv46
      have m3 := mb_L_lines_79  h
      have a1 := hm0.2.1; have a2 := hm0.2.2.1; have b1 := m2.2.1; have b2 := m2.2.2.1; have d1 := m3.2.1; have d2 := m3.2.2.1
      refine g_cSh (n := 1) (exr := []) C hEv hN ⟨hp0.2.1 0, hp0.2.2 0⟩ [_] _ rfl rfl [] rfl rfl (fun sz => wc_L_cut l hl B _ ν _ Ad Q hI hQ w  _ hv46 D E sz) rfl gh_cut gw_0 gw_423 gw_424 ⟨by decide +kernel, by decide +kernel, by decide +kernel⟩ ⟨rfl, rfl⟩ ⟨Nat.le_of_ble_eq_true rfl, Nat.le_of_ble_eq_true rfl⟩ (Nat.le_of_ble_eq_true rfl) dL_lines_76 ⟨by show (kc ν - kc ν0) + (kc v46.1.2 - kc ν) ≤ kc r0.1.1.2 - kc ν0; omega, by show (ks ν - ks ν0) + (ks v46.1.2 - ks ν) ≤ ks r0.1.1.2 - ks ν0; omega⟩ (fun r u hp hx => ?_)
      obtain ⟨er, A1, rfl, hkp⟩ := hp
      rw [er]
      try dsimp only [List.append_nil]
      refine g_widen (k := kc v46.1.2 - kc ν0) (n := ks v46.1.2 - ks ν0) (by omega) (by omega) ?_
      refine g_lv [1, 4, 5, 6, 7, 8, 9] rfl ?_
      exact lb_L_lines_79 hl C hEv hN hr hz hI0 hQ0 (mn_trans hm0 m2) (kp_trans hp0 hm0 hkp)  h
    · replace h := (if_pos c14).symm.trans h
      refine g_iload_n C dL_lines_17 rfl 4 rfl ?_
      refine g_sipush (v := (1792 : Int32)) C dL_lines_18 (by decide) ?_
      refine g_iand C dL_lines_21 ?_
      refine g_if_le (tgt := 53) C dL_lines_22 (by decide) (fun c22 => ?_) (fun c22 => ?_)
      · replace h := (if_pos c22).symm.trans h
        refine g_aload_n C dL_lines_53 rfl 1 rfl ?_
        obtain ⟨v49, hv49, h⟩ := bind_of h
        have m2 := m_L_cut hv49
        have m3 := mb_L_lines_57  h
        have a1 := hm0.2.1; have a2 := hm0.2.2.1; have b1 := m2.2.1; have b2 := m2.2.2.1; have d1 := m3.2.1; have d2 := m3.2.2.1
        refine g_cSh (n := 1) (exr := []) C hEv hN ⟨hp0.2.1 0, hp0.2.2 0⟩ [_] _ rfl rfl [] rfl rfl (fun sz => wc_L_cut l hl B _ ν _ Ad Q hI hQ w  _ hv49 D E sz) rfl gh_cut gw_0 gw_423 gw_424 ⟨by decide +kernel, by decide +kernel, by decide +kernel⟩ ⟨rfl, rfl⟩ ⟨Nat.le_of_ble_eq_true rfl, Nat.le_of_ble_eq_true rfl⟩ (Nat.le_of_ble_eq_true rfl) dL_lines_54 ⟨by show (kc ν - kc ν0) + (kc v49.1.2 - kc ν) ≤ kc r0.1.1.2 - kc ν0; omega, by show (ks ν - ks ν0) + (ks v49.1.2 - ks ν) ≤ ks r0.1.1.2 - ks ν0; omega⟩ (fun r u hp hx => ?_)
        obtain ⟨er, A1, rfl, hkp⟩ := hp
        rw [er]
        try dsimp only [List.append_nil]
        refine g_widen (k := kc v49.1.2 - kc ν0) (n := ks v49.1.2 - ks ν0) (by omega) (by omega) ?_
        refine g_lv [5, 10, 11] rfl ?_
        exact lb_L_lines_57 hl C hEv hN hr hz hI0 hQ0 (mn_trans hm0 m2) (kp_trans hp0 hm0 hkp)  h
      · replace h := (if_neg c22).symm.trans h
        refine g_aload_n C dL_lines_25 rfl 1 rfl ?_
        refine g_iconst (v := (0 : Int32)) C dL_lines_26 (by decide) ?_
        obtain ⟨v51, hv51, h⟩ := bind_of h
        have m2 := m_L_connect hv51
        have m3 := mb_L_lines_30  h
        have a1 := hm0.2.1; have a2 := hm0.2.2.1; have b1 := m2.2.1; have b2 := m2.2.2.1; have d1 := m3.2.1; have d2 := m3.2.2.1
        refine g_cSh (n := 2) (exr := []) C hEv hN ⟨hp0.2.1 0, hp0.2.2 0⟩ [_, _] _ rfl rfl [] rfl rfl (fun sz => wc_L_connect l hl B _ ν _ Ad Q hI hQ w _ _ hv51 D E sz) rfl gh_connect gw_0 gw_211 gw_212 ⟨by decide +kernel, by decide +kernel, by decide +kernel⟩ ⟨rfl, rfl⟩ ⟨Nat.le_of_ble_eq_true rfl, Nat.le_of_ble_eq_true rfl⟩ (Nat.le_of_ble_eq_true rfl) dL_lines_27 ⟨by show (kc ν - kc ν0) + (kc v51.1.2 - kc ν) ≤ kc r0.1.1.2 - kc ν0; omega, by show (ks ν - ks ν0) + (ks v51.1.2 - ks ν) ≤ ks r0.1.1.2 - ks ν0; omega⟩ (fun r u hp hx => ?_)
        obtain ⟨er, A1, rfl, hkp⟩ := hp
        rw [er]
        try dsimp only [List.append_nil]
        refine g_widen (k := kc v51.1.2 - kc ν0) (n := ks v51.1.2 - ks ν0) (by omega) (by omega) ?_
        refine g_lv [1] rfl ?_
        exact lb_L_lines_30 hl C hEv hN hr hz hI0 hQ0 (mn_trans hm0 m2) (kp_trans hp0 hm0 hkp)  h
theorem m_L_lines {w : Nat} {μ : MP} {ν : NC} {a : AS} {x1 : Int32} {x2 : Int32} {x3 : Int32} {r0 : ((MP × NC) × AS) × Int32} (h : f_L_lines w μ ν a x1 x2 x3 = some r0) : mn ν r0.1.1.2 := mb_L_lines_0 h
theorem c_L_lines (l : Launch) (hl : l.stackTraces = false) (B : Nat × (Nat → Nat)) (μ : MP) (ν : NC) (a : AS) (Ad : Nat → Nat → Nat) (Q : Nat → Nat) (hI : lwI ν) (hQ : lwQ Ad Q) (w : Nat) (x1 : Int32) (x2 : Int32) (x3 : Int32) (r0 : ((MP × NC) × AS) × Int32) (h : f_L_lines w μ ν a x1 x2 x3 = some r0) : ∀ D E sz, Met l yL_lines gwL_lines ({ frames := 14, cells := kc r0.1.1.2 - kc ν, slots := ks r0.1.1.2 - ks ν, locals := 398 } : Room) (cPh D E sz B (zS μ ν a Ad) [.ref (Q 0), .int x1, .int x2, .int x3, .ref (Q 1), .ref (Q 2), .ref (Q 3), .ref (Q 4), .ref (Q 5), .ref (Q 6), .ref (Q 7), .ref (Q 8), .ref (Q 9), .ref (Q 10), .ref (Q 11), .ref (Q 12), .ref (Q 13), .ref (Q 14)]) (cQ D E sz (zS μ ν a Ad) [] (pI (fun r u => r = r0.2 ∧ ∃ A1, u = (zS r0.1.1.1 r0.1.1.2 r0.1.2 A1, []) ∧ kp ν Ad A1))) (kc r0.1.1.2 - kc ν) (ks r0.1.1.2 - ks ν) (Aof (zS μ ν a Ad) [] sz) := by
  intro D E sz
  refine g_ofN (cc := cL_lines) (maxL := 23) (ret := (some .boolean)) (own := "TradeLineLaw") (by decide) rfl rfl (Nat.le_of_ble_eq_true rfl) ?_
  intro p e s m args below meth c C hr hz hEv hN
  refine g_lv (lv' := [(0, .ref (Q 0)), (1, .int x1), (2, .int x2), (3, .int x3), (4, .ref (Q 1)), (5, .ref (Q 2)), (6, .ref (Q 3)), (7, .ref (Q 4)), (8, .ref (Q 5)), (9, .ref (Q 6)), (10, .ref (Q 7)), (11, .ref (Q 8)), (12, .ref (Q 9)), (13, .ref (Q 10)), (14, .ref (Q 11)), (15, .ref (Q 12)), (16, .ref (Q 13)), (17, .ref (Q 14))]) [0, 1, 2, 3, 4, 5, 6, 7, 8, 9, 10, 11, 12, 13, 14, 15, 16, 17] rfl ?_
  refine g_widen (k := kc ν - kc ν) (n := ks ν - ks ν) (Nat.zero_le _) (Nat.zero_le _) ?_
  exact lb_L_lines_0 hl C hEv hN hr hz hI hQ (mn_rfl _) (kp_rfl _ _) h
