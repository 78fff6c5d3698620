noncomputable def b_L_isTold_1236  (w : Nat) (μ : MP) (ν : NC) (a : AS)  (s0 : Int32) : Option (((MP × NC) × AS) × Int32) := (if s0 = (-7100 : Int32) then (some (((μ, ν), a), (1 : Int32))) else (some (((μ, ν), a), (0 : Int32))))
theorem mb_L_isTold_1236 {w : Nat} {μ : MP} {ν : NC} {a : AS}  {s0 : Int32} {r0 : ((MP × NC) × AS) × Int32}   (h : b_L_isTold_1236  w μ ν a  s0 = some r0) : mn ν r0.1.1.2 := by
  unfold b_L_isTold_1236 at h
  by_cases c1239 : s0 = (-7100 : Int32)
  · replace h := (if_pos c1239).symm.trans h
    obtain rfl := Option.some.inj h
    exact mn_rfl _
  · replace h := (if_neg c1239).symm.trans h
    obtain rfl := Option.some.inj h
    exact mn_rfl _
set_option maxHeartbeats 4000000 in
set_option maxRecDepth 100000 in
theorem lb_L_isTold_1236 {p : Program} {l : Launch} (hl : l.stackTraces = false) {e : Env} {s : State} {m : MethodId} {args : Array Value} {below : List Frame} {meth : Method} {c : Code} {D : va_G} {E : Nat → ClassId} {sz : Nat} {μ0 : MP} {ν0 : NC} {a0 : AS} {Ad0 : Nat → Nat → Nat} {Q : Nat → Nat} {B : Nat × (Nat → Nat)} {w : Nat} {r0 : ((MP × NC) × AS) × Int32} (C : cx p s m args meth c D E (Aof (zS μ0 ν0 a0 Ad0) [] s.heap.size) cL_isTold 22 "TradeLineLaw") (hEv : eV (Ad0 30 0) (Ad0 31 0) B (Aof (zS μ0 ν0 a0 Ad0) [] s.heap.size) s s.heap) (hN : vN s) (hr : meth.sig.returnType = (some .boolean)) (hz : s.heap.size = sz) (hI0 : lwI ν0) (hQ0 : lwQ Ad0 Q) {μ : MP} {ν : NC} {a : AS} {Ad : Nat → Nat → Nat} (hm0 : mn ν0 ν) (hp0 : kp ν0 Ad0 Ad)  {s0 : Int32}   (h : b_L_isTold_1236  w μ ν a  s0 = some r0) : G p l e ({ frames := 11, cells := kc r0.1.1.2 - kc ν0, slots := ks r0.1.1.2 - ks ν0, locals := 229 } : Room) s m args below meth c D E (Aof (zS μ0 ν0 a0 Ad0) [] s.heap.size) 22 (MQ below (cQ D E sz (zS μ0 ν0 a0 Ad0) [] (pI (fun r u => r = r0.2 ∧ ∃ A1, u = (zS r0.1.1.1 r0.1.1.2 r0.1.2 A1, []) ∧ kp ν0 Ad0 A1))) args s (kc r0.1.1.2 - kc ν0) (ks r0.1.1.2 - ks ν0) (Aof (zS μ0 ν0 a0 Ad0) [] s.heap.size)) (zS μ ν a Ad) [] (kc ν - kc ν0) (ks ν - ks ν0) 1236 [] [.int s0] := by
  have m0 := mb_L_isTold_1236  h
  have e1 := m0.2.1; have e2 := m0.2.2.1; have e3 := hm0.2.1; have e4 := hm0.2.2.1
  have hI := lwI_mn hI0 hm0; have hQ := lwQ_kp hI0 hp0 hQ0
  unfold b_L_isTold_1236 at h
  refine g_sipush (v := (-7100 : Int32)) C dL_isTold_1236 (by decide) ?_
  refine g_icmp_ne (tgt := 1246) C dL_isTold_1239 (by decide) (fun c1239 => ?_) (fun c1239 => ?_)
  · replace h := (if_neg c1239).symm.trans h
    refine g_iconst (v := (0 : Int32)) C dL_isTold_1246 (by decide) ?_
    obtain rfl := Option.some.inj h
    exact g_iret C hr rfl hz ⟨(hm0.2.2.2 30 (by decide) (by decide)).1, (hm0.2.2.2 31 (by decide) (by decide)).1, hp0.2.1, hp0.2.2⟩ ⟨rfl, Ad, rfl, hp0⟩ (fun j x h => by simp at h) dL_isTold_1247
  · replace h := (if_pos c1239).symm.trans h
    refine g_iconst (v := (1 : Int32)) C dL_isTold_1242 (by decide) ?_
    refine g_goto (tgt := 1247) C dL_isTold_1243 (by decide) ?_
    obtain rfl := Option.some.inj h
    exact g_iret C hr rfl hz ⟨(hm0.2.2.2 30 (by decide) (by decide)).1, (hm0.2.2.2 31 (by decide) (by decide)).1, hp0.2.1, hp0.2.2⟩ ⟨rfl, Ad, rfl, hp0⟩ (fun j x h => by simp at h) dL_isTold_1247
noncomputable def b_L_isTold_1223  (w : Nat) (μ : MP) (ν : NC) (a : AS)  (s0 : Int32) : Option (((MP × NC) × AS) × Int32) := (if s0 = (-7100 : Int32) then ((f_L_expected w μ ν (-2147483648 : Int32)).bind (fun v20 => b_L_isTold_1236  w v20.1.1 v20.1.2 a v20.2)) else (some (((μ, ν), a), (0 : Int32))))
theorem mb_L_isTold_1223 {w : Nat} {μ : MP} {ν : NC} {a : AS}  {s0 : Int32} {r0 : ((MP × NC) × AS) × Int32}   (h : b_L_isTold_1223  w μ ν a  s0 = some r0) : mn ν r0.1.1.2 := by
  unfold b_L_isTold_1223 at h
  by_cases c1226 : s0 = (-7100 : Int32)
  · replace h := (if_pos c1226).symm.trans h
    obtain ⟨v20, hv20, h⟩ := bind_of h
    exact mn_trans (m_L_expected hv20) (mb_L_isTold_1236  h)
  · replace h := (if_neg c1226).symm.trans h
    obtain rfl := Option.some.inj h
    exact mn_rfl _
set_option maxHeartbeats 4000000 in
set_option maxRecDepth 100000 in
theorem lb_L_isTold_1223 {p : Program} {l : Launch} (hl : l.stackTraces = false) {e : Env} {s : State} {m : MethodId} {args : Array Value} {below : List Frame} {meth : Method} {c : Code} {D : va_G} {E : Nat → ClassId} {sz : Nat} {μ0 : MP} {ν0 : NC} {a0 : AS} {Ad0 : Nat → Nat → Nat} {Q : Nat → Nat} {B : Nat × (Nat → Nat)} {w : Nat} {r0 : ((MP × NC) × AS) × Int32} (C : cx p s m args meth c D E (Aof (zS μ0 ν0 a0 Ad0) [] s.heap.size) cL_isTold 22 "TradeLineLaw") (hEv : eV (Ad0 30 0) (Ad0 31 0) B (Aof (zS μ0 ν0 a0 Ad0) [] s.heap.size) s s.heap) (hN : vN s) (hr : meth.sig.returnType = (some .boolean)) (hz : s.heap.size = sz) (hI0 : lwI ν0) (hQ0 : lwQ Ad0 Q) {μ : MP} {ν : NC} {a : AS} {Ad : Nat → Nat → Nat} (hm0 : mn ν0 ν) (hp0 : kp ν0 Ad0 Ad)  {s0 : Int32}   (h : b_L_isTold_1223  w μ ν a  s0 = some r0) : G p l e ({ frames := 11, cells := kc r0.1.1.2 - kc ν0, slots := ks r0.1.1.2 - ks ν0, locals := 229 } : Room) s m args below meth c D E (Aof (zS μ0 ν0 a0 Ad0) [] s.heap.size) 22 (MQ below (cQ D E sz (zS μ0 ν0 a0 Ad0) [] (pI (fun r u => r = r0.2 ∧ ∃ A1, u = (zS r0.1.1.1 r0.1.1.2 r0.1.2 A1, []) ∧ kp ν0 Ad0 A1))) args s (kc r0.1.1.2 - kc ν0) (ks r0.1.1.2 - ks ν0) (Aof (zS μ0 ν0 a0 Ad0) [] s.heap.size)) (zS μ ν a Ad) [] (kc ν - kc ν0) (ks ν - ks ν0) 1223 [(0, .ref (Q 0))] [.int s0] := by
  have m0 := mb_L_isTold_1223  h
  have e1 := m0.2.1; have e2 := m0.2.2.1; have e3 := hm0.2.1; have e4 := hm0.2.2.1
  have hI := lwI_mn hI0 hm0; have hQ := lwQ_kp hI0 hp0 hQ0
  unfold b_L_isTold_1223 at h
  refine g_sipush (v := (-7100 : Int32)) C dL_isTold_1223 (by decide) ?_
  refine g_icmp_ne (tgt := 1246) C dL_isTold_1226 (by decide) (fun c1226 => ?_) (fun c1226 => ?_)
  · replace h := (if_neg c1226).symm.trans h
    refine g_iconst (v := (0 : Int32)) C dL_isTold_1246 (by decide) ?_
    obtain rfl := Option.some.inj h
    exact g_iret C hr rfl hz ⟨(hm0.2.2.2 30 (by decide) (by decide)).1, (hm0.2.2.2 31 (by decide) (by decide)).1, hp0.2.1, hp0.2.2⟩ ⟨rfl, Ad, rfl, hp0⟩ (fun j x h => by simp at h) dL_isTold_1247
  · replace h := (if_pos c1226).symm.trans h
    refine g_aload_n C dL_isTold_1229 rfl 0 rfl ?_
    refine g_ldcw (v := (-2147483648 : Int32)) C gw_1405 dL_isTold_1230 ?_
    obtain ⟨v20, hv20, h⟩ := bind_of h
    have m2 := m_L_expected hv20
    have m3 := mb_L_isTold_1236  h
    have a1 := hm0.2.1; have a2 := hm0.2.2.1; have b1 := m2.2.1; have b2 := m2.2.2.1; have d1 := m3.2.1; have d2 := m3.2.2.1
    refine g_cSh (n := 2) (exr := []) C hEv hN ⟨hp0.2.1 0, hp0.2.2 0⟩ [_, _] _ rfl rfl [] rfl rfl (fun sz => wc_L_expected l hl B _ ν _ Ad Q hI hQ w _ _ hv20 D E sz) rfl gh_expected gw_0 gw_1231 gw_1232 ⟨by decide +kernel, by decide +kernel, by decide +kernel⟩ ⟨rfl, rfl⟩ ⟨Nat.le_of_ble_eq_true rfl, Nat.le_of_ble_eq_true rfl⟩ (Nat.le_of_ble_eq_true rfl) dL_isTold_1233 ⟨by show (kc ν - kc ν0) + (kc v20.1.2 - kc ν) ≤ kc r0.1.1.2 - kc ν0; omega, by show (ks ν - ks ν0) + (ks v20.1.2 - ks ν) ≤ ks r0.1.1.2 - ks ν0; omega⟩ (fun r u hp hx => ?_)
    obtain ⟨er, A1, rfl, hkp⟩ := hp
    rw [er]
    try dsimp only [List.append_nil]
    refine g_widen (k := kc v20.1.2 - kc ν0) (n := ks v20.1.2 - ks ν0) (by omega) (by omega) ?_
    refine g_lv [] rfl ?_
    exact lb_L_isTold_1236 hl C hEv hN hr hz hI0 hQ0 (mn_trans hm0 m2) (kp_trans hp0 hm0 hkp)  h
noncomputable def b_L_isTold_1211  (w : Nat) (μ : MP) (ν : NC) (a : AS)  (s0 : Int32) : Option (((MP × NC) × AS) × Int32) := (if s0 = (-7100 : Int32) then ((f_L_fields w μ ν (2 : Int32) (1 : Int32)).bind (fun v19 => b_L_isTold_1223  w v19.1.1 v19.1.2 a v19.2)) else (some (((μ, ν), a), (0 : Int32))))
theorem mb_L_isTold_1211 {w : Nat} {μ : MP} {ν : NC} {a : AS}  {s0 : Int32} {r0 : ((MP × NC) × AS) × Int32}   (h : b_L_isTold_1211  w μ ν a  s0 = some r0) : mn ν r0.1.1.2 := by
  unfold b_L_isTold_1211 at h
  by_cases c1214 : s0 = (-7100 : Int32)
  · replace h := (if_pos c1214).symm.trans h
    obtain ⟨v19, hv19, h⟩ := bind_of h
    exact mn_trans (m_L_fields hv19) (mb_L_isTold_1223  h)
  · replace h := (if_neg c1214).symm.trans h
    obtain rfl := Option.some.inj h
    exact mn_rfl _
set_option maxHeartbeats 4000000 in
set_option maxRecDepth 100000 in
theorem lb_L_isTold_1211 {p : Program} {l : Launch} (hl : l.stackTraces = false) {e : Env} {s : State} {m : MethodId} {args : Array Value} {below : List Frame} {meth : Method} {c : Code} {D : va_G} {E : Nat → ClassId} {sz : Nat} {μ0 : MP} {ν0 : NC} {a0 : AS} {Ad0 : Nat → Nat → Nat} {Q : Nat → Nat} {B : Nat × (Nat → Nat)} {w : Nat} {r0 : ((MP × NC) × AS) × Int32} (C : cx p s m args meth c D E (Aof (zS μ0 ν0 a0 Ad0) [] s.heap.size) cL_isTold 22 "TradeLineLaw") (hEv : eV (Ad0 30 0) (Ad0 31 0) B (Aof (zS μ0 ν0 a0 Ad0) [] s.heap.size) s s.heap) (hN : vN s) (hr : meth.sig.returnType = (some .boolean)) (hz : s.heap.size = sz) (hI0 : lwI ν0) (hQ0 : lwQ Ad0 Q) {μ : MP} {ν : NC} {a : AS} {Ad : Nat → Nat → Nat} (hm0 : mn ν0 ν) (hp0 : kp ν0 Ad0 Ad)  {s0 : Int32}   (h : b_L_isTold_1211  w μ ν a  s0 = some r0) : G p l e ({ frames := 11, cells := kc r0.1.1.2 - kc ν0, slots := ks r0.1.1.2 - ks ν0, locals := 229 } : Room) s m args below meth c D E (Aof (zS μ0 ν0 a0 Ad0) [] s.heap.size) 22 (MQ below (cQ D E sz (zS μ0 ν0 a0 Ad0) [] (pI (fun r u => r = r0.2 ∧ ∃ A1, u = (zS r0.1.1.1 r0.1.1.2 r0.1.2 A1, []) ∧ kp ν0 Ad0 A1))) args s (kc r0.1.1.2 - kc ν0) (ks r0.1.1.2 - ks ν0) (Aof (zS μ0 ν0 a0 Ad0) [] s.heap.size)) (zS μ ν a Ad) [] (kc ν - kc ν0) (ks ν - ks ν0) 1211 [(0, .ref (Q 0))] [.int s0] := by
  have m0 := mb_L_isTold_1211  h
  have e1 := m0.2.1; have e2 := m0.2.2.1; have e3 := hm0.2.1; have e4 := hm0.2.2.1
  have hI := lwI_mn hI0 hm0; have hQ := lwQ_kp hI0 hp0 hQ0
  unfold b_L_isTold_1211 at h
  refine g_sipush (v := (-7100 : Int32)) C dL_isTold_1211 (by decide) ?_
  refine g_icmp_ne (tgt := 1246) C dL_isTold_1214 (by decide) (fun c1214 => ?_) (fun c1214 => ?_)
  · replace h := (if_neg c1214).symm.trans h
    refine g_iconst (v := (0 : Int32)) C dL_isTold_1246 (by decide) ?_
    obtain rfl := Option.some.inj h
    exact g_iret C hr rfl hz ⟨(hm0.2.2.2 30 (by decide) (by decide)).1, (hm0.2.2.2 31 (by decide) (by decide)).1, hp0.2.1, hp0.2.2⟩ ⟨rfl, Ad, rfl, hp0⟩ (fun j x h => by simp at h) dL_isTold_1247
  · replace h := (if_pos c1214).symm.trans h
    refine g_aload_n C dL_isTold_1217 rfl 0 rfl ?_
    refine g_iconst (v := (2 : Int32)) C dL_isTold_1218 (by decide) ?_
    refine g_iconst (v := (1 : Int32)) C dL_isTold_1219 (by decide) ?_
    obtain ⟨v19, hv19, h⟩ := bind_of h
    have m2 := m_L_fields hv19
    have m3 := mb_L_isTold_1223  h
    have a1 := hm0.2.1; have a2 := hm0.2.2.1; have b1 := m2.2.1; have b2 := m2.2.2.1; have d1 := m3.2.1; have d2 := m3.2.2.1
    refine g_cSh (n := 3) (exr := []) C hEv hN ⟨hp0.2.1 0, hp0.2.2 0⟩ [_, _, _] _ rfl rfl [] rfl rfl (fun sz => wc_L_fields l hl B _ ν _ Ad Q hI hQ w _ _ _ hv19 D E sz) rfl gh_fields gw_0 gw_1252 gw_1253 ⟨by decide +kernel, by decide +kernel, by decide +kernel⟩ ⟨rfl, rfl⟩ ⟨Nat.le_of_ble_eq_true rfl, Nat.le_of_ble_eq_true rfl⟩ (Nat.le_of_ble_eq_true rfl) dL_isTold_1220 ⟨by show (kc ν - kc ν0) + (kc v19.1.2 - kc ν) ≤ kc r0.1.1.2 - kc ν0; omega, by show (ks ν - ks ν0) + (ks v19.1.2 - ks ν) ≤ ks r0.1.1.2 - ks ν0; omega⟩ (fun r u hp hx => ?_)
    obtain ⟨er, A1, rfl, hkp⟩ := hp
    rw [er]
    try dsimp only [List.append_nil]
    refine g_widen (k := kc v19.1.2 - kc ν0) (n := ks v19.1.2 - ks ν0) (by omega) (by omega) ?_
    refine g_lv [0] rfl ?_
    exact lb_L_isTold_1223 hl C hEv hN hr hz hI0 hQ0 (mn_trans hm0 m2) (kp_trans hp0 hm0 hkp)  h
noncomputable def b_L_isTold_1199  (w : Nat) (μ : MP) (ν : NC) (a : AS)  (s0 : Int32) : Option (((MP × NC) × AS) × Int32) := (if s0 = (-7100 : Int32) then ((f_L_quoted w μ ν (3 : Int32) (1 : Int32)).bind (fun v18 => b_L_isTold_1211  w v18.1.1 v18.1.2 a v18.2)) else (some (((μ, ν), a), (0 : Int32))))
theorem mb_L_isTold_1199 {w : Nat} {μ : MP} {ν : NC} {a : AS}  {s0 : Int32} {r0 : ((MP × NC) × AS) × Int32}   (h : b_L_isTold_1199  w μ ν a  s0 = some r0) : mn ν r0.1.1.2 := by
  unfold b_L_isTold_1199 at h
  by_cases c1202 : s0 = (-7100 : Int32)
  · replace h := (if_pos c1202).symm.trans h
    obtain ⟨v18, hv18, h⟩ := bind_of h
    exact mn_trans (m_L_quoted hv18) (mb_L_isTold_1211  h)
  · replace h := (if_neg c1202).symm.trans h
    obtain rfl := Option.some.inj h
    exact mn_rfl _
set_option maxHeartbeats 4000000 in
set_option maxRecDepth 100000 in
theorem lb_L_isTold_1199 {p : Program} {l : Launch} (hl : l.stackTraces = false) {e : Env} {s : State} {m : MethodId} {args : Array Value} {below : List Frame} {meth : Method} {c : Code} {D : va_G} {E : Nat → ClassId} {sz : Nat} {μ0 : MP} {ν0 : NC} {a0 : AS} {Ad0 : Nat → Nat → Nat} {Q : Nat → Nat} {B : Nat × (Nat → Nat)} {w : Nat} {r0 : ((MP × NC) × AS) × Int32} (C : cx p s m args meth c D E (Aof (zS μ0 ν0 a0 Ad0) [] s.heap.size) cL_isTold 22 "TradeLineLaw") (hEv : eV (Ad0 30 0) (Ad0 31 0) B (Aof (zS μ0 ν0 a0 Ad0) [] s.heap.size) s s.heap) (hN : vN s) (hr : meth.sig.returnType = (some .boolean)) (hz : s.heap.size = sz) (hI0 : lwI ν0) (hQ0 : lwQ Ad0 Q) {μ : MP} {ν : NC} {a : AS} {Ad : Nat → Nat → Nat} (hm0 : mn ν0 ν) (hp0 : kp ν0 Ad0 Ad)  {s0 : Int32}   (h : b_L_isTold_1199  w μ ν a  s0 = some r0) : G p l e ({ frames := 11, cells := kc r0.1.1.2 - kc ν0, slots := ks r0.1.1.2 - ks ν0, locals := 229 } : Room) s m args below meth c D E (Aof (zS μ0 ν0 a0 Ad0) [] s.heap.size) 22 (MQ below (cQ D E sz (zS μ0 ν0 a0 Ad0) [] (pI (fun r u => r = r0.2 ∧ ∃ A1, u = (zS r0.1.1.1 r0.1.1.2 r0.1.2 A1, []) ∧ kp ν0 Ad0 A1))) args s (kc r0.1.1.2 - kc ν0) (ks r0.1.1.2 - ks ν0) (Aof (zS μ0 ν0 a0 Ad0) [] s.heap.size)) (zS μ ν a Ad) [] (kc ν - kc ν0) (ks ν - ks ν0) 1199 [(0, .ref (Q 0))] [.int s0] := by
  have m0 := mb_L_isTold_1199  h
  have e1 := m0.2.1; have e2 := m0.2.2.1; have e3 := hm0.2.1; have e4 := hm0.2.2.1
  have hI := lwI_mn hI0 hm0; have hQ := lwQ_kp hI0 hp0 hQ0
  unfold b_L_isTold_1199 at h
  refine g_sipush (v := (-7100 : Int32)) C dL_isTold_1199 (by decide) ?_
  refine g_icmp_ne (tgt := 1246) C dL_isTold_1202 (by decide) (fun c1202 => ?_) (fun c1202 => ?_)
  · replace h := (if_neg c1202).symm.trans h
    refine g_iconst (v := (0 : Int32)) C dL_isTold_1246 (by decide) ?_
    obtain rfl := Option.some.inj h
    exact g_iret C hr rfl hz ⟨(hm0.2.2.2 30 (by decide) (by decide)).1, (hm0.2.2.2 31 (by decide) (by decide)).1, hp0.2.1, hp0.2.2⟩ ⟨rfl, Ad, rfl, hp0⟩ (fun j x h => by simp at h) dL_isTold_1247
  · replace h := (if_pos c1202).symm.trans h
    refine g_aload_n C dL_isTold_1205 rfl 0 rfl ?_
    refine g_iconst (v := (3 : Int32)) C dL_isTold_1206 (by decide) ?_
    refine g_iconst (v := (1 : Int32)) C dL_isTold_1207 (by decide) ?_
    obtain ⟨v18, hv18, h⟩ := bind_of h
    have m2 := m_L_quoted hv18
    have m3 := mb_L_isTold_1211  h
    have a1 := hm0.2.1; have a2 := hm0.2.2.1; have b1 := m2.2.1; have b2 := m2.2.2.1; have d1 := m3.2.1; have d2 := m3.2.2.1
    refine g_cSh (n := 3) (exr := []) C hEv hN ⟨hp0.2.1 0, hp0.2.2 0⟩ [_, _, _] _ rfl rfl [] rfl rfl (fun sz => wc_L_quoted l hl B _ ν _ Ad Q hI hQ w _ _ _ hv18 D E sz) rfl gh_quoted gw_0 gw_1369 gw_1370 ⟨by decide +kernel, by decide +kernel, by decide +kernel⟩ ⟨rfl, rfl⟩ ⟨Nat.le_of_ble_eq_true rfl, Nat.le_of_ble_eq_true rfl⟩ (Nat.le_of_ble_eq_true rfl) dL_isTold_1208 ⟨by show (kc ν - kc ν0) + (kc v18.1.2 - kc ν) ≤ kc r0.1.1.2 - kc ν0; omega, by show (ks ν - ks ν0) + (ks v18.1.2 - ks ν) ≤ ks r0.1.1.2 - ks ν0; omega⟩ (fun r u hp hx => ?_)
    obtain ⟨er, A1, rfl, hkp⟩ := hp
    rw [er]
    try dsimp only [List.append_nil]
    refine g_widen (k := kc v18.1.2 - kc ν0) (n := ks v18.1.2 - ks ν0) (by omega) (by omega) ?_
    refine g_lv [0] rfl ?_
    exact lb_L_isTold_1211 hl C hEv hN hr hz hI0 hQ0 (mn_trans hm0 m2) (kp_trans hp0 hm0 hkp)  h
noncomputable def b_L_isTold_1187  (w : Nat) (μ : MP) (ν : NC) (a : AS)  (s0 : Int32) : Option (((MP × NC) × AS) × Int32) := (if s0 = (-7100 : Int32) then ((f_L_venues w μ ν (2147483647 : Int32)).bind (fun v17 => b_L_isTold_1199  w v17.1.1 v17.1.2 a v17.2)) else (some (((μ, ν), a), (0 : Int32))))
theorem mb_L_isTold_1187 {w : Nat} {μ : MP} {ν : NC} {a : AS}  {s0 : Int32} {r0 : ((MP × NC) × AS) × Int32}   (h : b_L_isTold_1187  w μ ν a  s0 = some r0) : mn ν r0.1.1.2 := by
  unfold b_L_isTold_1187 at h
  by_cases c1190 : s0 = (-7100 : Int32)
  · replace h := (if_pos c1190).symm.trans h
    obtain ⟨v17, hv17, h⟩ := bind_of h
    exact mn_trans (m_L_venues hv17) (mb_L_isTold_1199  h)
  · replace h := (if_neg c1190).symm.trans h
    obtain rfl := Option.some.inj h
    exact mn_rfl _
set_option maxHeartbeats 4000000 in
set_option maxRecDepth 100000 in
theorem lb_L_isTold_1187 {p : Program} {l : Launch} (hl : l.stackTraces = false) {e : Env} {s : State} {m : MethodId} {args : Array Value} {below : List Frame} {meth : Method} {c : Code} {D : va_G} {E : Nat → ClassId} {sz : Nat} {μ0 : MP} {ν0 : NC} {a0 : AS} {Ad0 : Nat → Nat → Nat} {Q : Nat → Nat} {B : Nat × (Nat → Nat)} {w : Nat} {r0 : ((MP × NC) × AS) × Int32} (C : cx p s m args meth c D E (Aof (zS μ0 ν0 a0 Ad0) [] s.heap.size) cL_isTold 22 "TradeLineLaw") (hEv : eV (Ad0 30 0) (Ad0 31 0) B (Aof (zS μ0 ν0 a0 Ad0) [] s.heap.size) s s.heap) (hN : vN s) (hr : meth.sig.returnType = (some .boolean)) (hz : s.heap.size = sz) (hI0 : lwI ν0) (hQ0 : lwQ Ad0 Q) {μ : MP} {ν : NC} {a : AS} {Ad : Nat → Nat → Nat} (hm0 : mn ν0 ν) (hp0 : kp ν0 Ad0 Ad)  {s0 : Int32}   (h : b_L_isTold_1187  w μ ν a  s0 = some r0) : G p l e ({ frames := 11, cells := kc r0.1.1.2 - kc ν0, slots := ks r0.1.1.2 - ks ν0, locals := 229 } : Room) s m args below meth c D E (Aof (zS μ0 ν0 a0 Ad0) [] s.heap.size) 22 (MQ below (cQ D E sz (zS μ0 ν0 a0 Ad0) [] (pI (fun r u => r = r0.2 ∧ ∃ A1, u = (zS r0.1.1.1 r0.1.1.2 r0.1.2 A1, []) ∧ kp ν0 Ad0 A1))) args s (kc r0.1.1.2 - kc ν0) (ks r0.1.1.2 - ks ν0) (Aof (zS μ0 ν0 a0 Ad0) [] s.heap.size)) (zS μ ν a Ad) [] (kc ν - kc ν0) (ks ν - ks ν0) 1187 [(0, .ref (Q 0))] [.int s0] := by
  have m0 := mb_L_isTold_1187  h
  have e1 := m0.2.1; have e2 := m0.2.2.1; have e3 := hm0.2.1; have e4 := hm0.2.2.1
  have hI := lwI_mn hI0 hm0; have hQ := lwQ_kp hI0 hp0 hQ0
  unfold b_L_isTold_1187 at h
  refine g_sipush (v := (-7100 : Int32)) C dL_isTold_1187 (by decide) ?_
  refine g_icmp_ne (tgt := 1246) C dL_isTold_1190 (by decide) (fun c1190 => ?_) (fun c1190 => ?_)
  · replace h := (if_neg c1190).symm.trans h
    refine g_iconst (v := (0 : Int32)) C dL_isTold_1246 (by decide) ?_
    obtain rfl := Option.some.inj h
    exact g_iret C hr rfl hz ⟨(hm0.2.2.2 30 (by decide) (by decide)).1, (hm0.2.2.2 31 (by decide) (by decide)).1, hp0.2.1, hp0.2.2⟩ ⟨rfl, Ad, rfl, hp0⟩ (fun j x h => by simp at h) dL_isTold_1247
  · replace h := (if_pos c1190).symm.trans h
    refine g_aload_n C dL_isTold_1193 rfl 0 rfl ?_
    refine g_ldc (v := (2147483647 : Int32)) C gw_1049 dL_isTold_1194 ?_
    obtain ⟨v17, hv17, h⟩ := bind_of h
    have m2 := m_L_venues hv17
    have m3 := mb_L_isTold_1199  h
    have a1 := hm0.2.1; have a2 := hm0.2.2.1; have b1 := m2.2.1; have b2 := m2.2.2.1; have d1 := m3.2.1; have d2 := m3.2.2.1
    refine g_cSh (n := 2) (exr := []) C hEv hN ⟨hp0.2.1 0, hp0.2.2 0⟩ [_, _] _ rfl rfl [] rfl rfl (fun sz => wc_L_venues l hl B _ ν _ Ad Q hI hQ w _ _ hv17 D E sz) rfl gh_venues gw_0 gw_1313 gw_1314 ⟨by decide +kernel, by decide +kernel, by decide +kernel⟩ ⟨rfl, rfl⟩ ⟨Nat.le_of_ble_eq_true rfl, Nat.le_of_ble_eq_true rfl⟩ (Nat.le_of_ble_eq_true rfl) dL_isTold_1196 ⟨by show (kc ν - kc ν0) + (kc v17.1.2 - kc ν) ≤ kc r0.1.1.2 - kc ν0; omega, by show (ks ν - ks ν0) + (ks v17.1.2 - ks ν) ≤ ks r0.1.1.2 - ks ν0; omega⟩ (fun r u hp hx => ?_)
    obtain ⟨er, A1, rfl, hkp⟩ := hp
    rw [er]
    try dsimp only [List.append_nil]
    refine g_widen (k := kc v17.1.2 - kc ν0) (n := ks v17.1.2 - ks ν0) (by omega) (by omega) ?_
    refine g_lv [0] rfl ?_
    exact lb_L_isTold_1199 hl C hEv hN hr hz hI0 hQ0 (mn_trans hm0 m2) (kp_trans hp0 hm0 hkp)  h
noncomputable def b_L_isTold_1175  (w : Nat) (μ : MP) (ν : NC) (a : AS)  (s0 : Int32) : Option (((MP × NC) × AS) × Int32) := (if s0 = (-7100 : Int32) then ((f_L_left w μ ν (0 : Int32) (-1 : Int32)).bind (fun v16 => b_L_isTold_1187  w v16.1.1 v16.1.2 a v16.2)) else (some (((μ, ν), a), (0 : Int32))))
theorem mb_L_isTold_1175 {w : Nat} {μ : MP} {ν : NC} {a : AS}  {s0 : Int32} {r0 : ((MP × NC) × AS) × Int32}   (h : b_L_isTold_1175  w μ ν a  s0 = some r0) : mn ν r0.1.1.2 := by
  unfold b_L_isTold_1175 at h
  by_cases c1178 : s0 = (-7100 : Int32)
  · replace h := (if_pos c1178).symm.trans h
    obtain ⟨v16, hv16, h⟩ := bind_of h
    exact mn_trans (m_L_left hv16) (mb_L_isTold_1187  h)
  · replace h := (if_neg c1178).symm.trans h
    obtain rfl := Option.some.inj h
    exact mn_rfl _
set_option maxHeartbeats 4000000 in
set_option maxRecDepth 100000 in
theorem lb_L_isTold_1175 {p : Program} {l : Launch} (hl : l.stackTraces = false) {e : Env} {s : State} {m : MethodId} {args : Array Value} {below : List Frame} {meth : Method} {c : Code} {D : va_G} {E : Nat → ClassId} {sz : Nat} {μ0 : MP} {ν0 : NC} {a0 : AS} {Ad0 : Nat → Nat → Nat} {Q : Nat → Nat} {B : Nat × (Nat → Nat)} {w : Nat} {r0 : ((MP × NC) × AS) × Int32} (C : cx p s m args meth c D E (Aof (zS μ0 ν0 a0 Ad0) [] s.heap.size) cL_isTold 22 "TradeLineLaw") (hEv : eV (Ad0 30 0) (Ad0 31 0) B (Aof (zS μ0 ν0 a0 Ad0) [] s.heap.size) s s.heap) (hN : vN s) (hr : meth.sig.returnType = (some .boolean)) (hz : s.heap.size = sz) (hI0 : lwI ν0) (hQ0 : lwQ Ad0 Q) {μ : MP} {ν : NC} {a : AS} {Ad : Nat → Nat → Nat} (hm0 : mn ν0 ν) (hp0 : kp ν0 Ad0 Ad)  {s0 : Int32}   (h : b_L_isTold_1175  w μ ν a  s0 = some r0) : G p l e ({ frames := 11, cells := kc r0.1.1.2 - kc ν0, slots := ks r0.1.1.2 - ks ν0, locals := 229 } : Room) s m args below meth c D E (Aof (zS μ0 ν0 a0 Ad0) [] s.heap.size) 22 (MQ below (cQ D E sz (zS μ0 ν0 a0 Ad0) [] (pI (fun r u => r = r0.2 ∧ ∃ A1, u = (zS r0.1.1.1 r0.1.1.2 r0.1.2 A1, []) ∧ kp ν0 Ad0 A1))) args s (kc r0.1.1.2 - kc ν0) (ks r0.1.1.2 - ks ν0) (Aof (zS μ0 ν0 a0 Ad0) [] s.heap.size)) (zS μ ν a Ad) [] (kc ν - kc ν0) (ks ν - ks ν0) 1175 [(0, .ref (Q 0))] [.int s0] := by
  have m0 := mb_L_isTold_1175  h
  have e1 := m0.2.1; have e2 := m0.2.2.1; have e3 := hm0.2.1; have e4 := hm0.2.2.1
  have hI := lwI_mn hI0 hm0; have hQ := lwQ_kp hI0 hp0 hQ0
  unfold b_L_isTold_1175 at h
  refine g_sipush (v := (-7100 : Int32)) C dL_isTold_1175 (by decide) ?_
  refine g_icmp_ne (tgt := 1246) C dL_isTold_1178 (by decide) (fun c1178 => ?_) (fun c1178 => ?_)
  · replace h := (if_neg c1178).symm.trans h
    refine g_iconst (v := (0 : Int32)) C dL_isTold_1246 (by decide) ?_
    obtain rfl := Option.some.inj h
    exact g_iret C hr rfl hz ⟨(hm0.2.2.2 30 (by decide) (by decide)).1, (hm0.2.2.2 31 (by decide) (by decide)).1, hp0.2.1, hp0.2.2⟩ ⟨rfl, Ad, rfl, hp0⟩ (fun j x h => by simp at h) dL_isTold_1247
  · replace h := (if_pos c1178).symm.trans h
    refine g_aload_n C dL_isTold_1181 rfl 0 rfl ?_
    refine g_iconst (v := (0 : Int32)) C dL_isTold_1182 (by decide) ?_
    refine g_iconst (v := (-1 : Int32)) C dL_isTold_1183 (by decide) ?_
    obtain ⟨v16, hv16, h⟩ := bind_of h
    have m2 := m_L_left hv16
    have m3 := mb_L_isTold_1187  h
    have a1 := hm0.2.1; have a2 := hm0.2.2.1; have b1 := m2.2.1; have b2 := m2.2.2.1; have d1 := m3.2.1; have d2 := m3.2.2.1
    refine g_cSh (n := 3) (exr := []) C hEv hN ⟨hp0.2.1 0, hp0.2.2 0⟩ [_, _, _] _ rfl rfl [] rfl rfl (fun sz => wc_L_left l hl B _ ν _ Ad Q hI hQ w _ _ _ hv16 D E sz) rfl gh_left gw_0 gw_1324 gw_1325 ⟨by decide +kernel, by decide +kernel, by decide +kernel⟩ ⟨rfl, rfl⟩ ⟨Nat.le_of_ble_eq_true rfl, Nat.le_of_ble_eq_true rfl⟩ (Nat.le_of_ble_eq_true rfl) dL_isTold_1184 ⟨by show (kc ν - kc ν0) + (kc v16.1.2 - kc ν) ≤ kc r0.1.1.2 - kc ν0; omega, by show (ks ν - ks ν0) + (ks v16.1.2 - ks ν) ≤ ks r0.1.1.2 - ks ν0; omega⟩ (fun r u hp hx => ?_)
    obtain ⟨er, A1, rfl, hkp⟩ := hp
    rw [er]
    try dsimp only [List.append_nil]
    refine g_widen (k := kc v16.1.2 - kc ν0) (n := ks v16.1.2 - ks ν0) (by omega) (by omega) ?_
    refine g_lv [0] rfl ?_
    exact lb_L_isTold_1187 hl C hEv hN hr hz hI0 hQ0 (mn_trans hm0 m2) (kp_trans hp0 hm0 hkp)  h
noncomputable def b_L_isTold_1163  (w : Nat) (μ : MP) (ν : NC) (a : AS)  (s0 : Int32) : Option (((MP × NC) × AS) × Int32) := (if s0 = (-7100 : Int32) then ((f_L_left w μ ν (2 : Int32) (0 : Int32)).bind (fun v15 => b_L_isTold_1175  w v15.1.1 v15.1.2 a v15.2)) else (some (((μ, ν), a), (0 : Int32))))
theorem mb_L_isTold_1163 {w : Nat} {μ : MP} {ν : NC} {a : AS}  {s0 : Int32} {r0 : ((MP × NC) × AS) × Int32}   (h : b_L_isTold_1163  w μ ν a  s0 = some r0) : mn ν r0.1.1.2 := by
  unfold b_L_isTold_1163 at h
  by_cases c1166 : s0 = (-7100 : Int32)
  · replace h := (if_pos c1166).symm.trans h
    obtain ⟨v15, hv15, h⟩ := bind_of h
    exact mn_trans (m_L_left hv15) (mb_L_isTold_1175  h)
  · replace h := (if_neg c1166).symm.trans h
    obtain rfl := Option.some.inj h
    exact mn_rfl _
set_option maxHeartbeats 4000000 in
set_option maxRecDepth 100000 in
theorem lb_L_isTold_1163 {p : Program} {l : Launch} (hl : l.stackTraces = false) {e : Env} {s : State} {m : MethodId} {args : Array Value} {below : List Frame} {meth : Method} {c : Code} {D : va_G} {E : Nat → ClassId} {sz : Nat} {μ0 : MP} {ν0 : NC} {a0 : AS} {Ad0 : Nat → Nat → Nat} {Q : Nat → Nat} {B : Nat × (Nat → Nat)} {w : Nat} {r0 : ((MP × NC) × AS) × Int32} (C : cx p s m args meth c D E (Aof (zS μ0 ν0 a0 Ad0) [] s.heap.size) cL_isTold 22 "TradeLineLaw") (hEv : eV (Ad0 30 0) (Ad0 31 0) B (Aof (zS μ0 ν0 a0 Ad0) [] s.heap.size) s s.heap) (hN : vN s) (hr : meth.sig.returnType = (some .boolean)) (hz : s.heap.size = sz) (hI0 : lwI ν0) (hQ0 : lwQ Ad0 Q) {μ : MP} {ν : NC} {a : AS} {Ad : Nat → Nat → Nat} (hm0 : mn ν0 ν) (hp0 : kp ν0 Ad0 Ad)  {s0 : Int32}   (h : b_L_isTold_1163  w μ ν a  s0 = some r0) : G p l e ({ frames := 11, cells := kc r0.1.1.2 - kc ν0, slots := ks r0.1.1.2 - ks ν0, locals := 229 } : Room) s m args below meth c D E (Aof (zS μ0 ν0 a0 Ad0) [] s.heap.size) 22 (MQ below (cQ D E sz (zS μ0 ν0 a0 Ad0) [] (pI (fun r u => r = r0.2 ∧ ∃ A1, u = (zS r0.1.1.1 r0.1.1.2 r0.1.2 A1, []) ∧ kp ν0 Ad0 A1))) args s (kc r0.1.1.2 - kc ν0) (ks r0.1.1.2 - ks ν0) (Aof (zS μ0 ν0 a0 Ad0) [] s.heap.size)) (zS μ ν a Ad) [] (kc ν - kc ν0) (ks ν - ks ν0) 1163 [(0, .ref (Q 0))] [.int s0] := by
  have m0 := mb_L_isTold_1163  h
  have e1 := m0.2.1; have e2 := m0.2.2.1; have e3 := hm0.2.1; have e4 := hm0.2.2.1
  have hI := lwI_mn hI0 hm0; have hQ := lwQ_kp hI0 hp0 hQ0
  unfold b_L_isTold_1163 at h
  refine g_sipush (v := (-7100 : Int32)) C dL_isTold_1163 (by decide) ?_
  refine g_icmp_ne (tgt := 1246) C dL_isTold_1166 (by decide) (fun c1166 => ?_) (fun c1166 => ?_)
  · replace h := (if_neg c1166).symm.trans h
    refine g_iconst (v := (0 : Int32)) C dL_isTold_1246 (by decide) ?_
    obtain rfl := Option.some.inj h
    exact g_iret C hr rfl hz ⟨(hm0.2.2.2 30 (by decide) (by decide)).1, (hm0.2.2.2 31 (by decide) (by decide)).1, hp0.2.1, hp0.2.2⟩ ⟨rfl, Ad, rfl, hp0⟩ (fun j x h => by simp at h) dL_isTold_1247
  · replace h := (if_pos c1166).symm.trans h
    refine g_aload_n C dL_isTold_1169 rfl 0 rfl ?_
    refine g_iconst (v := (2 : Int32)) C dL_isTold_1170 (by decide) ?_
    refine g_iconst (v := (0 : Int32)) C dL_isTold_1171 (by decide) ?_
    obtain ⟨v15, hv15, h⟩ := bind_of h
    have m2 := m_L_left hv15
    have m3 := mb_L_isTold_1175  h
    have a1 := hm0.2.1; have a2 := hm0.2.2.1; have b1 := m2.2.1; have b2 := m2.2.2.1; have d1 := m3.2.1; have d2 := m3.2.2.1
    refine g_cSh (n := 3) (exr := []) C hEv hN ⟨hp0.2.1 0, hp0.2.2 0⟩ [_, _, _] _ rfl rfl [] rfl rfl (fun sz => wc_L_left l hl B _ ν _ Ad Q hI hQ w _ _ _ hv15 D E sz) rfl gh_left gw_0 gw_1324 gw_1325 ⟨by decide +kernel, by decide +kernel, by decide +kernel⟩ ⟨rfl, rfl⟩ ⟨Nat.le_of_ble_eq_true rfl, Nat.le_of_ble_eq_true rfl⟩ (Nat.le_of_ble_eq_true rfl) dL_isTold_1172 ⟨by show (kc ν - kc ν0) + (kc v15.1.2 - kc ν) ≤ kc r0.1.1.2 - kc ν0; omega, by show (ks ν - ks ν0) + (ks v15.1.2 - ks ν) ≤ ks r0.1.1.2 - ks ν0; omega⟩ (fun r u hp hx => ?_)
    obtain ⟨er, A1, rfl, hkp⟩ := hp
    rw [er]
    try dsimp only [List.append_nil]
    refine g_widen (k := kc v15.1.2 - kc ν0) (n := ks v15.1.2 - ks ν0) (by omega) (by omega) ?_
    refine g_lv [0] rfl ?_
    exact lb_L_isTold_1175 hl C hEv hN hr hz hI0 hQ0 (mn_trans hm0 m2) (kp_trans hp0 hm0 hkp)  h
noncomputable def b_L_isTold_1149  (w : Nat) (μ : MP) (ν : NC) (a : AS)  (s0 : Int32) : Option (((MP × NC) × AS) × Int32) := (if s0 = (-7100 : Int32) then (bif ixB (18 : Int32) 22 then (f_L_stateOf w μ ν (a 1 (18 : Int32).toNatClampNeg)).bind (fun v14 => b_L_isTold_1163  w v14.1.1 v14.1.2 a v14.2) else none) else (some (((μ, ν), a), (0 : Int32))))
theorem mb_L_isTold_1149 {w : Nat} {μ : MP} {ν : NC} {a : AS}  {s0 : Int32} {r0 : ((MP × NC) × AS) × Int32}   (h : b_L_isTold_1149  w μ ν a  s0 = some r0) : mn ν r0.1.1.2 := by
  unfold b_L_isTold_1149 at h
  by_cases c1152 : s0 = (-7100 : Int32)
  · replace h := (if_pos c1152).symm.trans h
    replace h := (of_guard h).2
    obtain ⟨v14, hv14, h⟩ := bind_of h
    exact mn_trans (m_L_stateOf hv14) (mb_L_isTold_1163  h)
  · replace h := (if_neg c1152).symm.trans h
    obtain rfl := Option.some.inj h
    exact mn_rfl _
set_option maxHeartbeats 4000000 in
set_option maxRecDepth 100000 in
theorem lb_L_isTold_1149 {p : Program} {l : Launch} (hl : l.stackTraces = false) {e : Env} {s : State} {m : MethodId} {args : Array Value} {below : List Frame} {meth : Method} {c : Code} {D : va_G} {E : Nat → ClassId} {sz : Nat} {μ0 : MP} {ν0 : NC} {a0 : AS} {Ad0 : Nat → Nat → Nat} {Q : Nat → Nat} {B : Nat × (Nat → Nat)} {w : Nat} {r0 : ((MP × NC) × AS) × Int32} (C : cx p s m args meth c D E (Aof (zS μ0 ν0 a0 Ad0) [] s.heap.size) cL_isTold 22 "TradeLineLaw") (hEv : eV (Ad0 30 0) (Ad0 31 0) B (Aof (zS μ0 ν0 a0 Ad0) [] s.heap.size) s s.heap) (hN : vN s) (hr : meth.sig.returnType = (some .boolean)) (hz : s.heap.size = sz) (hI0 : lwI ν0) (hQ0 : lwQ Ad0 Q) {μ : MP} {ν : NC} {a : AS} {Ad : Nat → Nat → Nat} (hm0 : mn ν0 ν) (hp0 : kp ν0 Ad0 Ad)  {s0 : Int32}   (h : b_L_isTold_1149  w μ ν a  s0 = some r0) : G p l e ({ frames := 11, cells := kc r0.1.1.2 - kc ν0, slots := ks r0.1.1.2 - ks ν0, locals := 229 } : Room) s m args below meth c D E (Aof (zS μ0 ν0 a0 Ad0) [] s.heap.size) 22 (MQ below (cQ D E sz (zS μ0 ν0 a0 Ad0) [] (pI (fun r u => r = r0.2 ∧ ∃ A1, u = (zS r0.1.1.1 r0.1.1.2 r0.1.2 A1, []) ∧ kp ν0 Ad0 A1))) args s (kc r0.1.1.2 - kc ν0) (ks r0.1.1.2 - ks ν0) (Aof (zS μ0 ν0 a0 Ad0) [] s.heap.size)) (zS μ ν a Ad) [] (kc ν - kc ν0) (ks ν - ks ν0) 1149 [(0, .ref (Q 0)), (2, .ref (Q 1))] [.int s0] := by
  have m0 := mb_L_isTold_1149  h
  have e1 := m0.2.1; have e2 := m0.2.2.1; have e3 := hm0.2.1; have e4 := hm0.2.2.1
  have hI := lwI_mn hI0 hm0; have hQ := lwQ_kp hI0 hp0 hQ0
  unfold b_L_isTold_1149 at h
  refine g_sipush (v := (-7100 : Int32)) C dL_isTold_1149 (by decide) ?_
  refine g_icmp_ne (tgt := 1246) C dL_isTold_1152 (by decide) (fun c1152 => ?_) (fun c1152 => ?_)
  · replace h := (if_neg c1152).symm.trans h
    refine g_iconst (v := (0 : Int32)) C dL_isTold_1246 (by decide) ?_
    obtain rfl := Option.some.inj h
    exact g_iret C hr rfl hz ⟨(hm0.2.2.2 30 (by decide) (by decide)).1, (hm0.2.2.2 31 (by decide) (by decide)).1, hp0.2.1, hp0.2.2⟩ ⟨rfl, Ad, rfl, hp0⟩ (fun j x h => by simp at h) dL_isTold_1247
  · replace h := (if_pos c1152).symm.trans h
    refine g_aload_n C dL_isTold_1155 rfl 0 rfl ?_
    refine g_aload_n C dL_isTold_1156 rfl 1 rfl ?_
    refine g_bipush (v := (18 : Int32)) C dL_isTold_1157 (by decide) ?_
    obtain ⟨g13, h⟩ := of_guard h
    refine q_iald C (show rsh (ν.1, μ.2, ν.2, Ad) from hI.2) (j := 1) (N := 22) (by decide) (lwQ_i hQ (j := 1) (N := 22) (by decide)) g13 dL_isTold_1159 ?_
    obtain ⟨v14, hv14, h⟩ := bind_of h
    have m2 := m_L_stateOf hv14
    have m3 := mb_L_isTold_1163  h
    have a1 := hm0.2.1; have a2 := hm0.2.2.1; have b1 := m2.2.1; have b2 := m2.2.2.1; have d1 := m3.2.1; have d2 := m3.2.2.1
    refine g_cSh (n := 2) (exr := []) C hEv hN ⟨hp0.2.1 0, hp0.2.2 0⟩ [_, _] _ rfl rfl [] rfl rfl (fun sz => wc_L_stateOf l hl B _ ν _ Ad Q hI hQ w _ _ hv14 D E sz) rfl gh_stateOf gw_0 gw_1292 gw_1293 ⟨by decide +kernel, by decide +kernel, by decide +kernel⟩ ⟨rfl, rfl⟩ ⟨Nat.le_of_ble_eq_true rfl, Nat.le_of_ble_eq_true rfl⟩ (Nat.le_of_ble_eq_true rfl) dL_isTold_1160 ⟨by show (kc ν - kc ν0) + (kc v14.1.2 - kc ν) ≤ kc r0.1.1.2 - kc ν0; omega, by show (ks ν - ks ν0) + (ks v14.1.2 - ks ν) ≤ ks r0.1.1.2 - ks ν0; omega⟩ (fun r u hp hx => ?_)
    obtain ⟨er, A1, rfl, hkp⟩ := hp
    rw [er]
    try dsimp only [List.append_nil]
    refine g_widen (k := kc v14.1.2 - kc ν0) (n := ks v14.1.2 - ks ν0) (by omega) (by omega) ?_
    refine g_lv [0] rfl ?_
    exact lb_L_isTold_1163 hl C hEv hN hr hz hI0 hQ0 (mn_trans hm0 m2) (kp_trans hp0 hm0 hkp)  h
noncomputable def b_L_isTold_1138  (w : Nat) (μ : MP) (ν : NC) (a : AS)  (s0 : Int32) : Option (((MP × NC) × AS) × Int32) := (if s0 = (-7100 : Int32) then ((f_L_held w μ ν (-1 : Int32)).bind (fun v12 => b_L_isTold_1149  w v12.1.1 v12.1.2 a v12.2)) else (some (((μ, ν), a), (0 : Int32))))
theorem mb_L_isTold_1138 {w : Nat} {μ : MP} {ν : NC} {a : AS}  {s0 : Int32} {r0 : ((MP × NC) × AS) × Int32}   (h : b_L_isTold_1138  w μ ν a  s0 = some r0) : mn ν r0.1.1.2 := by
  unfold b_L_isTold_1138 at h
  by_cases c1141 : s0 = (-7100 : Int32)
  · replace h := (if_pos c1141).symm.trans h
    obtain ⟨v12, hv12, h⟩ := bind_of h
    exact mn_trans (m_L_held hv12) (mb_L_isTold_1149  h)
  · replace h := (if_neg c1141).symm.trans h
    obtain rfl := Option.some.inj h
    exact mn_rfl _
set_option maxHeartbeats 4000000 in
set_option maxRecDepth 100000 in
theorem lb_L_isTold_1138 {p : Program} {l : Launch} (hl : l.stackTraces = false) {e : Env} {s : State} {m : MethodId} {args : Array Value} {below : List Frame} {meth : Method} {c : Code} {D : va_G} {E : Nat → ClassId} {sz : Nat} {μ0 : MP} {ν0 : NC} {a0 : AS} {Ad0 : Nat → Nat → Nat} {Q : Nat → Nat} {B : Nat × (Nat → Nat)} {w : Nat} {r0 : ((MP × NC) × AS) × Int32} (C : cx p s m args meth c D E (Aof (zS μ0 ν0 a0 Ad0) [] s.heap.size) cL_isTold 22 "TradeLineLaw") (hEv : eV (Ad0 30 0) (Ad0 31 0) B (Aof (zS μ0 ν0 a0 Ad0) [] s.heap.size) s s.heap) (hN : vN s) (hr : meth.sig.returnType = (some .boolean)) (hz : s.heap.size = sz) (hI0 : lwI ν0) (hQ0 : lwQ Ad0 Q) {μ : MP} {ν : NC} {a : AS} {Ad : Nat → Nat → Nat} (hm0 : mn ν0 ν) (hp0 : kp ν0 Ad0 Ad)  {s0 : Int32}   (h : b_L_isTold_1138  w μ ν a  s0 = some r0) : G p l e ({ frames := 11, cells := kc r0.1.1.2 - kc ν0, slots := ks r0.1.1.2 - ks ν0, locals := 229 } : Room) s m args below meth c D E (Aof (zS μ0 ν0 a0 Ad0) [] s.heap.size) 22 (MQ below (cQ D E sz (zS μ0 ν0 a0 Ad0) [] (pI (fun r u => r = r0.2 ∧ ∃ A1, u = (zS r0.1.1.1 r0.1.1.2 r0.1.2 A1, []) ∧ kp ν0 Ad0 A1))) args s (kc r0.1.1.2 - kc ν0) (ks r0.1.1.2 - ks ν0) (Aof (zS μ0 ν0 a0 Ad0) [] s.heap.size)) (zS μ ν a Ad) [] (kc ν - kc ν0) (ks ν - ks ν0) 1138 [(0, .ref (Q 0)), (2, .ref (Q 1))] [.int s0] := by
  have m0 := mb_L_isTold_1138  h
  have e1 := m0.2.1; have e2 := m0.2.2.1; have e3 := hm0.2.1; have e4 := hm0.2.2.1
  have hI := lwI_mn hI0 hm0; have hQ := lwQ_kp hI0 hp0 hQ0
  unfold b_L_isTold_1138 at h
  refine g_sipush (v := (-7100 : Int32)) C dL_isTold_1138 (by decide) ?_
  refine g_icmp_ne (tgt := 1246) C dL_isTold_1141 (by decide) (fun c1141 => ?_) (fun c1141 => ?_)
  · replace h := (if_neg c1141).symm.trans h
    refine g_iconst (v := (0 : Int32)) C dL_isTold_1246 (by decide) ?_
    obtain rfl := Option.some.inj h
    exact g_iret C hr rfl hz ⟨(hm0.2.2.2 30 (by decide) (by decide)).1, (hm0.2.2.2 31 (by decide) (by decide)).1, hp0.2.1, hp0.2.2⟩ ⟨rfl, Ad, rfl, hp0⟩ (fun j x h => by simp at h) dL_isTold_1247
  · replace h := (if_pos c1141).symm.trans h
    refine g_aload_n C dL_isTold_1144 rfl 0 rfl ?_
    refine g_iconst (v := (-1 : Int32)) C dL_isTold_1145 (by decide) ?_
    obtain ⟨v12, hv12, h⟩ := bind_of h
    have m2 := m_L_held hv12
    have m3 := mb_L_isTold_1149  h
    have a1 := hm0.2.1; have a2 := hm0.2.2.1; have b1 := m2.2.1; have b2 := m2.2.2.1; have d1 := m3.2.1; have d2 := m3.2.2.1
    refine g_cSh (n := 2) (exr := []) C hEv hN ⟨hp0.2.1 0, hp0.2.2 0⟩ [_, _] _ rfl rfl [] rfl rfl (fun sz => wc_L_held l hl B _ ν _ Ad Q hI hQ w _ _ hv12 D E sz) rfl gh_held gw_0 gw_1245 gw_1246 ⟨by decide +kernel, by decide +kernel, by decide +kernel⟩ ⟨rfl, rfl⟩ ⟨Nat.le_of_ble_eq_true rfl, Nat.le_of_ble_eq_true rfl⟩ (Nat.le_of_ble_eq_true rfl) dL_isTold_1146 ⟨by show (kc ν - kc ν0) + (kc v12.1.2 - kc ν) ≤ kc r0.1.1.2 - kc ν0; omega, by show (ks ν - ks ν0) + (ks v12.1.2 - ks ν) ≤ ks r0.1.1.2 - ks ν0; omega⟩ (fun r u hp hx => ?_)
    obtain ⟨er, A1, rfl, hkp⟩ := hp
    rw [er]
    try dsimp only [List.append_nil]
    refine g_widen (k := kc v12.1.2 - kc ν0) (n := ks v12.1.2 - ks ν0) (by omega) (by omega) ?_
    refine g_lv [0, 1] rfl ?_
    exact lb_L_isTold_1149 hl C hEv hN hr hz hI0 hQ0 (mn_trans hm0 m2) (kp_trans hp0 hm0 hkp)  h
noncomputable def b_L_isTold_1108  (w : Nat) (μ : MP) (ν : NC) (a : AS)  (s0 : Int32) (s1 : Int32) : Option (((MP × NC) × AS) × Int32) := (if s1 = s0 then ((f_X8_orders w μ ν).bind (fun v7 => bif ixB (18 : Int32) 22 then (if v7 = (a 1 (18 : Int32).toNatClampNeg) then ((f_X8_executions w μ ν).bind (fun v9 => bif ixB (19 : Int32) 22 then (if v9 = (a 1 (19 : Int32).toNatClampNeg) then ((f_L_isOn w μ ν (2 : Int32)).bind (fun v11 => b_L_isTold_1138  w v11.1.1 v11.1.2 a v11.2)) else (some (((μ, ν), a), (0 : Int32)))) else none)) else (some (((μ, ν), a), (0 : Int32)))) else none)) else (some (((μ, ν), a), (0 : Int32))))
theorem mb_L_isTold_1108 {w : Nat} {μ : MP} {ν : NC} {a : AS}  {s0 : Int32} {s1 : Int32} {r0 : ((MP × NC) × AS) × Int32}   (h : b_L_isTold_1108  w μ ν a  s0 s1 = some r0) : mn ν r0.1.1.2 := by
  unfold b_L_isTold_1108 at h
  by_cases c1108 : s1 = s0
  · replace h := (if_pos c1108).symm.trans h
    obtain ⟨v7, hv7, h⟩ := bind_of h
    replace h := (of_guard h).2
    by_cases c1119 : v7 = (a 1 (18 : Int32).toNatClampNeg)
    · replace h := (if_pos c1119).symm.trans h
      obtain ⟨v9, hv9, h⟩ := bind_of h
      replace h := (of_guard h).2
      by_cases c1130 : v9 = (a 1 (19 : Int32).toNatClampNeg)
      · replace h := (if_pos c1130).symm.trans h
        obtain ⟨v11, hv11, h⟩ := bind_of h
        exact mn_trans (m_L_isOn hv11) (mb_L_isTold_1138  h)
      · replace h := (if_neg c1130).symm.trans h
        obtain rfl := Option.some.inj h
        exact mn_rfl _
    · replace h := (if_neg c1119).symm.trans h
      obtain rfl := Option.some.inj h
      exact mn_rfl _
  · replace h := (if_neg c1108).symm.trans h
    obtain rfl := Option.some.inj h
    exact mn_rfl _
set_option maxHeartbeats 4000000 in
set_option maxRecDepth 100000 in
theorem lb_L_isTold_1108 {p : Program} {l : Launch} (hl : l.stackTraces = false) {e : Env} {s : State} {m : MethodId} {args : Array Value} {below : List Frame} {meth : Method} {c : Code} {D : va_G} {E : Nat → ClassId} {sz : Nat} {μ0 : MP} {ν0 : NC} {a0 : AS} {Ad0 : Nat → Nat → Nat} {Q : Nat → Nat} {B : Nat × (Nat → Nat)} {w : Nat} {r0 : ((MP × NC) × AS) × Int32} (C : cx p s m args meth c D E (Aof (zS μ0 ν0 a0 Ad0) [] s.heap.size) cL_isTold 22 "TradeLineLaw") (hEv : eV (Ad0 30 0) (Ad0 31 0) B (Aof (zS μ0 ν0 a0 Ad0) [] s.heap.size) s s.heap) (hN : vN s) (hr : meth.sig.returnType = (some .boolean)) (hz : s.heap.size = sz) (hI0 : lwI ν0) (hQ0 : lwQ Ad0 Q) {μ : MP} {ν : NC} {a : AS} {Ad : Nat → Nat → Nat} (hm0 : mn ν0 ν) (hp0 : kp ν0 Ad0 Ad)  {s0 : Int32} {s1 : Int32}   (h : b_L_isTold_1108  w μ ν a  s0 s1 = some r0) : G p l e ({ frames := 11, cells := kc r0.1.1.2 - kc ν0, slots := ks r0.1.1.2 - ks ν0, locals := 229 } : Room) s m args below meth c D E (Aof (zS μ0 ν0 a0 Ad0) [] s.heap.size) 22 (MQ below (cQ D E sz (zS μ0 ν0 a0 Ad0) [] (pI (fun r u => r = r0.2 ∧ ∃ A1, u = (zS r0.1.1.1 r0.1.1.2 r0.1.2 A1, []) ∧ kp ν0 Ad0 A1))) args s (kc r0.1.1.2 - kc ν0) (ks r0.1.1.2 - ks ν0) (Aof (zS μ0 ν0 a0 Ad0) [] s.heap.size)) (zS μ ν a Ad) [] (kc ν - kc ν0) (ks ν - ks ν0) 1108 [(0, .ref (Q 0)), (2, .ref (Q 1))] [.int s0, .int s1] := by
  have m0 := mb_L_isTold_1108  h
  have e1 := m0.2.1; have e2 := m0.2.2.1; have e3 := hm0.2.1; have e4 := hm0.2.2.1
  have hI := lwI_mn hI0 hm0; have hQ := lwQ_kp hI0 hp0 hQ0
  unfold b_L_isTold_1108 at h
  refine g_icmp_ne (tgt := 1246) C dL_isTold_1108 (by decide) (fun c1108 => ?_) (fun c1108 => ?_)
  · replace h := (if_neg c1108).symm.trans h
    refine g_iconst (v := (0 : Int32)) C dL_isTold_1246 (by decide) ?_
    obtain rfl := Option.some.inj h
    exact g_iret C hr rfl hz ⟨(hm0.2.2.2 30 (by decide) (by decide)).1, (hm0.2.2.2 31 (by decide) (by decide)).1, hp0.2.1, hp0.2.2⟩ ⟨rfl, Ad, rfl, hp0⟩ (fun j x h => by simp at h) dL_isTold_1247
  · replace h := (if_pos c1108).symm.trans h
    refine g_aload_n C dL_isTold_1111 rfl 0 rfl ?_
    obtain ⟨v7, hv7, h⟩ := bind_of h
    refine g_cVi (n := 0) (exc := []) (exr := []) (wr := []) C [] _ rfl rfl [] [] rfl rfl rfl rfl (fun _ h => absurd h (by simp)) (fun _ h => absurd h (by simp)) (fun _ h => absurd h (by simp)) (fun sz => by rw [← hQ.1]; exact c_X8_orders l μ ν a Ad w _ hv7 D E sz) rfl gw_1144 gw_1 gw_1141 gw_1142 gw_1143 ⟨by decide +kernel, by decide +kernel, by decide +kernel⟩ ⟨rfl, rfl⟩ ⟨Nat.le_of_ble_eq_true rfl, Nat.le_of_ble_eq_true rfl⟩ (by rw [← hQ.1]; exact rcvT ⟨hI.1, fun e => absurd e (by decide)⟩ rfl rfl rfl) (Nat.le_of_ble_eq_true rfl) dL_isTold_1112 ⟨by show (kc ν - kc ν0) + 0 ≤ kc r0.1.1.2 - kc ν0; omega, by show (ks ν - ks ν0) + 0 ≤ ks r0.1.1.2 - ks ν0; omega⟩ (fun r u hp hx => ?_)
    obtain ⟨er, rfl⟩ := hp
    rw [er]
    try dsimp only [List.append_nil]
    refine g_aload_n C dL_isTold_1115 rfl 1 rfl ?_
    refine g_bipush (v := (18 : Int32)) C dL_isTold_1116 (by decide) ?_
    obtain ⟨g8, h⟩ := of_guard h
    refine q_iald C (show rsh (ν.1, μ.2, ν.2, Ad) from hI.2) (j := 1) (N := 22) (by decide) (lwQ_i hQ (j := 1) (N := 22) (by decide)) g8 dL_isTold_1118 ?_
    refine g_icmp_ne (tgt := 1246) C dL_isTold_1119 (by decide) (fun c1119 => ?_) (fun c1119 => ?_)
    · replace h := (if_neg c1119).symm.trans h
      refine g_iconst (v := (0 : Int32)) C dL_isTold_1246 (by decide) ?_
      obtain rfl := Option.some.inj h
      exact g_iret C hr rfl hz ⟨(hm0.2.2.2 30 (by decide) (by decide)).1, (hm0.2.2.2 31 (by decide) (by decide)).1, hp0.2.1, hp0.2.2⟩ ⟨rfl, Ad, rfl, hp0⟩ (fun j x h => by simp at h) dL_isTold_1247
    · replace h := (if_pos c1119).symm.trans h
      refine g_aload_n C dL_isTold_1122 rfl 0 rfl ?_
      obtain ⟨v9, hv9, h⟩ := bind_of h
      refine g_cVi (n := 0) (exc := []) (exr := []) (wr := []) C [] _ rfl rfl [] [] rfl rfl rfl rfl (fun _ h => absurd h (by simp)) (fun _ h => absurd h (by simp)) (fun _ h => absurd h (by simp)) (fun sz => by rw [← hQ.1]; exact c_X8_executions l μ ν a Ad w _ hv9 D E sz) rfl gw_1404 gw_1 gw_1401 gw_1402 gw_1403 ⟨by decide +kernel, by decide +kernel, by decide +kernel⟩ ⟨rfl, rfl⟩ ⟨Nat.le_of_ble_eq_true rfl, Nat.le_of_ble_eq_true rfl⟩ (by rw [← hQ.1]; exact rcvT ⟨hI.1, fun e => absurd e (by decide)⟩ rfl rfl rfl) (Nat.le_of_ble_eq_true rfl) dL_isTold_1123 ⟨by show (kc ν - kc ν0) + 0 ≤ kc r0.1.1.2 - kc ν0; omega, by show (ks ν - ks ν0) + 0 ≤ ks r0.1.1.2 - ks ν0; omega⟩ (fun r u hp hx => ?_)
      obtain ⟨er, rfl⟩ := hp
      rw [er]
      try dsimp only [List.append_nil]
      refine g_aload_n C dL_isTold_1126 rfl 1 rfl ?_
      refine g_bipush (v := (19 : Int32)) C dL_isTold_1127 (by decide) ?_
      obtain ⟨g10, h⟩ := of_guard h
      refine q_iald C (show rsh (ν.1, μ.2, ν.2, Ad) from hI.2) (j := 1) (N := 22) (by decide) (lwQ_i hQ (j := 1) (N := 22) (by decide)) g10 dL_isTold_1129 ?_
      refine g_icmp_ne (tgt := 1246) C dL_isTold_1130 (by decide) (fun c1130 => ?_) (fun c1130 => ?_)
      · replace h := (if_neg c1130).symm.trans h
        refine g_iconst (v := (0 : Int32)) C dL_isTold_1246 (by decide) ?_
        obtain rfl := Option.some.inj h
        exact g_iret C hr rfl hz ⟨(hm0.2.2.2 30 (by decide) (by decide)).1, (hm0.2.2.2 31 (by decide) (by decide)).1, hp0.2.1, hp0.2.2⟩ ⟨rfl, Ad, rfl, hp0⟩ (fun j x h => by simp at h) dL_isTold_1247
      · replace h := (if_pos c1130).symm.trans h
        refine g_aload_n C dL_isTold_1133 rfl 0 rfl ?_
        refine g_iconst (v := (2 : Int32)) C dL_isTold_1134 (by decide) ?_
        obtain ⟨v11, hv11, h⟩ := bind_of h
        have m2 := m_L_isOn hv11
        have m3 := mb_L_isTold_1138  h
        have a1 := hm0.2.1; have a2 := hm0.2.2.1; have b1 := m2.2.1; have b2 := m2.2.2.1; have d1 := m3.2.1; have d2 := m3.2.2.1
        refine g_cSh (n := 2) (exr := []) C hEv hN ⟨hp0.2.1 0, hp0.2.2 0⟩ [_, _] _ rfl rfl [] rfl rfl (fun sz => wc_L_isOn l hl B _ ν _ Ad Q hI hQ w _ _ hv11 D E sz) rfl gh_isOn gw_0 gw_1217 gw_1218 ⟨by decide +kernel, by decide +kernel, by decide +kernel⟩ ⟨rfl, rfl⟩ ⟨Nat.le_of_ble_eq_true rfl, Nat.le_of_ble_eq_true rfl⟩ (Nat.le_of_ble_eq_true rfl) dL_isTold_1135 ⟨by show (kc ν - kc ν0) + (kc v11.1.2 - kc ν) ≤ kc r0.1.1.2 - kc ν0; omega, by show (ks ν - ks ν0) + (ks v11.1.2 - ks ν) ≤ ks r0.1.1.2 - ks ν0; omega⟩ (fun r u hp hx => ?_)
        obtain ⟨er, A1, rfl, hkp⟩ := hp
        rw [er]
        try dsimp only [List.append_nil]
        refine g_widen (k := kc v11.1.2 - kc ν0) (n := ks v11.1.2 - ks ν0) (by omega) (by omega) ?_
        refine g_lv [0, 1] rfl ?_
        exact lb_L_isTold_1138 hl C hEv hN hr hz hI0 hQ0 (mn_trans hm0 m2) (kp_trans hp0 hm0 hkp)  h
noncomputable def b_L_isTold_1069 (k770 : MP → NC → AS → Int32 → Int32 → Int32 → Int32 → Option (((MP × NC) × AS) × Int32)) (w : Nat) (μ : MP) (ν : NC) (a : AS) (x14 : Int32) (x15 : Int32) (x16 : Int32) (x17 : Int32) (s0 : Int32) : Option (((MP × NC) × AS) × Int32) := (if s0 = (-7100 : Int32) then (yl (x17 + (1 : Int32)) (fun t28 => k770 μ ν a x14 x15 x16 t28)) else (some (((μ, ν), a), (0 : Int32))))
theorem mb_L_isTold_1069 {w : Nat} {μ : MP} {ν : NC} {a : AS} {x14 : Int32} {x15 : Int32} {x16 : Int32} {x17 : Int32} {s0 : Int32} {r0 : ((MP × NC) × AS) × Int32} {k770 : MP → NC → AS → Int32 → Int32 → Int32 → Int32 → Option (((MP × NC) × AS) × Int32)} (hmk770 : ∀ (μ : MP) (ν : NC) (a : AS) (z14 : Int32) (z15 : Int32) (z16 : Int32) (z17 : Int32), k770 μ ν a z14 z15 z16 z17 = some r0 → mn ν r0.1.1.2) (h : b_L_isTold_1069 k770 w μ ν a x14 x15 x16 x17 s0 = some r0) : mn ν r0.1.1.2 := by
  unfold b_L_isTold_1069 at h
  by_cases c1072 : s0 = (-7100 : Int32)
  · replace h := (if_pos c1072).symm.trans h
    obtain ⟨t28, et28⟩ : ∃ y, x17 + (1 : Int32) = y := ⟨_, rfl⟩
    replace h := yl_of h et28
    exact hmk770 _ _ _ _ _ _ _ h
  · replace h := (if_neg c1072).symm.trans h
    obtain rfl := Option.some.inj h
    exact mn_rfl _
set_option maxHeartbeats 4000000 in
set_option maxRecDepth 100000 in
theorem lb_L_isTold_1069 {p : Program} {l : Launch} (hl : l.stackTraces = false) {e : Env} {s : State} {m : MethodId} {args : Array Value} {below : List Frame} {meth : Method} {c : Code} {D : va_G} {E : Nat → ClassId} {sz : Nat} {μ0 : MP} {ν0 : NC} {a0 : AS} {Ad0 : Nat → Nat → Nat} {Q : Nat → Nat} {B : Nat × (Nat → Nat)} {w : Nat} {r0 : ((MP × NC) × AS) × Int32} (C : cx p s m args meth c D E (Aof (zS μ0 ν0 a0 Ad0) [] s.heap.size) cL_isTold 22 "TradeLineLaw") (hEv : eV (Ad0 30 0) (Ad0 31 0) B (Aof (zS μ0 ν0 a0 Ad0) [] s.heap.size) s s.heap) (hN : vN s) (hr : meth.sig.returnType = (some .boolean)) (hz : s.heap.size = sz) (hI0 : lwI ν0) (hQ0 : lwQ Ad0 Q) {μ : MP} {ν : NC} {a : AS} {Ad : Nat → Nat → Nat} (hm0 : mn ν0 ν) (hp0 : kp ν0 Ad0 Ad) {x14 : Int32} {x15 : Int32} {x16 : Int32} {x17 : Int32} {s0 : Int32} {k770 : MP → NC → AS → Int32 → Int32 → Int32 → Int32 → Option (((MP × NC) × AS) × Int32)} (hmk770 : ∀ (μ : MP) (ν : NC) (a : AS) (z14 : Int32) (z15 : Int32) (z16 : Int32) (z17 : Int32), k770 μ ν a z14 z15 z16 z17 = some r0 → mn ν r0.1.1.2) (hk770 : ∀ (μ : MP) (ν : NC) (a : AS) (Ad : Nat → Nat → Nat) (z14 : Int32) (z15 : Int32) (z16 : Int32) (z17 : Int32), mn ν0 ν → kp ν0 Ad0 Ad → k770 μ ν a z14 z15 z16 z17 = some r0 → G p l e ({ frames := 11, cells := kc r0.1.1.2 - kc ν0, slots := ks r0.1.1.2 - ks ν0, locals := 229 } : Room) s m args below meth c D E (Aof (zS μ0 ν0 a0 Ad0) [] s.heap.size) 22 (MQ below (cQ D E sz (zS μ0 ν0 a0 Ad0) [] (pI (fun r u => r = r0.2 ∧ ∃ A1, u = (zS r0.1.1.1 r0.1.1.2 r0.1.2 A1, []) ∧ kp ν0 Ad0 A1))) args s (kc r0.1.1.2 - kc ν0) (ks r0.1.1.2 - ks ν0) (Aof (zS μ0 ν0 a0 Ad0) [] s.heap.size)) (zS μ ν a Ad) [] (kc ν - kc ν0) (ks ν - ks ν0) 770 [(0, .ref (Q 0)), (2, .ref (Q 1)), (11, .ref (Q 12)), (12, .ref (Q 13)), (14, .int z14), (15, .int z15), (16, .int z16), (17, .int z17)] []) (h : b_L_isTold_1069 k770 w μ ν a x14 x15 x16 x17 s0 = some r0) : G p l e ({ frames := 11, cells := kc r0.1.1.2 - kc ν0, slots := ks r0.1.1.2 - ks ν0, locals := 229 } : Room) s m args below meth c D E (Aof (zS μ0 ν0 a0 Ad0) [] s.heap.size) 22 (MQ below (cQ D E sz (zS μ0 ν0 a0 Ad0) [] (pI (fun r u => r = r0.2 ∧ ∃ A1, u = (zS r0.1.1.1 r0.1.1.2 r0.1.2 A1, []) ∧ kp ν0 Ad0 A1))) args s (kc r0.1.1.2 - kc ν0) (ks r0.1.1.2 - ks ν0) (Aof (zS μ0 ν0 a0 Ad0) [] s.heap.size)) (zS μ ν a Ad) [] (kc ν - kc ν0) (ks ν - ks ν0) 1069 [(0, .ref (Q 0)), (2, .ref (Q 1)), (11, .ref (Q 12)), (12, .ref (Q 13)), (14, .int x14), (15, .int x15), (16, .int x16), (17, .int x17)] [.int s0] := by
  have m0 := mb_L_isTold_1069 hmk770 h
  have e1 := m0.2.1; have e2 := m0.2.2.1; have e3 := hm0.2.1; have e4 := hm0.2.2.1
  have hI := lwI_mn hI0 hm0; have hQ := lwQ_kp hI0 hp0 hQ0
  unfold b_L_isTold_1069 at h
  refine g_sipush (v := (-7100 : Int32)) C dL_isTold_1069 (by decide) ?_
  refine g_icmp_eq (tgt := 1077) C dL_isTold_1072 (by decide) (fun c1072 => ?_) (fun c1072 => ?_)
  · replace h := (if_pos c1072).symm.trans h
    obtain ⟨t28, et28⟩ : ∃ y : Int32, x17 + (1 : Int32) = y := ⟨_, rfl⟩
    replace h := yl_of h et28
    refine g_iinc (v := t28) (lv' := [(17, .int t28), (0, .ref (Q 0)), (2, .ref (Q 1)), (11, .ref (Q 12)), (12, .ref (Q 13)), (14, .int x14), (15, .int x15), (16, .int x16)]) C dL_isTold_1077 7 rfl (by rw [← et28]; rfl) (by decide) rfl ?_
    refine g_goto (tgt := 770) C dL_isTold_1080 (by decide) ?_
    refine g_lv [1, 2, 3, 4, 5, 6, 7, 0] rfl ?_
    exact hk770 _ _ _ _ _ _ _ _ hm0 hp0 h
  · replace h := (if_neg c1072).symm.trans h
    refine g_iconst (v := (0 : Int32)) C dL_isTold_1075 (by decide) ?_
    obtain rfl := Option.some.inj h
    exact g_iret C hr rfl hz ⟨(hm0.2.2.2 30 (by decide) (by decide)).1, (hm0.2.2.2 31 (by decide) (by decide)).1, hp0.2.1, hp0.2.2⟩ ⟨rfl, Ad, rfl, hp0⟩ (fun j x h => by simp at h) dL_isTold_1076
noncomputable def b_L_isTold_1053 (k770 : MP → NC → AS → Int32 → Int32 → Int32 → Int32 → Option (((MP × NC) × AS) × Int32)) (w : Nat) (μ : MP) (ν : NC) (a : AS) (x14 : Int32) (x15 : Int32) (x16 : Int32) (x17 : Int32) (s0 : Int32) : Option (((MP × NC) × AS) × Int32) := (if s0 = (-7200 : Int32) then ((f_L_total w μ ν x17 (-1 : Int32) x16 (0 : Int32)).bind (fun v27 => b_L_isTold_1069 k770 w v27.1.1 v27.1.2 a x14 x15 x16 x17 v27.2)) else (some (((μ, ν), a), (0 : Int32))))
theorem mb_L_isTold_1053 {w : Nat} {μ : MP} {ν : NC} {a : AS} {x14 : Int32} {x15 : Int32} {x16 : Int32} {x17 : Int32} {s0 : Int32} {r0 : ((MP × NC) × AS) × Int32} {k770 : MP → NC → AS → Int32 → Int32 → Int32 → Int32 → Option (((MP × NC) × AS) × Int32)} (hmk770 : ∀ (μ : MP) (ν : NC) (a : AS) (z14 : Int32) (z15 : Int32) (z16 : Int32) (z17 : Int32), k770 μ ν a z14 z15 z16 z17 = some r0 → mn ν r0.1.1.2) (h : b_L_isTold_1053 k770 w μ ν a x14 x15 x16 x17 s0 = some r0) : mn ν r0.1.1.2 := by
  unfold b_L_isTold_1053 at h
  by_cases c1056 : s0 = (-7200 : Int32)
  · replace h := (if_pos c1056).symm.trans h
    obtain ⟨v27, hv27, h⟩ := bind_of h
    exact mn_trans (m_L_total hv27) (mb_L_isTold_1069 hmk770 h)
  · replace h := (if_neg c1056).symm.trans h
    obtain rfl := Option.some.inj h
    exact mn_rfl _
set_option maxHeartbeats 4000000 in
set_option maxRecDepth 100000 in
theorem lb_L_isTold_1053 {p : Program} {l : Launch} (hl : l.stackTraces = false) {e : Env} {s : State} {m : MethodId} {args : Array Value} {below : List Frame} {meth : Method} {c : Code} {D : va_G} {E : Nat → ClassId} {sz : Nat} {μ0 : MP} {ν0 : NC} {a0 : AS} {Ad0 : Nat → Nat → Nat} {Q : Nat → Nat} {B : Nat × (Nat → Nat)} {w : Nat} {r0 : ((MP × NC) × AS) × Int32} (C : cx p s m args meth c D E (Aof (zS μ0 ν0 a0 Ad0) [] s.heap.size) cL_isTold 22 "TradeLineLaw") (hEv : eV (Ad0 30 0) (Ad0 31 0) B (Aof (zS μ0 ν0 a0 Ad0) [] s.heap.size) s s.heap) (hN : vN s) (hr : meth.sig.returnType = (some .boolean)) (hz : s.heap.size = sz) (hI0 : lwI ν0) (hQ0 : lwQ Ad0 Q) {μ : MP} {ν : NC} {a : AS} {Ad : Nat → Nat → Nat} (hm0 : mn ν0 ν) (hp0 : kp ν0 Ad0 Ad) {x14 : Int32} {x15 : Int32} {x16 : Int32} {x17 : Int32} {s0 : Int32} {k770 : MP → NC → AS → Int32 → Int32 → Int32 → Int32 → Option (((MP × NC) × AS) × Int32)} (hmk770 : ∀ (μ : MP) (ν : NC) (a : AS) (z14 : Int32) (z15 : Int32) (z16 : Int32) (z17 : Int32), k770 μ ν a z14 z15 z16 z17 = some r0 → mn ν r0.1.1.2) (hk770 : ∀ (μ : MP) (ν : NC) (a : AS) (Ad : Nat → Nat → Nat) (z14 : Int32) (z15 : Int32) (z16 : Int32) (z17 : Int32), mn ν0 ν → kp ν0 Ad0 Ad → k770 μ ν a z14 z15 z16 z17 = some r0 → G p l e ({ frames := 11, cells := kc r0.1.1.2 - kc ν0, slots := ks r0.1.1.2 - ks ν0, locals := 229 } : Room) s m args below meth c D E (Aof (zS μ0 ν0 a0 Ad0) [] s.heap.size) 22 (MQ below (cQ D E sz (zS μ0 ν0 a0 Ad0) [] (pI (fun r u => r = r0.2 ∧ ∃ A1, u = (zS r0.1.1.1 r0.1.1.2 r0.1.2 A1, []) ∧ kp ν0 Ad0 A1))) args s (kc r0.1.1.2 - kc ν0) (ks r0.1.1.2 - ks ν0) (Aof (zS μ0 ν0 a0 Ad0) [] s.heap.size)) (zS μ ν a Ad) [] (kc ν - kc ν0) (ks ν - ks ν0) 770 [(0, .ref (Q 0)), (2, .ref (Q 1)), (11, .ref (Q 12)), (12, .ref (Q 13)), (14, .int z14), (15, .int z15), (16, .int z16), (17, .int z17)] []) (h : b_L_isTold_1053 k770 w μ ν a x14 x15 x16 x17 s0 = some r0) : G p l e ({ frames := 11, cells := kc r0.1.1.2 - kc ν0, slots := ks r0.1.1.2 - ks ν0, locals := 229 } : Room) s m args below meth c D E (Aof (zS μ0 ν0 a0 Ad0) [] s.heap.size) 22 (MQ below (cQ D E sz (zS μ0 ν0 a0 Ad0) [] (pI (fun r u => r = r0.2 ∧ ∃ A1, u = (zS r0.1.1.1 r0.1.1.2 r0.1.2 A1, []) ∧ kp ν0 Ad0 A1))) args s (kc r0.1.1.2 - kc ν0) (ks r0.1.1.2 - ks ν0) (Aof (zS μ0 ν0 a0 Ad0) [] s.heap.size)) (zS μ ν a Ad) [] (kc ν - kc ν0) (ks ν - ks ν0) 1053 [(0, .ref (Q 0)), (2, .ref (Q 1)), (11, .ref (Q 12)), (12, .ref (Q 13)), (14, .int x14), (15, .int x15), (16, .int x16), (17, .int x17)] [.int s0] := by
  have m0 := mb_L_isTold_1053 hmk770 h
  have e1 := m0.2.1; have e2 := m0.2.2.1; have e3 := hm0.2.1; have e4 := hm0.2.2.1
  have hI := lwI_mn hI0 hm0; have hQ := lwQ_kp hI0 hp0 hQ0
  unfold b_L_isTold_1053 at h
  refine g_sipush (v := (-7200 : Int32)) C dL_isTold_1053 (by decide) ?_
  refine g_icmp_ne (tgt := 1075) C dL_isTold_1056 (by decide) (fun c1056 => ?_) (fun c1056 => ?_)
  · replace h := (if_neg c1056).symm.trans h
    refine g_iconst (v := (0 : Int32)) C dL_isTold_1075 (by decide) ?_
    obtain rfl := Option.some.inj h
    exact g_iret C hr rfl hz ⟨(hm0.2.2.2 30 (by decide) (by decide)).1, (hm0.2.2.2 31 (by decide) (by decide)).1, hp0.2.1, hp0.2.2⟩ ⟨rfl, Ad, rfl, hp0⟩ (fun j x h => by simp at h) dL_isTold_1076
  · replace h := (if_pos c1056).symm.trans h
    refine g_aload_n C dL_isTold_1059 rfl 0 rfl ?_
    refine g_iload C dL_isTold_1060 7 rfl ?_
    refine g_iconst (v := (-1 : Int32)) C dL_isTold_1062 (by decide) ?_
    refine g_iload C dL_isTold_1063 6 rfl ?_
    refine g_iconst (v := (0 : Int32)) C dL_isTold_1065 (by decide) ?_
    obtain ⟨v27, hv27, h⟩ := bind_of h
    have m2 := m_L_total hv27
    have m3 := mb_L_isTold_1069 hmk770 h
    have a1 := hm0.2.1; have a2 := hm0.2.2.1; have b1 := m2.2.1; have b2 := m2.2.2.1; have d1 := m3.2.1; have d2 := m3.2.2.1
    refine g_cSh (n := 5) (exr := []) C hEv hN ⟨hp0.2.1 0, hp0.2.2 0⟩ [_, _, _, _, _] _ rfl rfl [] rfl rfl (fun sz => wc_L_total l hl B _ ν _ Ad Q hI hQ w _ _ _ _ _ hv27 D E sz) rfl gh_total gw_0 gw_1376 gw_1377 ⟨by decide +kernel, by decide +kernel, by decide +kernel⟩ ⟨rfl, rfl⟩ ⟨Nat.le_of_ble_eq_true rfl, Nat.le_of_ble_eq_true rfl⟩ (Nat.le_of_ble_eq_true rfl) dL_isTold_1066 ⟨by show (kc ν - kc ν0) + (kc v27.1.2 - kc ν) ≤ kc r0.1.1.2 - kc ν0; omega, by show (ks ν - ks ν0) + (ks v27.1.2 - ks ν) ≤ ks r0.1.1.2 - ks ν0; omega⟩ (fun r u hp hx => ?_)
    obtain ⟨er, A1, rfl, hkp⟩ := hp
    rw [er]
    try dsimp only [List.append_nil]
    refine g_widen (k := kc v27.1.2 - kc ν0) (n := ks v27.1.2 - ks ν0) (by omega) (by omega) ?_
    refine g_lv [0, 1, 2, 3, 4, 5, 6, 7] rfl ?_
    exact lb_L_isTold_1069 hl C hEv hN hr hz hI0 hQ0 (mn_trans hm0 m2) (kp_trans hp0 hm0 hkp) hmk770 hk770 h
noncomputable def b_L_isTold_1036 (k770 : MP → NC → AS → Int32 → Int32 → Int32 → Int32 → Option (((MP × NC) × AS) × Int32)) (w : Nat) (μ : MP) (ν : NC) (a : AS) (x14 : Int32) (x15 : Int32) (x16 : Int32) (x17 : Int32) (s0 : Int32) : Option (((MP × NC) × AS) × Int32) := (if s0 = (-7100 : Int32) then ((f_L_total w μ ν x17 x15 x16 (2 : Int32)).bind (fun v26 => b_L_isTold_1053 k770 w v26.1.1 v26.1.2 a x14 x15 x16 x17 v26.2)) else (some (((μ, ν), a), (0 : Int32))))
theorem mb_L_isTold_1036 {w : Nat} {μ : MP} {ν : NC} {a : AS} {x14 : Int32} {x15 : Int32} {x16 : Int32} {x17 : Int32} {s0 : Int32} {r0 : ((MP × NC) × AS) × Int32} {k770 : MP → NC → AS → Int32 → Int32 → Int32 → Int32 → Option (((MP × NC) × AS) × Int32)} (hmk770 : ∀ (μ : MP) (ν : NC) (a : AS) (z14 : Int32) (z15 : Int32) (z16 : Int32) (z17 : Int32), k770 μ ν a z14 z15 z16 z17 = some r0 → mn ν r0.1.1.2) (h : b_L_isTold_1036 k770 w μ ν a x14 x15 x16 x17 s0 = some r0) : mn ν r0.1.1.2 := by
  unfold b_L_isTold_1036 at h
  by_cases c1039 : s0 = (-7100 : Int32)
  · replace h := (if_pos c1039).symm.trans h
    obtain ⟨v26, hv26, h⟩ := bind_of h
    exact mn_trans (m_L_total hv26) (mb_L_isTold_1053 hmk770 h)
  · replace h := (if_neg c1039).symm.trans h
    obtain rfl := Option.some.inj h
    exact mn_rfl _
set_option maxHeartbeats 4000000 in
set_option maxRecDepth 100000 in
theorem lb_L_isTold_1036 {p : Program} {l : Launch} (hl : l.stackTraces = false) {e : Env} {s : State} {m : MethodId} {args : Array Value} {below : List Frame} {meth : Method} {c : Code} {D : va_G} {E : Nat → ClassId} {sz : Nat} {μ0 : MP} {ν0 : NC} {a0 : AS} {Ad0 : Nat → Nat → Nat} {Q : Nat → Nat} {B : Nat × (Nat → Nat)} {w : Nat} {r0 : ((MP × NC) × AS) × Int32} (C : cx p s m args meth c D E (Aof (zS μ0 ν0 a0 Ad0) [] s.heap.size) cL_isTold 22 "TradeLineLaw") (hEv : eV (Ad0 30 0) (Ad0 31 0) B (Aof (zS μ0 ν0 a0 Ad0) [] s.heap.size) s s.heap) (hN : vN s) (hr : meth.sig.returnType = (some .boolean)) (hz : s.heap.size = sz) (hI0 : lwI ν0) (hQ0 : lwQ Ad0 Q) {μ : MP} {ν : NC} {a : AS} {Ad : Nat → Nat → Nat} (hm0 : mn ν0 ν) (hp0 : kp ν0 Ad0 Ad) {x14 : Int32} {x15 : Int32} {x16 : Int32} {x17 : Int32} {s0 : Int32} {k770 : MP → NC → AS → Int32 → Int32 → Int32 → Int32 → Option (((MP × NC) × AS) × Int32)} (hmk770 : ∀ (μ : MP) (ν : NC) (a : AS) (z14 : Int32) (z15 : Int32) (z16 : Int32) (z17 : Int32), k770 μ ν a z14 z15 z16 z17 = some r0 → mn ν r0.1.1.2) (hk770 : ∀ (μ : MP) (ν : NC) (a : AS) (Ad : Nat → Nat → Nat) (z14 : Int32) (z15 : Int32) (z16 : Int32) (z17 : Int32), mn ν0 ν → kp ν0 Ad0 Ad → k770 μ ν a z14 z15 z16 z17 = some r0 → G p l e ({ frames := 11, cells := kc r0.1.1.2 - kc ν0, slots := ks r0.1.1.2 - ks ν0, locals := 229 } : Room) s m args below meth c D E (Aof (zS μ0 ν0 a0 Ad0) [] s.heap.size) 22 (MQ below (cQ D E sz (zS μ0 ν0 a0 Ad0) [] (pI (fun r u => r = r0.2 ∧ ∃ A1, u = (zS r0.1.1.1 r0.1.1.2 r0.1.2 A1, []) ∧ kp ν0 Ad0 A1))) args s (kc r0.1.1.2 - kc ν0) (ks r0.1.1.2 - ks ν0) (Aof (zS μ0 ν0 a0 Ad0) [] s.heap.size)) (zS μ ν a Ad) [] (kc ν - kc ν0) (ks ν - ks ν0) 770 [(0, .ref (Q 0)), (2, .ref (Q 1)), (11, .ref (Q 12)), (12, .ref (Q 13)), (14, .int z14), (15, .int z15), (16, .int z16), (17, .int z17)] []) (h : b_L_isTold_1036 k770 w μ ν a x14 x15 x16 x17 s0 = some r0) : G p l e ({ frames := 11, cells := kc r0.1.1.2 - kc ν0, slots := ks r0.1.1.2 - ks ν0, locals := 229 } : Room) s m args below meth c D E (Aof (zS μ0 ν0 a0 Ad0) [] s.heap.size) 22 (MQ below (cQ D E sz (zS μ0 ν0 a0 Ad0) [] (pI (fun r u => r = r0.2 ∧ ∃ A1, u = (zS r0.1.1.1 r0.1.1.2 r0.1.2 A1, []) ∧ kp ν0 Ad0 A1))) args s (kc r0.1.1.2 - kc ν0) (ks r0.1.1.2 - ks ν0) (Aof (zS μ0 ν0 a0 Ad0) [] s.heap.size)) (zS μ ν a Ad) [] (kc ν - kc ν0) (ks ν - ks ν0) 1036 [(0, .ref (Q 0)), (2, .ref (Q 1)), (11, .ref (Q 12)), (12, .ref (Q 13)), (14, .int x14), (15, .int x15), (16, .int x16), (17, .int x17)] [.int s0] := by
  have m0 := mb_L_isTold_1036 hmk770 h
  have e1 := m0.2.1; have e2 := m0.2.2.1; have e3 := hm0.2.1; have e4 := hm0.2.2.1
  have hI := lwI_mn hI0 hm0; have hQ := lwQ_kp hI0 hp0 hQ0
  unfold b_L_isTold_1036 at h
  refine g_sipush (v := (-7100 : Int32)) C dL_isTold_1036 (by decide) ?_
  refine g_icmp_ne (tgt := 1075) C dL_isTold_1039 (by decide) (fun c1039 => ?_) (fun c1039 => ?_)
  · replace h := (if_neg c1039).symm.trans h
    refine g_iconst (v := (0 : Int32)) C dL_isTold_1075 (by decide) ?_
    obtain rfl := Option.some.inj h
    exact g_iret C hr rfl hz ⟨(hm0.2.2.2 30 (by decide) (by decide)).1, (hm0.2.2.2 31 (by decide) (by decide)).1, hp0.2.1, hp0.2.2⟩ ⟨rfl, Ad, rfl, hp0⟩ (fun j x h => by simp at h) dL_isTold_1076
  · replace h := (if_pos c1039).symm.trans h
    refine g_aload_n C dL_isTold_1042 rfl 0 rfl ?_
    refine g_iload C dL_isTold_1043 7 rfl ?_
    refine g_iload C dL_isTold_1045 5 rfl ?_
    refine g_iload C dL_isTold_1047 6 rfl ?_
    refine g_iconst (v := (2 : Int32)) C dL_isTold_1049 (by decide) ?_
    obtain ⟨v26, hv26, h⟩ := bind_of h
    have m2 := m_L_total hv26
    have m3 := mb_L_isTold_1053 hmk770 h
    have a1 := hm0.2.1; have a2 := hm0.2.2.1; have b1 := m2.2.1; have b2 := m2.2.2.1; have d1 := m3.2.1; have d2 := m3.2.2.1
    refine g_cSh (n := 5) (exr := []) C hEv hN ⟨hp0.2.1 0, hp0.2.2 0⟩ [_, _, _, _, _] _ rfl rfl [] rfl rfl (fun sz => wc_L_total l hl B _ ν _ Ad Q hI hQ w _ _ _ _ _ hv26 D E sz) rfl gh_total gw_0 gw_1376 gw_1377 ⟨by decide +kernel, by decide +kernel, by decide +kernel⟩ ⟨rfl, rfl⟩ ⟨Nat.le_of_ble_eq_true rfl, Nat.le_of_ble_eq_true rfl⟩ (Nat.le_of_ble_eq_true rfl) dL_isTold_1050 ⟨by show (kc ν - kc ν0) + (kc v26.1.2 - kc ν) ≤ kc r0.1.1.2 - kc ν0; omega, by show (ks ν - ks ν0) + (ks v26.1.2 - ks ν) ≤ ks r0.1.1.2 - ks ν0; omega⟩ (fun r u hp hx => ?_)
    obtain ⟨er, A1, rfl, hkp⟩ := hp
    rw [er]
    try dsimp only [List.append_nil]
    refine g_widen (k := kc v26.1.2 - kc ν0) (n := ks v26.1.2 - ks ν0) (by omega) (by omega) ?_
    refine g_lv [0, 1, 2, 3, 4, 5, 6, 7] rfl ?_
    exact lb_L_isTold_1053 hl C hEv hN hr hz hI0 hQ0 (mn_trans hm0 m2) (kp_trans hp0 hm0 hkp) hmk770 hk770 h
noncomputable def b_L_isTold_1016 (k770 : MP → NC → AS → Int32 → Int32 → Int32 → Int32 → Option (((MP × NC) × AS) × Int32)) (w : Nat) (μ : MP) (ν : NC) (a : AS) (x14 : Int32) (x15 : Int32) (x16 : Int32) (x17 : Int32) (x19 : Int32) (s0 : Int32) : Option (((MP × NC) × AS) × Int32) := (if s0 = x19 then (bif ixB (20 : Int32) 22 then (f_L_total w μ ν x17 ((a 1 (20 : Int32).toNatClampNeg) + (1 : Int32)) x16 (2 : Int32)).bind (fun v25 => b_L_isTold_1036 k770 w v25.1.1 v25.1.2 a x14 x15 x16 x17 v25.2) else none) else (some (((μ, ν), a), (0 : Int32))))
theorem mb_L_isTold_1016 {w : Nat} {μ : MP} {ν : NC} {a : AS} {x14 : Int32} {x15 : Int32} {x16 : Int32} {x17 : Int32} {x19 : Int32} {s0 : Int32} {r0 : ((MP × NC) × AS) × Int32} {k770 : MP → NC → AS → Int32 → Int32 → Int32 → Int32 → Option (((MP × NC) × AS) × Int32)} (hmk770 : ∀ (μ : MP) (ν : NC) (a : AS) (z14 : Int32) (z15 : Int32) (z16 : Int32) (z17 : Int32), k770 μ ν a z14 z15 z16 z17 = some r0 → mn ν r0.1.1.2) (h : b_L_isTold_1016 k770 w μ ν a x14 x15 x16 x17 x19 s0 = some r0) : mn ν r0.1.1.2 := by
  unfold b_L_isTold_1016 at h
  by_cases c1018 : s0 = x19
  · replace h := (if_pos c1018).symm.trans h
    replace h := (of_guard h).2
    obtain ⟨v25, hv25, h⟩ := bind_of h
    exact mn_trans (m_L_total hv25) (mb_L_isTold_1036 hmk770 h)
  · replace h := (if_neg c1018).symm.trans h
    obtain rfl := Option.some.inj h
    exact mn_rfl _
set_option maxHeartbeats 4000000 in
set_option maxRecDepth 100000 in
theorem lb_L_isTold_1016 {p : Program} {l : Launch} (hl : l.stackTraces = false) {e : Env} {s : State} {m : MethodId} {args : Array Value} {below : List Frame} {meth : Method} {c : Code} {D : va_G} {E : Nat → ClassId} {sz : Nat} {μ0 : MP} {ν0 : NC} {a0 : AS} {Ad0 : Nat → Nat → Nat} {Q : Nat → Nat} {B : Nat × (Nat → Nat)} {w : Nat} {r0 : ((MP × NC) × AS) × Int32} (C : cx p s m args meth c D E (Aof (zS μ0 ν0 a0 Ad0) [] s.heap.size) cL_isTold 22 "TradeLineLaw") (hEv : eV (Ad0 30 0) (Ad0 31 0) B (Aof (zS μ0 ν0 a0 Ad0) [] s.heap.size) s s.heap) (hN : vN s) (hr : meth.sig.returnType = (some .boolean)) (hz : s.heap.size = sz) (hI0 : lwI ν0) (hQ0 : lwQ Ad0 Q) {μ : MP} {ν : NC} {a : AS} {Ad : Nat → Nat → Nat} (hm0 : mn ν0 ν) (hp0 : kp ν0 Ad0 Ad) {x14 : Int32} {x15 : Int32} {x16 : Int32} {x17 : Int32} {x19 : Int32} {s0 : Int32} {k770 : MP → NC → AS → Int32 → Int32 → Int32 → Int32 → Option (((MP × NC) × AS) × Int32)} (hmk770 : ∀ (μ : MP) (ν : NC) (a : AS) (z14 : Int32) (z15 : Int32) (z16 : Int32) (z17 : Int32), k770 μ ν a z14 z15 z16 z17 = some r0 → mn ν r0.1.1.2) (hk770 : ∀ (μ : MP) (ν : NC) (a : AS) (Ad : Nat → Nat → Nat) (z14 : Int32) (z15 : Int32) (z16 : Int32) (z17 : Int32), mn ν0 ν → kp ν0 Ad0 Ad → k770 μ ν a z14 z15 z16 z17 = some r0 → G p l e ({ frames := 11, cells := kc r0.1.1.2 - kc ν0, slots := ks r0.1.1.2 - ks ν0, locals := 229 } : Room) s m args below meth c D E (Aof (zS μ0 ν0 a0 Ad0) [] s.heap.size) 22 (MQ below (cQ D E sz (zS μ0 ν0 a0 Ad0) [] (pI (fun r u => r = r0.2 ∧ ∃ A1, u = (zS r0.1.1.1 r0.1.1.2 r0.1.2 A1, []) ∧ kp ν0 Ad0 A1))) args s (kc r0.1.1.2 - kc ν0) (ks r0.1.1.2 - ks ν0) (Aof (zS μ0 ν0 a0 Ad0) [] s.heap.size)) (zS μ ν a Ad) [] (kc ν - kc ν0) (ks ν - ks ν0) 770 [(0, .ref (Q 0)), (2, .ref (Q 1)), (11, .ref (Q 12)), (12, .ref (Q 13)), (14, .int z14), (15, .int z15), (16, .int z16), (17, .int z17)] []) (h : b_L_isTold_1016 k770 w μ ν a x14 x15 x16 x17 x19 s0 = some r0) : G p l e ({ frames := 11, cells := kc r0.1.1.2 - kc ν0, slots := ks r0.1.1.2 - ks ν0, locals := 229 } : Room) s m args below meth c D E (Aof (zS μ0 ν0 a0 Ad0) [] s.heap.size) 22 (MQ below (cQ D E sz (zS μ0 ν0 a0 Ad0) [] (pI (fun r u => r = r0.2 ∧ ∃ A1, u = (zS r0.1.1.1 r0.1.1.2 r0.1.2 A1, []) ∧ kp ν0 Ad0 A1))) args s (kc r0.1.1.2 - kc ν0) (ks r0.1.1.2 - ks ν0) (Aof (zS μ0 ν0 a0 Ad0) [] s.heap.size)) (zS μ ν a Ad) [] (kc ν - kc ν0) (ks ν - ks ν0) 1016 [(0, .ref (Q 0)), (2, .ref (Q 1)), (11, .ref (Q 12)), (12, .ref (Q 13)), (14, .int x14), (15, .int x15), (16, .int x16), (17, .int x17), (19, .int x19)] [.int s0] := by
  have m0 := mb_L_isTold_1016 hmk770 h
  have e1 := m0.2.1; have e2 := m0.2.2.1; have e3 := hm0.2.1; have e4 := hm0.2.2.1
  have hI := lwI_mn hI0 hm0; have hQ := lwQ_kp hI0 hp0 hQ0
  unfold b_L_isTold_1016 at h
  refine g_iload C dL_isTold_1016 8 rfl ?_
  refine g_icmp_ne (tgt := 1075) C dL_isTold_1018 (by decide) (fun c1018 => ?_) (fun c1018 => ?_)
  · replace h := (if_neg c1018).symm.trans h
    refine g_iconst (v := (0 : Int32)) C dL_isTold_1075 (by decide) ?_
    obtain rfl := Option.some.inj h
    exact g_iret C hr rfl hz ⟨(hm0.2.2.2 30 (by decide) (by decide)).1, (hm0.2.2.2 31 (by decide) (by decide)).1, hp0.2.1, hp0.2.2⟩ ⟨rfl, Ad, rfl, hp0⟩ (fun j x h => by simp at h) dL_isTold_1076
  · replace h := (if_pos c1018).symm.trans h
    refine g_aload_n C dL_isTold_1021 rfl 0 rfl ?_
    refine g_iload C dL_isTold_1022 7 rfl ?_
    refine g_aload_n C dL_isTold_1024 rfl 1 rfl ?_
    refine g_bipush (v := (20 : Int32)) C dL_isTold_1025 (by decide) ?_
    obtain ⟨g24, h⟩ := of_guard h
    refine q_iald C (show rsh (ν.1, μ.2, ν.2, Ad) from hI.2) (j := 1) (N := 22) (by decide) (lwQ_i hQ (j := 1) (N := 22) (by decide)) g24 dL_isTold_1027 ?_
    refine g_iconst (v := (1 : Int32)) C dL_isTold_1028 (by decide) ?_
    refine g_iadd C dL_isTold_1029 ?_
    refine g_iload C dL_isTold_1030 6 rfl ?_
    refine g_iconst (v := (2 : Int32)) C dL_isTold_1032 (by decide) ?_
    obtain ⟨v25, hv25, h⟩ := bind_of h
    have m2 := m_L_total hv25
    have m3 := mb_L_isTold_1036 hmk770 h
    have a1 := hm0.2.1; have a2 := hm0.2.2.1; have b1 := m2.2.1; have b2 := m2.2.2.1; have d1 := m3.2.1; have d2 := m3.2.2.1
    refine g_cSh (n := 5) (exr := []) C hEv hN ⟨hp0.2.1 0, hp0.2.2 0⟩ [_, _, _, _, _] _ rfl rfl [] rfl rfl (fun sz => wc_L_total l hl B _ ν _ Ad Q hI hQ w _ _ _ _ _ hv25 D E sz) rfl gh_total gw_0 gw_1376 gw_1377 ⟨by decide +kernel, by decide +kernel, by decide +kernel⟩ ⟨rfl, rfl⟩ ⟨Nat.le_of_ble_eq_true rfl, Nat.le_of_ble_eq_true rfl⟩ (Nat.le_of_ble_eq_true rfl) dL_isTold_1033 ⟨by show (kc ν - kc ν0) + (kc v25.1.2 - kc ν) ≤ kc r0.1.1.2 - kc ν0; omega, by show (ks ν - ks ν0) + (ks v25.1.2 - ks ν) ≤ ks r0.1.1.2 - ks ν0; omega⟩ (fun r u hp hx => ?_)
    obtain ⟨er, A1, rfl, hkp⟩ := hp
    rw [er]
    try dsimp only [List.append_nil]
    refine g_widen (k := kc v25.1.2 - kc ν0) (n := ks v25.1.2 - ks ν0) (by omega) (by omega) ?_
    refine g_lv [0, 1, 2, 3, 4, 5, 6, 7] rfl ?_
    exact lb_L_isTold_1036 hl C hEv hN hr hz hI0 hQ0 (mn_trans hm0 m2) (kp_trans hp0 hm0 hkp) hmk770 hk770 h
noncomputable def b_L_isTold_1000 (k770 : MP → NC → AS → Int32 → Int32 → Int32 → Int32 → Option (((MP × NC) × AS) × Int32)) (w : Nat) (μ : MP) (ν : NC) (a : AS) (x14 : Int32) (x15 : Int32) (x16 : Int32) (x17 : Int32) (x18 : Int32) (x19 : Int32) (s0 : Int32) : Option (((MP × NC) × AS) × Int32) := (if s0 = x18 then ((f_L_total w μ ν x17 x15 x16 (1 : Int32)).bind (fun v23 => b_L_isTold_1016 k770 w v23.1.1 v23.1.2 a x14 x15 x16 x17 x19 v23.2)) else (some (((μ, ν), a), (0 : Int32))))
theorem mb_L_isTold_1000 {w : Nat} {μ : MP} {ν : NC} {a : AS} {x14 : Int32} {x15 : Int32} {x16 : Int32} {x17 : Int32} {x18 : Int32} {x19 : Int32} {s0 : Int32} {r0 : ((MP × NC) × AS) × Int32} {k770 : MP → NC → AS → Int32 → Int32 → Int32 → Int32 → Option (((MP × NC) × AS) × Int32)} (hmk770 : ∀ (μ : MP) (ν : NC) (a : AS) (z14 : Int32) (z15 : Int32) (z16 : Int32) (z17 : Int32), k770 μ ν a z14 z15 z16 z17 = some r0 → mn ν r0.1.1.2) (h : b_L_isTold_1000 k770 w μ ν a x14 x15 x16 x17 x18 x19 s0 = some r0) : mn ν r0.1.1.2 := by
  unfold b_L_isTold_1000 at h
  by_cases c1002 : s0 = x18
  · replace h := (if_pos c1002).symm.trans h
    obtain ⟨v23, hv23, h⟩ := bind_of h
    exact mn_trans (m_L_total hv23) (mb_L_isTold_1016 hmk770 h)
  · replace h := (if_neg c1002).symm.trans h
    obtain rfl := Option.some.inj h
    exact mn_rfl _
set_option maxHeartbeats 4000000 in
set_option maxRecDepth 100000 in
theorem lb_L_isTold_1000 {p : Program} {l : Launch} (hl : l.stackTraces = false) {e : Env} {s : State} {m : MethodId} {args : Array Value} {below : List Frame} {meth : Method} {c : Code} {D : va_G} {E : Nat → ClassId} {sz : Nat} {μ0 : MP} {ν0 : NC} {a0 : AS} {Ad0 : Nat → Nat → Nat} {Q : Nat → Nat} {B : Nat × (Nat → Nat)} {w : Nat} {r0 : ((MP × NC) × AS) × Int32} (C : cx p s m args meth c D E (Aof (zS μ0 ν0 a0 Ad0) [] s.heap.size) cL_isTold 22 "TradeLineLaw") (hEv : eV (Ad0 30 0) (Ad0 31 0) B (Aof (zS μ0 ν0 a0 Ad0) [] s.heap.size) s s.heap) (hN : vN s) (hr : meth.sig.returnType = (some .boolean)) (hz : s.heap.size = sz) (hI0 : lwI ν0) (hQ0 : lwQ Ad0 Q) {μ : MP} {ν : NC} {a : AS} {Ad : Nat → Nat → Nat} (hm0 : mn ν0 ν) (hp0 : kp ν0 Ad0 Ad) {x14 : Int32} {x15 : Int32} {x16 : Int32} {x17 : Int32} {x18 : Int32} {x19 : Int32} {s0 : Int32} {k770 : MP → NC → AS → Int32 → Int32 → Int32 → Int32 → Option (((MP × NC) × AS) × Int32)} (hmk770 : ∀ (μ : MP) (ν : NC) (a : AS) (z14 : Int32) (z15 : Int32) (z16 : Int32) (z17 : Int32), k770 μ ν a z14 z15 z16 z17 = some r0 → mn ν r0.1.1.2) (hk770 : ∀ (μ : MP) (ν : NC) (a : AS) (Ad : Nat → Nat → Nat) (z14 : Int32) (z15 : Int32) (z16 : Int32) (z17 : Int32), mn ν0 ν → kp ν0 Ad0 Ad → k770 μ ν a z14 z15 z16 z17 = some r0 → G p l e ({ frames := 11, cells := kc r0.1.1.2 - kc ν0, slots := ks r0.1.1.2 - ks ν0, locals := 229 } : Room) s m args below meth c D E (Aof (zS μ0 ν0 a0 Ad0) [] s.heap.size) 22 (MQ below (cQ D E sz (zS μ0 ν0 a0 Ad0) [] (pI (fun r u => r = r0.2 ∧ ∃ A1, u = (zS r0.1.1.1 r0.1.1.2 r0.1.2 A1, []) ∧ kp ν0 Ad0 A1))) args s (kc r0.1.1.2 - kc ν0) (ks r0.1.1.2 - ks ν0) (Aof (zS μ0 ν0 a0 Ad0) [] s.heap.size)) (zS μ ν a Ad) [] (kc ν - kc ν0) (ks ν - ks ν0) 770 [(0, .ref (Q 0)), (2, .ref (Q 1)), (11, .ref (Q 12)), (12, .ref (Q 13)), (14, .int z14), (15, .int z15), (16, .int z16), (17, .int z17)] []) (h : b_L_isTold_1000 k770 w μ ν a x14 x15 x16 x17 x18 x19 s0 = some r0) : G p l e ({ frames := 11, cells := kc r0.1.1.2 - kc ν0, slots := ks r0.1.1.2 - ks ν0, locals := 229 } : Room) s m args below meth c D E (Aof (zS μ0 ν0 a0 Ad0) [] s.heap.size) 22 (MQ below (cQ D E sz (zS μ0 ν0 a0 Ad0) [] (pI (fun r u => r = r0.2 ∧ ∃ A1, u = (zS r0.1.1.1 r0.1.1.2 r0.1.2 A1, []) ∧ kp ν0 Ad0 A1))) args s (kc r0.1.1.2 - kc ν0) (ks r0.1.1.2 - ks ν0) (Aof (zS μ0 ν0 a0 Ad0) [] s.heap.size)) (zS μ ν a Ad) [] (kc ν - kc ν0) (ks ν - ks ν0) 1000 [(0, .ref (Q 0)), (2, .ref (Q 1)), (11, .ref (Q 12)), (12, .ref (Q 13)), (14, .int x14), (15, .int x15), (16, .int x16), (17, .int x17), (18, .int x18), (19, .int x19)] [.int s0] := by
  have m0 := mb_L_isTold_1000 hmk770 h
  have e1 := m0.2.1; have e2 := m0.2.2.1; have e3 := hm0.2.1; have e4 := hm0.2.2.1
  have hI := lwI_mn hI0 hm0; have hQ := lwQ_kp hI0 hp0 hQ0
  unfold b_L_isTold_1000 at h
  refine g_iload C dL_isTold_1000 8 rfl ?_
  refine g_icmp_ne (tgt := 1075) C dL_isTold_1002 (by decide) (fun c1002 => ?_) (fun c1002 => ?_)
  · replace h := (if_neg c1002).symm.trans h
    refine g_iconst (v := (0 : Int32)) C dL_isTold_1075 (by decide) ?_
    obtain rfl := Option.some.inj h
    exact g_iret C hr rfl hz ⟨(hm0.2.2.2 30 (by decide) (by decide)).1, (hm0.2.2.2 31 (by decide) (by decide)).1, hp0.2.1, hp0.2.2⟩ ⟨rfl, Ad, rfl, hp0⟩ (fun j x h => by simp at h) dL_isTold_1076
  · replace h := (if_pos c1002).symm.trans h
    refine g_aload_n C dL_isTold_1005 rfl 0 rfl ?_
    refine g_iload C dL_isTold_1006 7 rfl ?_
    refine g_iload C dL_isTold_1008 5 rfl ?_
    refine g_iload C dL_isTold_1010 6 rfl ?_
    refine g_iconst (v := (1 : Int32)) C dL_isTold_1012 (by decide) ?_
    obtain ⟨v23, hv23, h⟩ := bind_of h
    have m2 := m_L_total hv23
    have m3 := mb_L_isTold_1016 hmk770 h
    have a1 := hm0.2.1; have a2 := hm0.2.2.1; have b1 := m2.2.1; have b2 := m2.2.2.1; have d1 := m3.2.1; have d2 := m3.2.2.1
    refine g_cSh (n := 5) (exr := []) C hEv hN ⟨hp0.2.1 0, hp0.2.2 0⟩ [_, _, _, _, _] _ rfl rfl [] rfl rfl (fun sz => wc_L_total l hl B _ ν _ Ad Q hI hQ w _ _ _ _ _ hv23 D E sz) rfl gh_total gw_0 gw_1376 gw_1377 ⟨by decide +kernel, by decide +kernel, by decide +kernel⟩ ⟨rfl, rfl⟩ ⟨Nat.le_of_ble_eq_true rfl, Nat.le_of_ble_eq_true rfl⟩ (Nat.le_of_ble_eq_true rfl) dL_isTold_1013 ⟨by show (kc ν - kc ν0) + (kc v23.1.2 - kc ν) ≤ kc r0.1.1.2 - kc ν0; omega, by show (ks ν - ks ν0) + (ks v23.1.2 - ks ν) ≤ ks r0.1.1.2 - ks ν0; omega⟩ (fun r u hp hx => ?_)
    obtain ⟨er, A1, rfl, hkp⟩ := hp
    rw [er]
    try dsimp only [List.append_nil]
    refine g_widen (k := kc v23.1.2 - kc ν0) (n := ks v23.1.2 - ks ν0) (by omega) (by omega) ?_
    refine g_lv [0, 1, 2, 3, 4, 5, 6, 7, 9] rfl ?_
    exact lb_L_isTold_1016 hl C hEv hN hr hz hI0 hQ0 (mn_trans hm0 m2) (kp_trans hp0 hm0 hkp) hmk770 hk770 h
noncomputable def b_L_isTold_980 (k770 : MP → NC → AS → Int32 → Int32 → Int32 → Int32 → Option (((MP × NC) × AS) × Int32)) (k785 : MP → NC → AS → Int32 → Int32 → Int32 → Int32 → Int32 → Int32 → Int32 → Option (((MP × NC) × AS) × Int32)) (w : Nat) (μ : MP) (ν : NC) (a : AS) (x14 : Int32) (x15 : Int32) (x16 : Int32) (x17 : Int32) (x18 : Int32) (x20 : Int32) (s0 : Int32) (s1 : Int32) : Option (((MP × NC) × AS) × Int32) := yl ((s1 + s0)) (fun t33 => yl (x20 + (1 : Int32)) (fun t34 => k785 μ ν a x14 x15 x16 x17 x18 t33 t34))
theorem mb_L_isTold_980 {w : Nat} {μ : MP} {ν : NC} {a : AS} {x14 : Int32} {x15 : Int32} {x16 : Int32} {x17 : Int32} {x18 : Int32} {x20 : Int32} {s0 : Int32} {s1 : Int32} {r0 : ((MP × NC) × AS) × Int32} {k770 : MP → NC → AS → Int32 → Int32 → Int32 → Int32 → Option (((MP × NC) × AS) × Int32)} {k785 : MP → NC → AS → Int32 → Int32 → Int32 → Int32 → Int32 → Int32 → Int32 → Option (((MP × NC) × AS) × Int32)} (hmk770 : ∀ (μ : MP) (ν : NC) (a : AS) (z14 : Int32) (z15 : Int32) (z16 : Int32) (z17 : Int32), k770 μ ν a z14 z15 z16 z17 = some r0 → mn ν r0.1.1.2) (hmk785 : ∀ (μ : MP) (ν : NC) (a : AS) (z14 : Int32) (z15 : Int32) (z16 : Int32) (z17 : Int32) (z18 : Int32) (z19 : Int32) (z20 : Int32), k785 μ ν a z14 z15 z16 z17 z18 z19 z20 = some r0 → mn ν r0.1.1.2) (h : b_L_isTold_980 k770 k785 w μ ν a x14 x15 x16 x17 x18 x20 s0 s1 = some r0) : mn ν r0.1.1.2 := by
  unfold b_L_isTold_980 at h
  obtain ⟨t33, et33⟩ : ∃ y, (s1 + s0) = y := ⟨_, rfl⟩
  replace h := yl_of h et33
  obtain ⟨t34, et34⟩ : ∃ y, x20 + (1 : Int32) = y := ⟨_, rfl⟩
  replace h := yl_of h et34
  exact hmk785 _ _ _ _ _ _ _ _ _ _ h
set_option maxHeartbeats 4000000 in
set_option maxRecDepth 100000 in
theorem lb_L_isTold_980 {p : Program} {l : Launch} (hl : l.stackTraces = false) {e : Env} {s : State} {m : MethodId} {args : Array Value} {below : List Frame} {meth : Method} {c : Code} {D : va_G} {E : Nat → ClassId} {sz : Nat} {μ0 : MP} {ν0 : NC} {a0 : AS} {Ad0 : Nat → Nat → Nat} {Q : Nat → Nat} {B : Nat × (Nat → Nat)} {w : Nat} {r0 : ((MP × NC) × AS) × Int32} (C : cx p s m args meth c D E (Aof (zS μ0 ν0 a0 Ad0) [] s.heap.size) cL_isTold 22 "TradeLineLaw") (hEv : eV (Ad0 30 0) (Ad0 31 0) B (Aof (zS μ0 ν0 a0 Ad0) [] s.heap.size) s s.heap) (hN : vN s) (hr : meth.sig.returnType = (some .boolean)) (hz : s.heap.size = sz) (hI0 : lwI ν0) (hQ0 : lwQ Ad0 Q) {μ : MP} {ν : NC} {a : AS} {Ad : Nat → Nat → Nat} (hm0 : mn ν0 ν) (hp0 : kp ν0 Ad0 Ad) {x14 : Int32} {x15 : Int32} {x16 : Int32} {x17 : Int32} {x18 : Int32} {x20 : Int32} {s0 : Int32} {s1 : Int32} {k770 : MP → NC → AS → Int32 → Int32 → Int32 → Int32 → Option (((MP × NC) × AS) × Int32)} {k785 : MP → NC → AS → Int32 → Int32 → Int32 → Int32 → Int32 → Int32 → Int32 → Option (((MP × NC) × AS) × Int32)} (hmk770 : ∀ (μ : MP) (ν : NC) (a : AS) (z14 : Int32) (z15 : Int32) (z16 : Int32) (z17 : Int32), k770 μ ν a z14 z15 z16 z17 = some r0 → mn ν r0.1.1.2) (hk770 : ∀ (μ : MP) (ν : NC) (a : AS) (Ad : Nat → Nat → Nat) (z14 : Int32) (z15 : Int32) (z16 : Int32) (z17 : Int32), mn ν0 ν → kp ν0 Ad0 Ad → k770 μ ν a z14 z15 z16 z17 = some r0 → G p l e ({ frames := 11, cells := kc r0.1.1.2 - kc ν0, slots := ks r0.1.1.2 - ks ν0, locals := 229 } : Room) s m args below meth c D E (Aof (zS μ0 ν0 a0 Ad0) [] s.heap.size) 22 (MQ below (cQ D E sz (zS μ0 ν0 a0 Ad0) [] (pI (fun r u => r = r0.2 ∧ ∃ A1, u = (zS r0.1.1.1 r0.1.1.2 r0.1.2 A1, []) ∧ kp ν0 Ad0 A1))) args s (kc r0.1.1.2 - kc ν0) (ks r0.1.1.2 - ks ν0) (Aof (zS μ0 ν0 a0 Ad0) [] s.heap.size)) (zS μ ν a Ad) [] (kc ν - kc ν0) (ks ν - ks ν0) 770 [(0, .ref (Q 0)), (2, .ref (Q 1)), (11, .ref (Q 12)), (12, .ref (Q 13)), (14, .int z14), (15, .int z15), (16, .int z16), (17, .int z17)] []) (hmk785 : ∀ (μ : MP) (ν : NC) (a : AS) (z14 : Int32) (z15 : Int32) (z16 : Int32) (z17 : Int32) (z18 : Int32) (z19 : Int32) (z20 : Int32), k785 μ ν a z14 z15 z16 z17 z18 z19 z20 = some r0 → mn ν r0.1.1.2) (hk785 : ∀ (μ : MP) (ν : NC) (a : AS) (Ad : Nat → Nat → Nat) (z14 : Int32) (z15 : Int32) (z16 : Int32) (z17 : Int32) (z18 : Int32) (z19 : Int32) (z20 : Int32), mn ν0 ν → kp ν0 Ad0 Ad → k785 μ ν a z14 z15 z16 z17 z18 z19 z20 = some r0 → G p l e ({ frames := 11, cells := kc r0.1.1.2 - kc ν0, slots := ks r0.1.1.2 - ks ν0, locals := 229 } : Room) s m args below meth c D E (Aof (zS μ0 ν0 a0 Ad0) [] s.heap.size) 22 (MQ below (cQ D E sz (zS μ0 ν0 a0 Ad0) [] (pI (fun r u => r = r0.2 ∧ ∃ A1, u = (zS r0.1.1.1 r0.1.1.2 r0.1.2 A1, []) ∧ kp ν0 Ad0 A1))) args s (kc r0.1.1.2 - kc ν0) (ks r0.1.1.2 - ks ν0) (Aof (zS μ0 ν0 a0 Ad0) [] s.heap.size)) (zS μ ν a Ad) [] (kc ν - kc ν0) (ks ν - ks ν0) 785 [(0, .ref (Q 0)), (2, .ref (Q 1)), (11, .ref (Q 12)), (12, .ref (Q 13)), (14, .int z14), (15, .int z15), (16, .int z16), (17, .int z17), (18, .int z18), (19, .int z19), (20, .int z20)] []) (h : b_L_isTold_980 k770 k785 w μ ν a x14 x15 x16 x17 x18 x20 s0 s1 = some r0) : G p l e ({ frames := 11, cells := kc r0.1.1.2 - kc ν0, slots := ks r0.1.1.2 - ks ν0, locals := 229 } : Room) s m args below meth c D E (Aof (zS μ0 ν0 a0 Ad0) [] s.heap.size) 22 (MQ below (cQ D E sz (zS μ0 ν0 a0 Ad0) [] (pI (fun r u => r = r0.2 ∧ ∃ A1, u = (zS r0.1.1.1 r0.1.1.2 r0.1.2 A1, []) ∧ kp ν0 Ad0 A1))) args s (kc r0.1.1.2 - kc ν0) (ks r0.1.1.2 - ks ν0) (Aof (zS μ0 ν0 a0 Ad0) [] s.heap.size)) (zS μ ν a Ad) [] (kc ν - kc ν0) (ks ν - ks ν0) 980 [(0, .ref (Q 0)), (2, .ref (Q 1)), (11, .ref (Q 12)), (12, .ref (Q 13)), (14, .int x14), (15, .int x15), (16, .int x16), (17, .int x17), (18, .int x18), (20, .int x20)] [.int s0, .int s1] := by
  have m0 := mb_L_isTold_980 hmk770 hmk785 h
  have e1 := m0.2.1; have e2 := m0.2.2.1; have e3 := hm0.2.1; have e4 := hm0.2.2.1
  have hI := lwI_mn hI0 hm0; have hQ := lwQ_kp hI0 hp0 hQ0
  unfold b_L_isTold_980 at h
  refine g_iadd C dL_isTold_980 ?_
  refine q_topi (fun t33 et33 => ?_)
  replace h := yl_of h et33
  refine g_istore (lv' := [(19, .int t33), (0, .ref (Q 0)), (2, .ref (Q 1)), (11, .ref (Q 12)), (12, .ref (Q 13)), (14, .int x14), (15, .int x15), (16, .int x16), (17, .int x17), (18, .int x18), (20, .int x20)]) C dL_isTold_981 (by decide) rfl ?_
  obtain ⟨t34, et34⟩ : ∃ y : Int32, x20 + (1 : Int32) = y := ⟨_, rfl⟩
  replace h := yl_of h et34
  refine g_iinc (v := t34) (lv' := [(20, .int t34), (19, .int t33), (0, .ref (Q 0)), (2, .ref (Q 1)), (11, .ref (Q 12)), (12, .ref (Q 13)), (14, .int x14), (15, .int x15), (16, .int x16), (17, .int x17), (18, .int x18)]) C dL_isTold_983 10 rfl (by rw [← et34]; rfl) (by decide) rfl ?_
  refine g_goto (tgt := 785) C dL_isTold_986 (by decide) ?_
  refine g_lv [2, 3, 4, 5, 6, 7, 8, 9, 10, 1, 0] rfl ?_
  exact hk785 _ _ _ _ _ _ _ _ _ _ _ hm0 hp0 h
noncomputable def b_L_isTold_972 (k770 : MP → NC → AS → Int32 → Int32 → Int32 → Int32 → Option (((MP × NC) × AS) × Int32)) (k785 : MP → NC → AS → Int32 → Int32 → Int32 → Int32 → Int32 → Int32 → Int32 → Option (((MP × NC) × AS) × Int32)) (w : Nat) (μ : MP) (ν : NC) (a : AS) (x14 : Int32) (x15 : Int32) (x16 : Int32) (x17 : Int32) (x18 : Int32) (x20 : Int32) (s0 : Int32) (s1 : Int64) (s2 : Int32) (s3 : Int32) : Option (((MP × NC) × AS) × Int32) := (f_L_price w a s1 s0).bind (fun v37 => b_L_isTold_980 k770 k785 w μ ν a x14 x15 x16 x17 x18 x20 (s2 * v37) s3)
theorem mb_L_isTold_972 {w : Nat} {μ : MP} {ν : NC} {a : AS} {x14 : Int32} {x15 : Int32} {x16 : Int32} {x17 : Int32} {x18 : Int32} {x20 : Int32} {s0 : Int32} {s1 : Int64} {s2 : Int32} {s3 : Int32} {r0 : ((MP × NC) × AS) × Int32} {k770 : MP → NC → AS → Int32 → Int32 → Int32 → Int32 → Option (((MP × NC) × AS) × Int32)} {k785 : MP → NC → AS → Int32 → Int32 → Int32 → Int32 → Int32 → Int32 → Int32 → Option (((MP × NC) × AS) × Int32)} (hmk770 : ∀ (μ : MP) (ν : NC) (a : AS) (z14 : Int32) (z15 : Int32) (z16 : Int32) (z17 : Int32), k770 μ ν a z14 z15 z16 z17 = some r0 → mn ν r0.1.1.2) (hmk785 : ∀ (μ : MP) (ν : NC) (a : AS) (z14 : Int32) (z15 : Int32) (z16 : Int32) (z17 : Int32) (z18 : Int32) (z19 : Int32) (z20 : Int32), k785 μ ν a z14 z15 z16 z17 z18 z19 z20 = some r0 → mn ν r0.1.1.2) (h : b_L_isTold_972 k770 k785 w μ ν a x14 x15 x16 x17 x18 x20 s0 s1 s2 s3 = some r0) : mn ν r0.1.1.2 := by
  unfold b_L_isTold_972 at h
  obtain ⟨v37, hv37, h⟩ := bind_of h
  exact mb_L_isTold_980 hmk770 hmk785 h
set_option maxHeartbeats 4000000 in
set_option maxRecDepth 100000 in
theorem lb_L_isTold_972 {p : Program} {l : Launch} (hl : l.stackTraces = false) {e : Env} {s : State} {m : MethodId} {args : Array Value} {below : List Frame} {meth : Method} {c : Code} {D : va_G} {E : Nat → ClassId} {sz : Nat} {μ0 : MP} {ν0 : NC} {a0 : AS} {Ad0 : Nat → Nat → Nat} {Q : Nat → Nat} {B : Nat × (Nat → Nat)} {w : Nat} {r0 : ((MP × NC) × AS) × Int32} (C : cx p s m args meth c D E (Aof (zS μ0 ν0 a0 Ad0) [] s.heap.size) cL_isTold 22 "TradeLineLaw") (hEv : eV (Ad0 30 0) (Ad0 31 0) B (Aof (zS μ0 ν0 a0 Ad0) [] s.heap.size) s s.heap) (hN : vN s) (hr : meth.sig.returnType = (some .boolean)) (hz : s.heap.size = sz) (hI0 : lwI ν0) (hQ0 : lwQ Ad0 Q) {μ : MP} {ν : NC} {a : AS} {Ad : Nat → Nat → Nat} (hm0 : mn ν0 ν) (hp0 : kp ν0 Ad0 Ad) {x14 : Int32} {x15 : Int32} {x16 : Int32} {x17 : Int32} {x18 : Int32} {x20 : Int32} {s0 : Int32} {s1 : Int64} {s2 : Int32} {s3 : Int32} {k770 : MP → NC → AS → Int32 → Int32 → Int32 → Int32 → Option (((MP × NC) × AS) × Int32)} {k785 : MP → NC → AS → Int32 → Int32 → Int32 → Int32 → Int32 → Int32 → Int32 → Option (((MP × NC) × AS) × Int32)} (hmk770 : ∀ (μ : MP) (ν : NC) (a : AS) (z14 : Int32) (z15 : Int32) (z16 : Int32) (z17 : Int32), k770 μ ν a z14 z15 z16 z17 = some r0 → mn ν r0.1.1.2) (hk770 : ∀ (μ : MP) (ν : NC) (a : AS) (Ad : Nat → Nat → Nat) (z14 : Int32) (z15 : Int32) (z16 : Int32) (z17 : Int32), mn ν0 ν → kp ν0 Ad0 Ad → k770 μ ν a z14 z15 z16 z17 = some r0 → G p l e ({ frames := 11, cells := kc r0.1.1.2 - kc ν0, slots := ks r0.1.1.2 - ks ν0, locals := 229 } : Room) s m args below meth c D E (Aof (zS μ0 ν0 a0 Ad0) [] s.heap.size) 22 (MQ below (cQ D E sz (zS μ0 ν0 a0 Ad0) [] (pI (fun r u => r = r0.2 ∧ ∃ A1, u = (zS r0.1.1.1 r0.1.1.2 r0.1.2 A1, []) ∧ kp ν0 Ad0 A1))) args s (kc r0.1.1.2 - kc ν0) (ks r0.1.1.2 - ks ν0) (Aof (zS μ0 ν0 a0 Ad0) [] s.heap.size)) (zS μ ν a Ad) [] (kc ν - kc ν0) (ks ν - ks ν0) 770 [(0, .ref (Q 0)), (2, .ref (Q 1)), (11, .ref (Q 12)), (12, .ref (Q 13)), (14, .int z14), (15, .int z15), (16, .int z16), (17, .int z17)] []) (hmk785 : ∀ (μ : MP) (ν : NC) (a : AS) (z14 : Int32) (z15 : Int32) (z16 : Int32) (z17 : Int32) (z18 : Int32) (z19 : Int32) (z20 : Int32), k785 μ ν a z14 z15 z16 z17 z18 z19 z20 = some r0 → mn ν r0.1.1.2) (hk785 : ∀ (μ : MP) (ν : NC) (a : AS) (Ad : Nat → Nat → Nat) (z14 : Int32) (z15 : Int32) (z16 : Int32) (z17 : Int32) (z18 : Int32) (z19 : Int32) (z20 : Int32), mn ν0 ν → kp ν0 Ad0 Ad → k785 μ ν a z14 z15 z16 z17 z18 z19 z20 = some r0 → G p l e ({ frames := 11, cells := kc r0.1.1.2 - kc ν0, slots := ks r0.1.1.2 - ks ν0, locals := 229 } : Room) s m args below meth c D E (Aof (zS μ0 ν0 a0 Ad0) [] s.heap.size) 22 (MQ below (cQ D E sz (zS μ0 ν0 a0 Ad0) [] (pI (fun r u => r = r0.2 ∧ ∃ A1, u = (zS r0.1.1.1 r0.1.1.2 r0.1.2 A1, []) ∧ kp ν0 Ad0 A1))) args s (kc r0.1.1.2 - kc ν0) (ks r0.1.1.2 - ks ν0) (Aof (zS μ0 ν0 a0 Ad0) [] s.heap.size)) (zS μ ν a Ad) [] (kc ν - kc ν0) (ks ν - ks ν0) 785 [(0, .ref (Q 0)), (2, .ref (Q 1)), (11, .ref (Q 12)), (12, .ref (Q 13)), (14, .int z14), (15, .int z15), (16, .int z16), (17, .int z17), (18, .int z18), (19, .int z19), (20, .int z20)] []) (h : b_L_isTold_972 k770 k785 w μ ν a x14 x15 x16 x17 x18 x20 s0 s1 s2 s3 = some r0) : G p l e ({ frames := 11, cells := kc r0.1.1.2 - kc ν0, slots := ks r0.1.1.2 - ks ν0, locals := 229 } : Room) s m args below meth c D E (Aof (zS μ0 ν0 a0 Ad0) [] s.heap.size) 22 (MQ below (cQ D E sz (zS μ0 ν0 a0 Ad0) [] (pI (fun r u => r = r0.2 ∧ ∃ A1, u = (zS r0.1.1.1 r0.1.1.2 r0.1.2 A1, []) ∧ kp ν0 Ad0 A1))) args s (kc r0.1.1.2 - kc ν0) (ks r0.1.1.2 - ks ν0) (Aof (zS μ0 ν0 a0 Ad0) [] s.heap.size)) (zS μ ν a Ad) [] (kc ν - kc ν0) (ks ν - ks ν0) 972 [(0, .ref (Q 0)), (2, .ref (Q 1)), (11, .ref (Q 12)), (12, .ref (Q 13)), (14, .int x14), (15, .int x15), (16, .int x16), (17, .int x17), (18, .int x18), (20, .int x20)] [.int s0, .long s1, .int s2, .int s3] := by
  have m0 := mb_L_isTold_972 hmk770 hmk785 h
  have e1 := m0.2.1; have e2 := m0.2.2.1; have e3 := hm0.2.1; have e4 := hm0.2.2.1
  have hI := lwI_mn hI0 hm0; have hQ := lwQ_kp hI0 hp0 hQ0
  unfold b_L_isTold_972 at h
  obtain ⟨v37, hv37, h⟩ := bind_of h
  refine g_cSi (n := 2) (exc := []) (exr := []) C [_, _] _ rfl rfl [] [] rfl rfl rfl rfl (fun _ h => absurd h (by simp)) (fun _ h => absurd h (by simp)) (fun _ h => absurd h (by simp)) (fun sz => wk_L_price l _ ν _ Ad Q hI hQ w _ _  _ hv37 D E sz) rfl gw_1021 gw_0 gw_1019 gw_1020 ⟨by decide +kernel, by decide +kernel, by decide +kernel⟩ ⟨rfl, rfl⟩ ⟨Nat.le_of_ble_eq_true rfl, Nat.le_of_ble_eq_true rfl⟩ (Nat.le_of_ble_eq_true rfl) dL_isTold_972 ⟨by show (kc ν - kc ν0) + 0 ≤ kc r0.1.1.2 - kc ν0; omega, by show (ks ν - ks ν0) + 0 ≤ ks r0.1.1.2 - ks ν0; omega⟩ (fun r u hp hx => ?_)
  obtain ⟨er, rfl⟩ := hp
  rw [er]
  try dsimp only [List.append_nil]
  refine g_imul C dL_isTold_975 ?_
  refine g_goto (tgt := 980) C dL_isTold_976 (by decide) ?_
  refine g_lv [0, 1, 2, 3, 4, 5, 6, 7, 8, 9] rfl ?_
  exact lb_L_isTold_980 hl C hEv hN hr hz hI0 hQ0 hm0 hp0 hmk770 hk770 hmk785 hk785 h
noncomputable def b_L_isTold_936 (k770 : MP → NC → AS → Int32 → Int32 → Int32 → Int32 → Option (((MP × NC) × AS) × Int32)) (k785 : MP → NC → AS → Int32 → Int32 → Int32 → Int32 → Int32 → Int32 → Int32 → Option (((MP × NC) × AS) × Int32)) (w : Nat) (μ : MP) (ν : NC) (a : AS) (x14 : Int32) (x15 : Int32) (x16 : Int32) (x17 : Int32) (x19 : Int32) (x20 : Int32) (x21 : Int32) (s0 : Int32) (s1 : Int32) : Option (((MP × NC) × AS) × Int32) := yl ((s1 + s0)) (fun t32 => (if x21 = (0 : Int32) then (b_L_isTold_980 k770 k785 w μ ν a x14 x15 x16 x17 t32 x20 (0 : Int32) x19) else (bif ixB x20 60 then (f_L_size w a (lgA a 13 x20.toNatClampNeg)).bind (fun v36 => (if x17 = (1 : Int32) then (b_L_isTold_972 k770 k785 w μ ν a x14 x15 x16 x17 t32 x20 (28 : Int32) (lgA a 13 x20.toNatClampNeg) v36 x19) else (b_L_isTold_972 k770 k785 w μ ν a x14 x15 x16 x17 t32 x20 (35 : Int32) (lgA a 13 x20.toNatClampNeg) v36 x19))) else none)))
theorem mb_L_isTold_936 {w : Nat} {μ : MP} {ν : NC} {a : AS} {x14 : Int32} {x15 : Int32} {x16 : Int32} {x17 : Int32} {x19 : Int32} {x20 : Int32} {x21 : Int32} {s0 : Int32} {s1 : Int32} {r0 : ((MP × NC) × AS) × Int32} {k770 : MP → NC → AS → Int32 → Int32 → Int32 → Int32 → Option (((MP × NC) × AS) × Int32)} {k785 : MP → NC → AS → Int32 → Int32 → Int32 → Int32 → Int32 → Int32 → Int32 → Option (((MP × NC) × AS) × Int32)} (hmk770 : ∀ (μ : MP) (ν : NC) (a : AS) (z14 : Int32) (z15 : Int32) (z16 : Int32) (z17 : Int32), k770 μ ν a z14 z15 z16 z17 = some r0 → mn ν r0.1.1.2) (hmk785 : ∀ (μ : MP) (ν : NC) (a : AS) (z14 : Int32) (z15 : Int32) (z16 : Int32) (z17 : Int32) (z18 : Int32) (z19 : Int32) (z20 : Int32), k785 μ ν a z14 z15 z16 z17 z18 z19 z20 = some r0 → mn ν r0.1.1.2) (h : b_L_isTold_936 k770 k785 w μ ν a x14 x15 x16 x17 x19 x20 x21 s0 s1 = some r0) : mn ν r0.1.1.2 := by
  unfold b_L_isTold_936 at h
  obtain ⟨t32, et32⟩ : ∃ y, (s1 + s0) = y := ⟨_, rfl⟩
  replace h := yl_of h et32
  by_cases c943 : x21 = (0 : Int32)
  · replace h := (if_pos c943).symm.trans h
    exact mb_L_isTold_980 hmk770 hmk785 h
  · replace h := (if_neg c943).symm.trans h
    replace h := (of_guard h).2
    obtain ⟨v36, hv36, h⟩ := bind_of h
    by_cases c962 : x17 = (1 : Int32)
    · replace h := (if_pos c962).symm.trans h
      exact mb_L_isTold_972 hmk770 hmk785 h
    · replace h := (if_neg c962).symm.trans h
      exact mb_L_isTold_972 hmk770 hmk785 h
set_option maxHeartbeats 4000000 in
set_option maxRecDepth 100000 in
theorem lb_L_isTold_936 {p : Program} {l : Launch} (hl : l.stackTraces = false) {e : Env} {s : State} {m : MethodId} {args : Array Value} {below : List Frame} {meth : Method} {c : Code} {D : va_G} {E : Nat → ClassId} {sz : Nat} {μ0 : MP} {ν0 : NC} {a0 : AS} {Ad0 : Nat → Nat → Nat} {Q : Nat → Nat} {B : Nat × (Nat → Nat)} {w : Nat} {r0 : ((MP × NC) × AS) × Int32} (C : cx p s m args meth c D E (Aof (zS μ0 ν0 a0 Ad0) [] s.heap.size) cL_isTold 22 "TradeLineLaw") (hEv : eV (Ad0 30 0) (Ad0 31 0) B (Aof (zS μ0 ν0 a0 Ad0) [] s.heap.size) s s.heap) (hN : vN s) (hr : meth.sig.returnType = (some .boolean)) (hz : s.heap.size = sz) (hI0 : lwI ν0) (hQ0 : lwQ Ad0 Q) {μ : MP} {ν : NC} {a : AS} {Ad : Nat → Nat → Nat} (hm0 : mn ν0 ν) (hp0 : kp ν0 Ad0 Ad) {x14 : Int32} {x15 : Int32} {x16 : Int32} {x17 : Int32} {x19 : Int32} {x20 : Int32} {x21 : Int32} {s0 : Int32} {s1 : Int32} {k770 : MP → NC → AS → Int32 → Int32 → Int32 → Int32 → Option (((MP × NC) × AS) × Int32)} {k785 : MP → NC → AS → Int32 → Int32 → Int32 → Int32 → Int32 → Int32 → Int32 → Option (((MP × NC) × AS) × Int32)} (hmk770 : ∀ (μ : MP) (ν : NC) (a : AS) (z14 : Int32) (z15 : Int32) (z16 : Int32) (z17 : Int32), k770 μ ν a z14 z15 z16 z17 = some r0 → mn ν r0.1.1.2) (hk770 : ∀ (μ : MP) (ν : NC) (a : AS) (Ad : Nat → Nat → Nat) (z14 : Int32) (z15 : Int32) (z16 : Int32) (z17 : Int32), mn ν0 ν → kp ν0 Ad0 Ad → k770 μ ν a z14 z15 z16 z17 = some r0 → G p l e ({ frames := 11, cells := kc r0.1.1.2 - kc ν0, slots := ks r0.1.1.2 - ks ν0, locals := 229 } : Room) s m args below meth c D E (Aof (zS μ0 ν0 a0 Ad0) [] s.heap.size) 22 (MQ below (cQ D E sz (zS μ0 ν0 a0 Ad0) [] (pI (fun r u => r = r0.2 ∧ ∃ A1, u = (zS r0.1.1.1 r0.1.1.2 r0.1.2 A1, []) ∧ kp ν0 Ad0 A1))) args s (kc r0.1.1.2 - kc ν0) (ks r0.1.1.2 - ks ν0) (Aof (zS μ0 ν0 a0 Ad0) [] s.heap.size)) (zS μ ν a Ad) [] (kc ν - kc ν0) (ks ν - ks ν0) 770 [(0, .ref (Q 0)), (2, .ref (Q 1)), (11, .ref (Q 12)), (12, .ref (Q 13)), (14, .int z14), (15, .int z15), (16, .int z16), (17, .int z17)] []) (hmk785 : ∀ (μ : MP) (ν : NC) (a : AS) (z14 : Int32) (z15 : Int32) (z16 : Int32) (z17 : Int32) (z18 : Int32) (z19 : Int32) (z20 : Int32), k785 μ ν a z14 z15 z16 z17 z18 z19 z20 = some r0 → mn ν r0.1.1.2) (hk785 : ∀ (μ : MP) (ν : NC) (a : AS) (Ad : Nat → Nat → Nat) (z14 : Int32) (z15 : Int32) (z16 : Int32) (z17 : Int32) (z18 : Int32) (z19 : Int32) (z20 : Int32), mn ν0 ν → kp ν0 Ad0 Ad → k785 μ ν a z14 z15 z16 z17 z18 z19 z20 = some r0 → G p l e ({ frames := 11, cells := kc r0.1.1.2 - kc ν0, slots := ks r0.1.1.2 - ks ν0, locals := 229 } : Room) s m args below meth c D E (Aof (zS μ0 ν0 a0 Ad0) [] s.heap.size) 22 (MQ below (cQ D E sz (zS μ0 ν0 a0 Ad0) [] (pI (fun r u => r = r0.2 ∧ ∃ A1, u = (zS r0.1.1.1 r0.1.1.2 r0.1.2 A1, []) ∧ kp ν0 Ad0 A1))) args s (kc r0.1.1.2 - kc ν0) (ks r0.1.1.2 - ks ν0) (Aof (zS μ0 ν0 a0 Ad0) [] s.heap.size)) (zS μ ν a Ad) [] (kc ν - kc ν0) (ks ν - ks ν0) 785 [(0, .ref (Q 0)), (2, .ref (Q 1)), (11, .ref (Q 12)), (12, .ref (Q 13)), (14, .int z14), (15, .int z15), (16, .int z16), (17, .int z17), (18, .int z18), (19, .int z19), (20, .int z20)] []) (h : b_L_isTold_936 k770 k785 w μ ν a x14 x15 x16 x17 x19 x20 x21 s0 s1 = some r0) : G p l e ({ frames := 11, cells := kc r0.1.1.2 - kc ν0, slots := ks r0.1.1.2 - ks ν0, locals := 229 } : Room) s m args below meth c D E (Aof (zS μ0 ν0 a0 Ad0) [] s.heap.size) 22 (MQ below (cQ D E sz (zS μ0 ν0 a0 Ad0) [] (pI (fun r u => r = r0.2 ∧ ∃ A1, u = (zS r0.1.1.1 r0.1.1.2 r0.1.2 A1, []) ∧ kp ν0 Ad0 A1))) args s (kc r0.1.1.2 - kc ν0) (ks r0.1.1.2 - ks ν0) (Aof (zS μ0 ν0 a0 Ad0) [] s.heap.size)) (zS μ ν a Ad) [] (kc ν - kc ν0) (ks ν - ks ν0) 936 [(0, .ref (Q 0)), (2, .ref (Q 1)), (11, .ref (Q 12)), (12, .ref (Q 13)), (14, .int x14), (15, .int x15), (16, .int x16), (17, .int x17), (19, .int x19), (20, .int x20), (21, .int x21)] [.int s0, .int s1] := by
  have m0 := mb_L_isTold_936 hmk770 hmk785 h
  have e1 := m0.2.1; have e2 := m0.2.2.1; have e3 := hm0.2.1; have e4 := hm0.2.2.1
  have hI := lwI_mn hI0 hm0; have hQ := lwQ_kp hI0 hp0 hQ0
  unfold b_L_isTold_936 at h
  refine g_iadd C dL_isTold_936 ?_
  refine q_topi (fun t32 et32 => ?_)
  replace h := yl_of h et32
  refine g_istore (lv' := [(18, .int t32), (0, .ref (Q 0)), (2, .ref (Q 1)), (11, .ref (Q 12)), (12, .ref (Q 13)), (14, .int x14), (15, .int x15), (16, .int x16), (17, .int x17), (19, .int x19), (20, .int x20), (21, .int x21)]) C dL_isTold_937 (by decide) rfl ?_
  refine g_iload C dL_isTold_939 9 rfl ?_
  refine g_iload C dL_isTold_941 11 rfl ?_
  refine g_if_eq (tgt := 979) C dL_isTold_943 (by decide) (fun c943 => ?_) (fun c943 => ?_)
  · replace h := (if_pos c943).symm.trans h
    refine g_iconst (v := (0 : Int32)) C dL_isTold_979 (by decide) ?_
    refine g_lv [1, 2, 3, 4, 5, 6, 7, 8, 0, 10] rfl ?_
    exact lb_L_isTold_980 hl C hEv hN hr hz hI0 hQ0 hm0 hp0 hmk770 hk770 hmk785 hk785 h
  · replace h := (if_neg c943).symm.trans h
    refine g_aload C dL_isTold_946 4 rfl ?_
    refine g_iload C dL_isTold_948 10 rfl ?_
    obtain ⟨g35, h⟩ := of_guard h
    refine q_lald C (show rsh (ν.1, μ.2, ν.2, Ad) from hI.2) (j := 13) (N := 60) (by decide) (lwQ_l hQ (j := 13) (N := 60) (by decide)) g35 dL_isTold_950 ?_
    obtain ⟨v36, hv36, h⟩ := bind_of h
    refine g_cSi (n := 1) (exc := []) (exr := []) C [_] _ rfl rfl [] [] rfl rfl rfl rfl (fun _ h => absurd h (by simp)) (fun _ h => absurd h (by simp)) (fun _ h => absurd h (by simp)) (fun sz => wk_L_size l _ ν _ Ad Q hI hQ w _  _ hv36 D E sz) rfl gw_1016 gw_0 gw_1014 gw_1015 ⟨by decide +kernel, by decide +kernel, by decide +kernel⟩ ⟨rfl, rfl⟩ ⟨Nat.le_of_ble_eq_true rfl, Nat.le_of_ble_eq_true rfl⟩ (Nat.le_of_ble_eq_true rfl) dL_isTold_951 ⟨by show (kc ν - kc ν0) + 0 ≤ kc r0.1.1.2 - kc ν0; omega, by show (ks ν - ks ν0) + 0 ≤ ks r0.1.1.2 - ks ν0; omega⟩ (fun r u hp hx => ?_)
    obtain ⟨er, rfl⟩ := hp
    rw [er]
    try dsimp only [List.append_nil]
    refine g_aload C dL_isTold_954 4 rfl ?_
    refine g_iload C dL_isTold_956 10 rfl ?_
    refine q_lald C (show rsh (ν.1, μ.2, ν.2, Ad) from hI.2) (j := 13) (N := 60) (by decide) (lwQ_l hQ (j := 13) (N := 60) (by decide)) g35 dL_isTold_958 ?_
    refine g_iload C dL_isTold_959 8 rfl ?_
    refine g_iconst (v := (1 : Int32)) C dL_isTold_961 (by decide) ?_
    refine g_icmp_ne (tgt := 970) C dL_isTold_962 (by decide) (fun c962 => ?_) (fun c962 => ?_)
    · replace h := (if_neg c962).symm.trans h
      refine g_bipush (v := (35 : Int32)) C dL_isTold_970 (by decide) ?_
      refine g_lv [1, 2, 3, 4, 5, 6, 7, 8, 0, 10] rfl ?_
      exact lb_L_isTold_972 hl C hEv hN hr hz hI0 hQ0 hm0 hp0 hmk770 hk770 hmk785 hk785 h
    · replace h := (if_pos c962).symm.trans h
      refine g_bipush (v := (28 : Int32)) C dL_isTold_965 (by decide) ?_
      refine g_goto (tgt := 972) C dL_isTold_967 (by decide) ?_
      refine g_lv [1, 2, 3, 4, 5, 6, 7, 8, 0, 10] rfl ?_
      exact lb_L_isTold_972 hl C hEv hN hr hz hI0 hQ0 hm0 hp0 hmk770 hk770 hmk785 hk785 h
noncomputable def b_L_isTold_914 (k770 : MP → NC → AS → Int32 → Int32 → Int32 → Int32 → Option (((MP × NC) × AS) × Int32)) (k785 : MP → NC → AS → Int32 → Int32 → Int32 → Int32 → Int32 → Int32 → Int32 → Option (((MP × NC) × AS) × Int32)) (w : Nat) (μ : MP) (ν : NC) (a : AS) (x14 : Int32) (x15 : Int32) (x16 : Int32) (x17 : Int32) (x18 : Int32) (x19 : Int32) (x20 : Int32) (s0 : Int32) (s1 : Int32) : Option (((MP × NC) × AS) × Int32) := yl ((s1 &&& s0)) (fun t31 => (if t31 = (0 : Int32) then (b_L_isTold_936 k770 k785 w μ ν a x14 x15 x16 x17 x19 x20 t31 (0 : Int32) x18) else (bif ixB x20 60 then (f_L_size w a (lgA a 13 x20.toNatClampNeg)).bind (fun v39 => b_L_isTold_936 k770 k785 w μ ν a x14 x15 x16 x17 x19 x20 t31 v39 x18) else none)))
theorem mb_L_isTold_914 {w : Nat} {μ : MP} {ν : NC} {a : AS} {x14 : Int32} {x15 : Int32} {x16 : Int32} {x17 : Int32} {x18 : Int32} {x19 : Int32} {x20 : Int32} {s0 : Int32} {s1 : Int32} {r0 : ((MP × NC) × AS) × Int32} {k770 : MP → NC → AS → Int32 → Int32 → Int32 → Int32 → Option (((MP × NC) × AS) × Int32)} {k785 : MP → NC → AS → Int32 → Int32 → Int32 → Int32 → Int32 → Int32 → Int32 → Option (((MP × NC) × AS) × Int32)} (hmk770 : ∀ (μ : MP) (ν : NC) (a : AS) (z14 : Int32) (z15 : Int32) (z16 : Int32) (z17 : Int32), k770 μ ν a z14 z15 z16 z17 = some r0 → mn ν r0.1.1.2) (hmk785 : ∀ (μ : MP) (ν : NC) (a : AS) (z14 : Int32) (z15 : Int32) (z16 : Int32) (z17 : Int32) (z18 : Int32) (z19 : Int32) (z20 : Int32), k785 μ ν a z14 z15 z16 z17 z18 z19 z20 = some r0 → mn ν r0.1.1.2) (h : b_L_isTold_914 k770 k785 w μ ν a x14 x15 x16 x17 x18 x19 x20 s0 s1 = some r0) : mn ν r0.1.1.2 := by
  unfold b_L_isTold_914 at h
  obtain ⟨t31, et31⟩ : ∃ y, (s1 &&& s0) = y := ⟨_, rfl⟩
  replace h := yl_of h et31
  by_cases c921 : t31 = (0 : Int32)
  · replace h := (if_pos c921).symm.trans h
    exact mb_L_isTold_936 hmk770 hmk785 h
  · replace h := (if_neg c921).symm.trans h
    replace h := (of_guard h).2
    obtain ⟨v39, hv39, h⟩ := bind_of h
    exact mb_L_isTold_936 hmk770 hmk785 h
set_option maxHeartbeats 4000000 in
set_option maxRecDepth 100000 in
theorem lb_L_isTold_914 {p : Program} {l : Launch} (hl : l.stackTraces = false) {e : Env} {s : State} {m : MethodId} {args : Array Value} {below : List Frame} {meth : Method} {c : Code} {D : va_G} {E : Nat → ClassId} {sz : Nat} {μ0 : MP} {ν0 : NC} {a0 : AS} {Ad0 : Nat → Nat → Nat} {Q : Nat → Nat} {B : Nat × (Nat → Nat)} {w : Nat} {r0 : ((MP × NC) × AS) × Int32} (C : cx p s m args meth c D E (Aof (zS μ0 ν0 a0 Ad0) [] s.heap.size) cL_isTold 22 "TradeLineLaw") (hEv : eV (Ad0 30 0) (Ad0 31 0) B (Aof (zS μ0 ν0 a0 Ad0) [] s.heap.size) s s.heap) (hN : vN s) (hr : meth.sig.returnType = (some .boolean)) (hz : s.heap.size = sz) (hI0 : lwI ν0) (hQ0 : lwQ Ad0 Q) {μ : MP} {ν : NC} {a : AS} {Ad : Nat → Nat → Nat} (hm0 : mn ν0 ν) (hp0 : kp ν0 Ad0 Ad) {x14 : Int32} {x15 : Int32} {x16 : Int32} {x17 : Int32} {x18 : Int32} {x19 : Int32} {x20 : Int32} {s0 : Int32} {s1 : Int32} {k770 : MP → NC → AS → Int32 → Int32 → Int32 → Int32 → Option (((MP × NC) × AS) × Int32)} {k785 : MP → NC → AS → Int32 → Int32 → Int32 → Int32 → Int32 → Int32 → Int32 → Option (((MP × NC) × AS) × Int32)} (hmk770 : ∀ (μ : MP) (ν : NC) (a : AS) (z14 : Int32) (z15 : Int32) (z16 : Int32) (z17 : Int32), k770 μ ν a z14 z15 z16 z17 = some r0 → mn ν r0.1.1.2) (hk770 : ∀ (μ : MP) (ν : NC) (a : AS) (Ad : Nat → Nat → Nat) (z14 : Int32) (z15 : Int32) (z16 : Int32) (z17 : Int32), mn ν0 ν → kp ν0 Ad0 Ad → k770 μ ν a z14 z15 z16 z17 = some r0 → G p l e ({ frames := 11, cells := kc r0.1.1.2 - kc ν0, slots := ks r0.1.1.2 - ks ν0, locals := 229 } : Room) s m args below meth c D E (Aof (zS μ0 ν0 a0 Ad0) [] s.heap.size) 22 (MQ below (cQ D E sz (zS μ0 ν0 a0 Ad0) [] (pI (fun r u => r = r0.2 ∧ ∃ A1, u = (zS r0.1.1.1 r0.1.1.2 r0.1.2 A1, []) ∧ kp ν0 Ad0 A1))) args s (kc r0.1.1.2 - kc ν0) (ks r0.1.1.2 - ks ν0) (Aof (zS μ0 ν0 a0 Ad0) [] s.heap.size)) (zS μ ν a Ad) [] (kc ν - kc ν0) (ks ν - ks ν0) 770 [(0, .ref (Q 0)), (2, .ref (Q 1)), (11, .ref (Q 12)), (12, .ref (Q 13)), (14, .int z14), (15, .int z15), (16, .int z16), (17, .int z17)] []) (hmk785 : ∀ (μ : MP) (ν : NC) (a : AS) (z14 : Int32) (z15 : Int32) (z16 : Int32) (z17 : Int32) (z18 : Int32) (z19 : Int32) (z20 : Int32), k785 μ ν a z14 z15 z16 z17 z18 z19 z20 = some r0 → mn ν r0.1.1.2) (hk785 : ∀ (μ : MP) (ν : NC) (a : AS) (Ad : Nat → Nat → Nat) (z14 : Int32) (z15 : Int32) (z16 : Int32) (z17 : Int32) (z18 : Int32) (z19 : Int32) (z20 : Int32), mn ν0 ν → kp ν0 Ad0 Ad → k785 μ ν a z14 z15 z16 z17 z18 z19 z20 = some r0 → G p l e ({ frames := 11, cells := kc r0.1.1.2 - kc ν0, slots := ks r0.1.1.2 - ks ν0, locals := 229 } : Room) s m args below meth c D E (Aof (zS μ0 ν0 a0 Ad0) [] s.heap.size) 22 (MQ below (cQ D E sz (zS μ0 ν0 a0 Ad0) [] (pI (fun r u => r = r0.2 ∧ ∃ A1, u = (zS r0.1.1.1 r0.1.1.2 r0.1.2 A1, []) ∧ kp ν0 Ad0 A1))) args s (kc r0.1.1.2 - kc ν0) (ks r0.1.1.2 - ks ν0) (Aof (zS μ0 ν0 a0 Ad0) [] s.heap.size)) (zS μ ν a Ad) [] (kc ν - kc ν0) (ks ν - ks ν0) 785 [(0, .ref (Q 0)), (2, .ref (Q 1)), (11, .ref (Q 12)), (12, .ref (Q 13)), (14, .int z14), (15, .int z15), (16, .int z16), (17, .int z17), (18, .int z18), (19, .int z19), (20, .int z20)] []) (h : b_L_isTold_914 k770 k785 w μ ν a x14 x15 x16 x17 x18 x19 x20 s0 s1 = some r0) : G p l e ({ frames := 11, cells := kc r0.1.1.2 - kc ν0, slots := ks r0.1.1.2 - ks ν0, locals := 229 } : Room) s m args below meth c D E (Aof (zS μ0 ν0 a0 Ad0) [] s.heap.size) 22 (MQ below (cQ D E sz (zS μ0 ν0 a0 Ad0) [] (pI (fun r u => r = r0.2 ∧ ∃ A1, u = (zS r0.1.1.1 r0.1.1.2 r0.1.2 A1, []) ∧ kp ν0 Ad0 A1))) args s (kc r0.1.1.2 - kc ν0) (ks r0.1.1.2 - ks ν0) (Aof (zS μ0 ν0 a0 Ad0) [] s.heap.size)) (zS μ ν a Ad) [] (kc ν - kc ν0) (ks ν - ks ν0) 914 [(0, .ref (Q 0)), (2, .ref (Q 1)), (11, .ref (Q 12)), (12, .ref (Q 13)), (14, .int x14), (15, .int x15), (16, .int x16), (17, .int x17), (18, .int x18), (19, .int x19), (20, .int x20)] [.int s0, .int s1] := by
  have m0 := mb_L_isTold_914 hmk770 hmk785 h
  have e1 := m0.2.1; have e2 := m0.2.2.1; have e3 := hm0.2.1; have e4 := hm0.2.2.1
  have hI := lwI_mn hI0 hm0; have hQ := lwQ_kp hI0 hp0 hQ0
  unfold b_L_isTold_914 at h
  refine g_iand C dL_isTold_914 ?_
  refine q_topi (fun t31 et31 => ?_)
  replace h := yl_of h et31
  refine g_istore (lv' := [(21, .int t31), (0, .ref (Q 0)), (2, .ref (Q 1)), (11, .ref (Q 12)), (12, .ref (Q 13)), (14, .int x14), (15, .int x15), (16, .int x16), (17, .int x17), (18, .int x18), (19, .int x19), (20, .int x20)]) C dL_isTold_915 (by decide) rfl ?_
  refine g_iload C dL_isTold_917 9 rfl ?_
  refine g_iload C dL_isTold_919 0 rfl ?_
  refine g_if_eq (tgt := 935) C dL_isTold_921 (by decide) (fun c921 => ?_) (fun c921 => ?_)
  · replace h := (if_pos c921).symm.trans h
    refine g_iconst (v := (0 : Int32)) C dL_isTold_935 (by decide) ?_
    refine g_lv [1, 2, 3, 4, 5, 6, 7, 8, 10, 11, 0] rfl ?_
    exact lb_L_isTold_936 hl C hEv hN hr hz hI0 hQ0 hm0 hp0 hmk770 hk770 hmk785 hk785 h
  · replace h := (if_neg c921).symm.trans h
    refine g_aload C dL_isTold_924 4 rfl ?_
    refine g_iload C dL_isTold_926 11 rfl ?_
    obtain ⟨g38, h⟩ := of_guard h
    refine q_lald C (show rsh (ν.1, μ.2, ν.2, Ad) from hI.2) (j := 13) (N := 60) (by decide) (lwQ_l hQ (j := 13) (N := 60) (by decide)) g38 dL_isTold_928 ?_
    obtain ⟨v39, hv39, h⟩ := bind_of h
    refine g_cSi (n := 1) (exc := []) (exr := []) C [_] _ rfl rfl [] [] rfl rfl rfl rfl (fun _ h => absurd h (by simp)) (fun _ h => absurd h (by simp)) (fun _ h => absurd h (by simp)) (fun sz => wk_L_size l _ ν _ Ad Q hI hQ w _  _ hv39 D E sz) rfl gw_1016 gw_0 gw_1014 gw_1015 ⟨by decide +kernel, by decide +kernel, by decide +kernel⟩ ⟨rfl, rfl⟩ ⟨Nat.le_of_ble_eq_true rfl, Nat.le_of_ble_eq_true rfl⟩ (Nat.le_of_ble_eq_true rfl) dL_isTold_929 ⟨by show (kc ν - kc ν0) + 0 ≤ kc r0.1.1.2 - kc ν0; omega, by show (ks ν - ks ν0) + 0 ≤ ks r0.1.1.2 - ks ν0; omega⟩ (fun r u hp hx => ?_)
    obtain ⟨er, rfl⟩ := hp
    rw [er]
    try dsimp only [List.append_nil]
    refine g_goto (tgt := 936) C dL_isTold_932 (by decide) ?_
    refine g_lv [1, 2, 3, 4, 5, 6, 7, 8, 10, 11, 0] rfl ?_
    exact lb_L_isTold_936 hl C hEv hN hr hz hI0 hQ0 hm0 hp0 hmk770 hk770 hmk785 hk785 h
noncomputable def b_L_isTold_913 (k770 : MP → NC → AS → Int32 → Int32 → Int32 → Int32 → Option (((MP × NC) × AS) × Int32)) (k785 : MP → NC → AS → Int32 → Int32 → Int32 → Int32 → Int32 → Int32 → Int32 → Option (((MP × NC) × AS) × Int32)) (w : Nat) (μ : MP) (ν : NC) (a : AS) (x14 : Int32) (x15 : Int32) (x16 : Int32) (x17 : Int32) (x18 : Int32) (x19 : Int32) (x20 : Int32) (s0 : Int32) : Option (((MP × NC) × AS) × Int32) := b_L_isTold_914 k770 k785 w μ ν a x14 x15 x16 x17 x18 x19 x20 (0 : Int32) s0
theorem mb_L_isTold_913 {w : Nat} {μ : MP} {ν : NC} {a : AS} {x14 : Int32} {x15 : Int32} {x16 : Int32} {x17 : Int32} {x18 : Int32} {x19 : Int32} {x20 : Int32} {s0 : Int32} {r0 : ((MP × NC) × AS) × Int32} {k770 : MP → NC → AS → Int32 → Int32 → Int32 → Int32 → Option (((MP × NC) × AS) × Int32)} {k785 : MP → NC → AS → Int32 → Int32 → Int32 → Int32 → Int32 → Int32 → Int32 → Option (((MP × NC) × AS) × Int32)} (hmk770 : ∀ (μ : MP) (ν : NC) (a : AS) (z14 : Int32) (z15 : Int32) (z16 : Int32) (z17 : Int32), k770 μ ν a z14 z15 z16 z17 = some r0 → mn ν r0.1.1.2) (hmk785 : ∀ (μ : MP) (ν : NC) (a : AS) (z14 : Int32) (z15 : Int32) (z16 : Int32) (z17 : Int32) (z18 : Int32) (z19 : Int32) (z20 : Int32), k785 μ ν a z14 z15 z16 z17 z18 z19 z20 = some r0 → mn ν r0.1.1.2) (h : b_L_isTold_913 k770 k785 w μ ν a x14 x15 x16 x17 x18 x19 x20 s0 = some r0) : mn ν r0.1.1.2 := by
  unfold b_L_isTold_913 at h
  exact mb_L_isTold_914 hmk770 hmk785 h
set_option maxHeartbeats 4000000 in
set_option maxRecDepth 100000 in
theorem lb_L_isTold_913 {p : Program} {l : Launch} (hl : l.stackTraces = false) {e : Env} {s : State} {m : MethodId} {args : Array Value} {below : List Frame} {meth : Method} {c : Code} {D : va_G} {E : Nat → ClassId} {sz : Nat} {μ0 : MP} {ν0 : NC} {a0 : AS} {Ad0 : Nat → Nat → Nat} {Q : Nat → Nat} {B : Nat × (Nat → Nat)} {w : Nat} {r0 : ((MP × NC) × AS) × Int32} (C : cx p s m args meth c D E (Aof (zS μ0 ν0 a0 Ad0) [] s.heap.size) cL_isTold 22 "TradeLineLaw") (hEv : eV (Ad0 30 0) (Ad0 31 0) B (Aof (zS μ0 ν0 a0 Ad0) [] s.heap.size) s s.heap) (hN : vN s) (hr : meth.sig.returnType = (some .boolean)) (hz : s.heap.size = sz) (hI0 : lwI ν0) (hQ0 : lwQ Ad0 Q) {μ : MP} {ν : NC} {a : AS} {Ad : Nat → Nat → Nat} (hm0 : mn ν0 ν) (hp0 : kp ν0 Ad0 Ad) {x14 : Int32} {x15 : Int32} {x16 : Int32} {x17 : Int32} {x18 : Int32} {x19 : Int32} {x20 : Int32} {s0 : Int32} {k770 : MP → NC → AS → Int32 → Int32 → Int32 → Int32 → Option (((MP × NC) × AS) × Int32)} {k785 : MP → NC → AS → Int32 → Int32 → Int32 → Int32 → Int32 → Int32 → Int32 → Option (((MP × NC) × AS) × Int32)} (hmk770 : ∀ (μ : MP) (ν : NC) (a : AS) (z14 : Int32) (z15 : Int32) (z16 : Int32) (z17 : Int32), k770 μ ν a z14 z15 z16 z17 = some r0 → mn ν r0.1.1.2) (hk770 : ∀ (μ : MP) (ν : NC) (a : AS) (Ad : Nat → Nat → Nat) (z14 : Int32) (z15 : Int32) (z16 : Int32) (z17 : Int32), mn ν0 ν → kp ν0 Ad0 Ad → k770 μ ν a z14 z15 z16 z17 = some r0 → G p l e ({ frames := 11, cells := kc r0.1.1.2 - kc ν0, slots := ks r0.1.1.2 - ks ν0, locals := 229 } : Room) s m args below meth c D E (Aof (zS μ0 ν0 a0 Ad0) [] s.heap.size) 22 (MQ below (cQ D E sz (zS μ0 ν0 a0 Ad0) [] (pI (fun r u => r = r0.2 ∧ ∃ A1, u = (zS r0.1.1.1 r0.1.1.2 r0.1.2 A1, []) ∧ kp ν0 Ad0 A1))) args s (kc r0.1.1.2 - kc ν0) (ks r0.1.1.2 - ks ν0) (Aof (zS μ0 ν0 a0 Ad0) [] s.heap.size)) (zS μ ν a Ad) [] (kc ν - kc ν0) (ks ν - ks ν0) 770 [(0, .ref (Q 0)), (2, .ref (Q 1)), (11, .ref (Q 12)), (12, .ref (Q 13)), (14, .int z14), (15, .int z15), (16, .int z16), (17, .int z17)] []) (hmk785 : ∀ (μ : MP) (ν : NC) (a : AS) (z14 : Int32) (z15 : Int32) (z16 : Int32) (z17 : Int32) (z18 : Int32) (z19 : Int32) (z20 : Int32), k785 μ ν a z14 z15 z16 z17 z18 z19 z20 = some r0 → mn ν r0.1.1.2) (hk785 : ∀ (μ : MP) (ν : NC) (a : AS) (Ad : Nat → Nat → Nat) (z14 : Int32) (z15 : Int32) (z16 : Int32) (z17 : Int32) (z18 : Int32) (z19 : Int32) (z20 : Int32), mn ν0 ν → kp ν0 Ad0 Ad → k785 μ ν a z14 z15 z16 z17 z18 z19 z20 = some r0 → G p l e ({ frames := 11, cells := kc r0.1.1.2 - kc ν0, slots := ks r0.1.1.2 - ks ν0, locals := 229 } : Room) s m args below meth c D E (Aof (zS μ0 ν0 a0 Ad0) [] s.heap.size) 22 (MQ below (cQ D E sz (zS μ0 ν0 a0 Ad0) [] (pI (fun r u => r = r0.2 ∧ ∃ A1, u = (zS r0.1.1.1 r0.1.1.2 r0.1.2 A1, []) ∧ kp ν0 Ad0 A1))) args s (kc r0.1.1.2 - kc ν0) (ks r0.1.1.2 - ks ν0) (Aof (zS μ0 ν0 a0 Ad0) [] s.heap.size)) (zS μ ν a Ad) [] (kc ν - kc ν0) (ks ν - ks ν0) 785 [(0, .ref (Q 0)), (2, .ref (Q 1)), (11, .ref (Q 12)), (12, .ref (Q 13)), (14, .int z14), (15, .int z15), (16, .int z16), (17, .int z17), (18, .int z18), (19, .int z19), (20, .int z20)] []) (h : b_L_isTold_913 k770 k785 w μ ν a x14 x15 x16 x17 x18 x19 x20 s0 = some r0) : G p l e ({ frames := 11, cells := kc r0.1.1.2 - kc ν0, slots := ks r0.1.1.2 - ks ν0, locals := 229 } : Room) s m args below meth c D E (Aof (zS μ0 ν0 a0 Ad0) [] s.heap.size) 22 (MQ below (cQ D E sz (zS μ0 ν0 a0 Ad0) [] (pI (fun r u => r = r0.2 ∧ ∃ A1, u = (zS r0.1.1.1 r0.1.1.2 r0.1.2 A1, []) ∧ kp ν0 Ad0 A1))) args s (kc r0.1.1.2 - kc ν0) (ks r0.1.1.2 - ks ν0) (Aof (zS μ0 ν0 a0 Ad0) [] s.heap.size)) (zS μ ν a Ad) [] (kc ν - kc ν0) (ks ν - ks ν0) 913 [(0, .ref (Q 0)), (2, .ref (Q 1)), (11, .ref (Q 12)), (12, .ref (Q 13)), (14, .int x14), (15, .int x15), (16, .int x16), (17, .int x17), (18, .int x18), (19, .int x19), (20, .int x20)] [.int s0] := by
  have m0 := mb_L_isTold_913 hmk770 hmk785 h
  have e1 := m0.2.1; have e2 := m0.2.2.1; have e3 := hm0.2.1; have e4 := hm0.2.2.1
  have hI := lwI_mn hI0 hm0; have hQ := lwQ_kp hI0 hp0 hQ0
  unfold b_L_isTold_913 at h
  refine g_iconst (v := (0 : Int32)) C dL_isTold_913 (by decide) ?_
  refine g_lv [0, 1, 2, 3, 4, 5, 6, 7, 8, 9, 10] rfl ?_
  exact lb_L_isTold_914 hl C hEv hN hr hz hI0 hQ0 hm0 hp0 hmk770 hk770 hmk785 hk785 h
noncomputable def b_L_isTold_846 (k770 : MP → NC → AS → Int32 → Int32 → Int32 → Int32 → Option (((MP × NC) × AS) × Int32)) (k785 : MP → NC → AS → Int32 → Int32 → Int32 → Int32 → Int32 → Int32 → Int32 → Option (((MP × NC) × AS) × Int32)) (w : Nat) (μ : MP) (ν : NC) (a : AS) (x14 : Int32) (x15 : Int32) (x16 : Int32) (x17 : Int32) (x18 : Int32) (x19 : Int32) (x20 : Int32) (s0 : Int32) : Option (((MP × NC) × AS) × Int32) := (if x17 = (1 : Int32) then (bif ixB x20 60 then (if (lcv (((lgA a 13 x20.toNatClampNeg) >>> (Int32.toInt64 (43 : Int32) &&& 63)) &&& (1 : Int64)) (0 : Int64)) = (0 : Int32) then (b_L_isTold_914 k770 k785 w μ ν a x14 x15 x16 x17 x18 x19 x20 (1 : Int32) s0) else (b_L_isTold_914 k770 k785 w μ ν a x14 x15 x16 x17 x18 x19 x20 (0 : Int32) s0)) else none) else (bif ixB x20 60 then (if (lcv (((lgA a 13 x20.toNatClampNeg) >>> (Int32.toInt64 (42 : Int32) &&& 63)) &&& (1 : Int64)) (1 : Int64)) = (0 : Int32) then ((if (lcv (((lgA a 13 x20.toNatClampNeg) >>> (Int32.toInt64 (44 : Int32) &&& 63)) &&& (1 : Int64)) (0 : Int64)) = (0 : Int32) then (b_L_isTold_914 k770 k785 w μ ν a x14 x15 x16 x17 x18 x19 x20 (1 : Int32) s0) else (b_L_isTold_913 k770 k785 w μ ν a x14 x15 x16 x17 x18 x19 x20 s0))) else (b_L_isTold_913 k770 k785 w μ ν a x14 x15 x16 x17 x18 x19 x20 s0)) else none))
theorem mb_L_isTold_846 {w : Nat} {μ : MP} {ν : NC} {a : AS} {x14 : Int32} {x15 : Int32} {x16 : Int32} {x17 : Int32} {x18 : Int32} {x19 : Int32} {x20 : Int32} {s0 : Int32} {r0 : ((MP × NC) × AS) × Int32} {k770 : MP → NC → AS → Int32 → Int32 → Int32 → Int32 → Option (((MP × NC) × AS) × Int32)} {k785 : MP → NC → AS → Int32 → Int32 → Int32 → Int32 → Int32 → Int32 → Int32 → Option (((MP × NC) × AS) × Int32)} (hmk770 : ∀ (μ : MP) (ν : NC) (a : AS) (z14 : Int32) (z15 : Int32) (z16 : Int32) (z17 : Int32), k770 μ ν a z14 z15 z16 z17 = some r0 → mn ν r0.1.1.2) (hmk785 : ∀ (μ : MP) (ν : NC) (a : AS) (z14 : Int32) (z15 : Int32) (z16 : Int32) (z17 : Int32) (z18 : Int32) (z19 : Int32) (z20 : Int32), k785 μ ν a z14 z15 z16 z17 z18 z19 z20 = some r0 → mn ν r0.1.1.2) (h : b_L_isTold_846 k770 k785 w μ ν a x14 x15 x16 x17 x18 x19 x20 s0 = some r0) : mn ν r0.1.1.2 := by
  unfold b_L_isTold_846 at h
  by_cases c853 : x17 = (1 : Int32)
  · replace h := (if_pos c853).symm.trans h
    replace h := (of_guard h).2
    by_cases c868 : (lcv (((lgA a 13 x20.toNatClampNeg) >>> (Int32.toInt64 (43 : Int32) &&& 63)) &&& (1 : Int64)) (0 : Int64)) = (0 : Int32)
    · replace h := (if_pos c868).symm.trans h
      exact mb_L_isTold_914 hmk770 hmk785 h
    · replace h := (if_neg c868).symm.trans h
      exact mb_L_isTold_914 hmk770 hmk785 h
  · replace h := (if_neg c853).symm.trans h
    replace h := (of_guard h).2
    by_cases c891 : (lcv (((lgA a 13 x20.toNatClampNeg) >>> (Int32.toInt64 (42 : Int32) &&& 63)) &&& (1 : Int64)) (1 : Int64)) = (0 : Int32)
    · replace h := (if_pos c891).symm.trans h
      by_cases c906 : (lcv (((lgA a 13 x20.toNatClampNeg) >>> (Int32.toInt64 (44 : Int32) &&& 63)) &&& (1 : Int64)) (0 : Int64)) = (0 : Int32)
      · replace h := (if_pos c906).symm.trans h
        exact mb_L_isTold_914 hmk770 hmk785 h
      · replace h := (if_neg c906).symm.trans h
        exact mb_L_isTold_913 hmk770 hmk785 h
    · replace h := (if_neg c891).symm.trans h
      exact mb_L_isTold_913 hmk770 hmk785 h
set_option maxHeartbeats 4000000 in
set_option maxRecDepth 100000 in
theorem lb_L_isTold_846 {p : Program} {l : Launch} (hl : l.stackTraces = false) {e : Env} {s : State} {m : MethodId} {args : Array Value} {below : List Frame} {meth : Method} {c : Code} {D : va_G} {E : Nat → ClassId} {sz : Nat} {μ0 : MP} {ν0 : NC} {a0 : AS} {Ad0 : Nat → Nat → Nat} {Q : Nat → Nat} {B : Nat × (Nat → Nat)} {w : Nat} {r0 : ((MP × NC) × AS) × Int32} (C : cx p s m args meth c D E (Aof (zS μ0 ν0 a0 Ad0) [] s.heap.size) cL_isTold 22 "TradeLineLaw") (hEv : eV (Ad0 30 0) (Ad0 31 0) B (Aof (zS μ0 ν0 a0 Ad0) [] s.heap.size) s s.heap) (hN : vN s) (hr : meth.sig.returnType = (some .boolean)) (hz : s.heap.size = sz) (hI0 : lwI ν0) (hQ0 : lwQ Ad0 Q) {μ : MP} {ν : NC} {a : AS} {Ad : Nat → Nat → Nat} (hm0 : mn ν0 ν) (hp0 : kp ν0 Ad0 Ad) {x14 : Int32} {x15 : Int32} {x16 : Int32} {x17 : Int32} {x18 : Int32} {x19 : Int32} {x20 : Int32} {s0 : Int32} {k770 : MP → NC → AS → Int32 → Int32 → Int32 → Int32 → Option (((MP × NC) × AS) × Int32)} {k785 : MP → NC → AS → Int32 → Int32 → Int32 → Int32 → Int32 → Int32 → Int32 → Option (((MP × NC) × AS) × Int32)} (hmk770 : ∀ (μ : MP) (ν : NC) (a : AS) (z14 : Int32) (z15 : Int32) (z16 : Int32) (z17 : Int32), k770 μ ν a z14 z15 z16 z17 = some r0 → mn ν r0.1.1.2) (hk770 : ∀ (μ : MP) (ν : NC) (a : AS) (Ad : Nat → Nat → Nat) (z14 : Int32) (z15 : Int32) (z16 : Int32) (z17 : Int32), mn ν0 ν → kp ν0 Ad0 Ad → k770 μ ν a z14 z15 z16 z17 = some r0 → G p l e ({ frames := 11, cells := kc r0.1.1.2 - kc ν0, slots := ks r0.1.1.2 - ks ν0, locals := 229 } : Room) s m args below meth c D E (Aof (zS μ0 ν0 a0 Ad0) [] s.heap.size) 22 (MQ below (cQ D E sz (zS μ0 ν0 a0 Ad0) [] (pI (fun r u => r = r0.2 ∧ ∃ A1, u = (zS r0.1.1.1 r0.1.1.2 r0.1.2 A1, []) ∧ kp ν0 Ad0 A1))) args s (kc r0.1.1.2 - kc ν0) (ks r0.1.1.2 - ks ν0) (Aof (zS μ0 ν0 a0 Ad0) [] s.heap.size)) (zS μ ν a Ad) [] (kc ν - kc ν0) (ks ν - ks ν0) 770 [(0, .ref (Q 0)), (2, .ref (Q 1)), (11, .ref (Q 12)), (12, .ref (Q 13)), (14, .int z14), (15, .int z15), (16, .int z16), (17, .int z17)] []) (hmk785 : ∀ (μ : MP) (ν : NC) (a : AS) (z14 : Int32) (z15 : Int32) (z16 : Int32) (z17 : Int32) (z18 : Int32) (z19 : Int32) (z20 : Int32), k785 μ ν a z14 z15 z16 z17 z18 z19 z20 = some r0 → mn ν r0.1.1.2) (hk785 : ∀ (μ : MP) (ν : NC) (a : AS) (Ad : Nat → Nat → Nat) (z14 : Int32) (z15 : Int32) (z16 : Int32) (z17 : Int32) (z18 : Int32) (z19 : Int32) (z20 : Int32), mn ν0 ν → kp ν0 Ad0 Ad → k785 μ ν a z14 z15 z16 z17 z18 z19 z20 = some r0 → G p l e ({ frames := 11, cells := kc r0.1.1.2 - kc ν0, slots := ks r0.1.1.2 - ks ν0, locals := 229 } : Room) s m args below meth c D E (Aof (zS μ0 ν0 a0 Ad0) [] s.heap.size) 22 (MQ below (cQ D E sz (zS μ0 ν0 a0 Ad0) [] (pI (fun r u => r = r0.2 ∧ ∃ A1, u = (zS r0.1.1.1 r0.1.1.2 r0.1.2 A1, []) ∧ kp ν0 Ad0 A1))) args s (kc r0.1.1.2 - kc ν0) (ks r0.1.1.2 - ks ν0) (Aof (zS μ0 ν0 a0 Ad0) [] s.heap.size)) (zS μ ν a Ad) [] (kc ν - kc ν0) (ks ν - ks ν0) 785 [(0, .ref (Q 0)), (2, .ref (Q 1)), (11, .ref (Q 12)), (12, .ref (Q 13)), (14, .int z14), (15, .int z15), (16, .int z16), (17, .int z17), (18, .int z18), (19, .int z19), (20, .int z20)] []) (h : b_L_isTold_846 k770 k785 w μ ν a x14 x15 x16 x17 x18 x19 x20 s0 = some r0) : G p l e ({ frames := 11, cells := kc r0.1.1.2 - kc ν0, slots := ks r0.1.1.2 - ks ν0, locals := 229 } : Room) s m args below meth c D E (Aof (zS μ0 ν0 a0 Ad0) [] s.heap.size) 22 (MQ below (cQ D E sz (zS μ0 ν0 a0 Ad0) [] (pI (fun r u => r = r0.2 ∧ ∃ A1, u = (zS r0.1.1.1 r0.1.1.2 r0.1.2 A1, []) ∧ kp ν0 Ad0 A1))) args s (kc r0.1.1.2 - kc ν0) (ks r0.1.1.2 - ks ν0) (Aof (zS μ0 ν0 a0 Ad0) [] s.heap.size)) (zS μ ν a Ad) [] (kc ν - kc ν0) (ks ν - ks ν0) 846 [(0, .ref (Q 0)), (2, .ref (Q 1)), (11, .ref (Q 12)), (12, .ref (Q 13)), (14, .int x14), (15, .int x15), (16, .int x16), (17, .int x17), (18, .int x18), (19, .int x19), (20, .int x20)] [.int s0] := by
  have m0 := mb_L_isTold_846 hmk770 hmk785 h
  have e1 := m0.2.1; have e2 := m0.2.2.1; have e3 := hm0.2.1; have e4 := hm0.2.2.1
  have hI := lwI_mn hI0 hm0; have hQ := lwQ_kp hI0 hp0 hQ0
  unfold b_L_isTold_846 at h
  refine g_istore (lv' := [(21, .int s0), (0, .ref (Q 0)), (2, .ref (Q 1)), (11, .ref (Q 12)), (12, .ref (Q 13)), (14, .int x14), (15, .int x15), (16, .int x16), (17, .int x17), (18, .int x18), (19, .int x19), (20, .int x20)]) C dL_isTold_846 (by decide) rfl ?_
  refine g_iload C dL_isTold_848 0 rfl ?_
  refine g_iload C dL_isTold_850 8 rfl ?_
  refine g_iconst (v := (1 : Int32)) C dL_isTold_852 (by decide) ?_
  refine g_icmp_ne (tgt := 879) C dL_isTold_853 (by decide) (fun c853 => ?_) (fun c853 => ?_)
  · replace h := (if_neg c853).symm.trans h
    refine g_aload C dL_isTold_879 4 rfl ?_
    refine g_iload C dL_isTold_881 11 rfl ?_
    obtain ⟨g30, h⟩ := of_guard h
    refine q_lald C (show rsh (ν.1, μ.2, ν.2, Ad) from hI.2) (j := 13) (N := 60) (by decide) (lwQ_l hQ (j := 13) (N := 60) (by decide)) g30 dL_isTold_883 ?_
    refine g_bipush (v := (42 : Int32)) C dL_isTold_884 (by decide) ?_
    refine g_lshr C dL_isTold_886 ?_
    refine g_lconst (v := (1 : Int64)) C dL_isTold_887 (by decide) ?_
    refine g_land C dL_isTold_888 ?_
    refine g_lconst (v := (1 : Int64)) C dL_isTold_889 (by decide) ?_
    refine g_lcmp C dL_isTold_890 ?_
    refine g_if_ne (tgt := 913) C dL_isTold_891 (by decide) (fun c891 => ?_) (fun c891 => ?_)
    · replace h := (if_neg c891).symm.trans h
      refine g_lv [1, 2, 3, 4, 5, 6, 7, 8, 9, 10, 11] rfl ?_
      exact lb_L_isTold_913 hl C hEv hN hr hz hI0 hQ0 hm0 hp0 hmk770 hk770 hmk785 hk785 h
    · replace h := (if_pos c891).symm.trans h
      refine g_aload C dL_isTold_894 4 rfl ?_
      refine g_iload C dL_isTold_896 11 rfl ?_
      refine q_lald C (show rsh (ν.1, μ.2, ν.2, Ad) from hI.2) (j := 13) (N := 60) (by decide) (lwQ_l hQ (j := 13) (N := 60) (by decide)) g30 dL_isTold_898 ?_
      refine g_bipush (v := (44 : Int32)) C dL_isTold_899 (by decide) ?_
      refine g_lshr C dL_isTold_901 ?_
      refine g_lconst (v := (1 : Int64)) C dL_isTold_902 (by decide) ?_
      refine g_land C dL_isTold_903 ?_
      refine g_lconst (v := (0 : Int64)) C dL_isTold_904 (by decide) ?_
      refine g_lcmp C dL_isTold_905 ?_
      refine g_if_ne (tgt := 913) C dL_isTold_906 (by decide) (fun c906 => ?_) (fun c906 => ?_)
      · replace h := (if_neg c906).symm.trans h
        refine g_lv [1, 2, 3, 4, 5, 6, 7, 8, 9, 10, 11] rfl ?_
        exact lb_L_isTold_913 hl C hEv hN hr hz hI0 hQ0 hm0 hp0 hmk770 hk770 hmk785 hk785 h
      · replace h := (if_pos c906).symm.trans h
        refine g_iconst (v := (1 : Int32)) C dL_isTold_909 (by decide) ?_
        refine g_goto (tgt := 914) C dL_isTold_910 (by decide) ?_
        refine g_lv [1, 2, 3, 4, 5, 6, 7, 8, 9, 10, 11] rfl ?_
        exact lb_L_isTold_914 hl C hEv hN hr hz hI0 hQ0 hm0 hp0 hmk770 hk770 hmk785 hk785 h
  · replace h := (if_pos c853).symm.trans h
    refine g_aload C dL_isTold_856 4 rfl ?_
    refine g_iload C dL_isTold_858 11 rfl ?_
    obtain ⟨g40, h⟩ := of_guard h
    refine q_lald C (show rsh (ν.1, μ.2, ν.2, Ad) from hI.2) (j := 13) (N := 60) (by decide) (lwQ_l hQ (j := 13) (N := 60) (by decide)) g40 dL_isTold_860 ?_
    refine g_bipush (v := (43 : Int32)) C dL_isTold_861 (by decide) ?_
    refine g_lshr C dL_isTold_863 ?_
    refine g_lconst (v := (1 : Int64)) C dL_isTold_864 (by decide) ?_
    refine g_land C dL_isTold_865 ?_
    refine g_lconst (v := (0 : Int64)) C dL_isTold_866 (by decide) ?_
    refine g_lcmp C dL_isTold_867 ?_
    refine g_if_ne (tgt := 875) C dL_isTold_868 (by decide) (fun c868 => ?_) (fun c868 => ?_)
    · replace h := (if_neg c868).symm.trans h
      refine g_iconst (v := (0 : Int32)) C dL_isTold_875 (by decide) ?_
      refine g_goto (tgt := 914) C dL_isTold_876 (by decide) ?_
      refine g_lv [1, 2, 3, 4, 5, 6, 7, 8, 9, 10, 11] rfl ?_
      exact lb_L_isTold_914 hl C hEv hN hr hz hI0 hQ0 hm0 hp0 hmk770 hk770 hmk785 hk785 h
    · replace h := (if_pos c868).symm.trans h
      refine g_iconst (v := (1 : Int32)) C dL_isTold_871 (by decide) ?_
      refine g_goto (tgt := 914) C dL_isTold_872 (by decide) ?_
      refine g_lv [1, 2, 3, 4, 5, 6, 7, 8, 9, 10, 11] rfl ?_
      exact lb_L_isTold_914 hl C hEv hN hr hz hI0 hQ0 hm0 hp0 hmk770 hk770 hmk785 hk785 h
noncomputable def b_L_isTold_845 (k770 : MP → NC → AS → Int32 → Int32 → Int32 → Int32 → Option (((MP × NC) × AS) × Int32)) (k785 : MP → NC → AS → Int32 → Int32 → Int32 → Int32 → Int32 → Int32 → Int32 → Option (((MP × NC) × AS) × Int32)) (w : Nat) (μ : MP) (ν : NC) (a : AS) (x14 : Int32) (x15 : Int32) (x16 : Int32) (x17 : Int32) (x18 : Int32) (x19 : Int32) (x20 : Int32)  : Option (((MP × NC) × AS) × Int32) := b_L_isTold_846 k770 k785 w μ ν a x14 x15 x16 x17 x18 x19 x20 (0 : Int32)
theorem mb_L_isTold_845 {w : Nat} {μ : MP} {ν : NC} {a : AS} {x14 : Int32} {x15 : Int32} {x16 : Int32} {x17 : Int32} {x18 : Int32} {x19 : Int32} {x20 : Int32}  {r0 : ((MP × NC) × AS) × Int32} {k770 : MP → NC → AS → Int32 → Int32 → Int32 → Int32 → Option (((MP × NC) × AS) × Int32)} {k785 : MP → NC → AS → Int32 → Int32 → Int32 → Int32 → Int32 → Int32 → Int32 → Option (((MP × NC) × AS) × Int32)} (hmk770 : ∀ (μ : MP) (ν : NC) (a : AS) (z14 : Int32) (z15 : Int32) (z16 : Int32) (z17 : Int32), k770 μ ν a z14 z15 z16 z17 = some r0 → mn ν r0.1.1.2) (hmk785 : ∀ (μ : MP) (ν : NC) (a : AS) (z14 : Int32) (z15 : Int32) (z16 : Int32) (z17 : Int32) (z18 : Int32) (z19 : Int32) (z20 : Int32), k785 μ ν a z14 z15 z16 z17 z18 z19 z20 = some r0 → mn ν r0.1.1.2) (h : b_L_isTold_845 k770 k785 w μ ν a x14 x15 x16 x17 x18 x19 x20  = some r0) : mn ν r0.1.1.2 := by
  unfold b_L_isTold_845 at h
  exact mb_L_isTold_846 hmk770 hmk785 h
set_option maxHeartbeats 4000000 in
set_option maxRecDepth 100000 in
theorem lb_L_isTold_845 {p : Program} {l : Launch} (hl : l.stackTraces = false) {e : Env} {s : State} {m : MethodId} {args : Array Value} {below : List Frame} {meth : Method} {c : Code} {D : va_G} {E : Nat → ClassId} {sz : Nat} {μ0 : MP} {ν0 : NC} {a0 : AS} {Ad0 : Nat → Nat → Nat} {Q : Nat → Nat} {B : Nat × (Nat → Nat)} {w : Nat} {r0 : ((MP × NC) × AS) × Int32} (C : cx p s m args meth c D E (Aof (zS μ0 ν0 a0 Ad0) [] s.heap.size) cL_isTold 22 "TradeLineLaw") (hEv : eV (Ad0 30 0) (Ad0 31 0) B (Aof (zS μ0 ν0 a0 Ad0) [] s.heap.size) s s.heap) (hN : vN s) (hr : meth.sig.returnType = (some .boolean)) (hz : s.heap.size = sz) (hI0 : lwI ν0) (hQ0 : lwQ Ad0 Q) {μ : MP} {ν : NC} {a : AS} {Ad : Nat → Nat → Nat} (hm0 : mn ν0 ν) (hp0 : kp ν0 Ad0 Ad) {x14 : Int32} {x15 : Int32} {x16 : Int32} {x17 : Int32} {x18 : Int32} {x19 : Int32} {x20 : Int32}  {k770 : MP → NC → AS → Int32 → Int32 → Int32 → Int32 → Option (((MP × NC) × AS) × Int32)} {k785 : MP → NC → AS → Int32 → Int32 → Int32 → Int32 → Int32 → Int32 → Int32 → Option (((MP × NC) × AS) × Int32)} (hmk770 : ∀ (μ : MP) (ν : NC) (a : AS) (z14 : Int32) (z15 : Int32) (z16 : Int32) (z17 : Int32), k770 μ ν a z14 z15 z16 z17 = some r0 → mn ν r0.1.1.2) (hk770 : ∀ (μ : MP) (ν : NC) (a : AS) (Ad : Nat → Nat → Nat) (z14 : Int32) (z15 : Int32) (z16 : Int32) (z17 : Int32), mn ν0 ν → kp ν0 Ad0 Ad → k770 μ ν a z14 z15 z16 z17 = some r0 → G p l e ({ frames := 11, cells := kc r0.1.1.2 - kc ν0, slots := ks r0.1.1.2 - ks ν0, locals := 229 } : Room) s m args below meth c D E (Aof (zS μ0 ν0 a0 Ad0) [] s.heap.size) 22 (MQ below (cQ D E sz (zS μ0 ν0 a0 Ad0) [] (pI (fun r u => r = r0.2 ∧ ∃ A1, u = (zS r0.1.1.1 r0.1.1.2 r0.1.2 A1, []) ∧ kp ν0 Ad0 A1))) args s (kc r0.1.1.2 - kc ν0) (ks r0.1.1.2 - ks ν0) (Aof (zS μ0 ν0 a0 Ad0) [] s.heap.size)) (zS μ ν a Ad) [] (kc ν - kc ν0) (ks ν - ks ν0) 770 [(0, .ref (Q 0)), (2, .ref (Q 1)), (11, .ref (Q 12)), (12, .ref (Q 13)), (14, .int z14), (15, .int z15), (16, .int z16), (17, .int z17)] []) (hmk785 : ∀ (μ : MP) (ν : NC) (a : AS) (z14 : Int32) (z15 : Int32) (z16 : Int32) (z17 : Int32) (z18 : Int32) (z19 : Int32) (z20 : Int32), k785 μ ν a z14 z15 z16 z17 z18 z19 z20 = some r0 → mn ν r0.1.1.2) (hk785 : ∀ (μ : MP) (ν : NC) (a : AS) (Ad : Nat → Nat → Nat) (z14 : Int32) (z15 : Int32) (z16 : Int32) (z17 : Int32) (z18 : Int32) (z19 : Int32) (z20 : Int32), mn ν0 ν → kp ν0 Ad0 Ad → k785 μ ν a z14 z15 z16 z17 z18 z19 z20 = some r0 → G p l e ({ frames := 11, cells := kc r0.1.1.2 - kc ν0, slots := ks r0.1.1.2 - ks ν0, locals := 229 } : Room) s m args below meth c D E (Aof (zS μ0 ν0 a0 Ad0) [] s.heap.size) 22 (MQ below (cQ D E sz (zS μ0 ν0 a0 Ad0) [] (pI (fun r u => r = r0.2 ∧ ∃ A1, u = (zS r0.1.1.1 r0.1.1.2 r0.1.2 A1, []) ∧ kp ν0 Ad0 A1))) args s (kc r0.1.1.2 - kc ν0) (ks r0.1.1.2 - ks ν0) (Aof (zS μ0 ν0 a0 Ad0) [] s.heap.size)) (zS μ ν a Ad) [] (kc ν - kc ν0) (ks ν - ks ν0) 785 [(0, .ref (Q 0)), (2, .ref (Q 1)), (11, .ref (Q 12)), (12, .ref (Q 13)), (14, .int z14), (15, .int z15), (16, .int z16), (17, .int z17), (18, .int z18), (19, .int z19), (20, .int z20)] []) (h : b_L_isTold_845 k770 k785 w μ ν a x14 x15 x16 x17 x18 x19 x20  = some r0) : G p l e ({ frames := 11, cells := kc r0.1.1.2 - kc ν0, slots := ks r0.1.1.2 - ks ν0, locals := 229 } : Room) s m args below meth c D E (Aof (zS μ0 ν0 a0 Ad0) [] s.heap.size) 22 (MQ below (cQ D E sz (zS μ0 ν0 a0 Ad0) [] (pI (fun r u => r = r0.2 ∧ ∃ A1, u = (zS r0.1.1.1 r0.1.1.2 r0.1.2 A1, []) ∧ kp ν0 Ad0 A1))) args s (kc r0.1.1.2 - kc ν0) (ks r0.1.1.2 - ks ν0) (Aof (zS μ0 ν0 a0 Ad0) [] s.heap.size)) (zS μ ν a Ad) [] (kc ν - kc ν0) (ks ν - ks ν0) 845 [(0, .ref (Q 0)), (2, .ref (Q 1)), (11, .ref (Q 12)), (12, .ref (Q 13)), (14, .int x14), (15, .int x15), (16, .int x16), (17, .int x17), (18, .int x18), (19, .int x19), (20, .int x20)] [] := by
  have m0 := mb_L_isTold_845 hmk770 hmk785 h
  have e1 := m0.2.1; have e2 := m0.2.2.1; have e3 := hm0.2.1; have e4 := hm0.2.2.1
  have hI := lwI_mn hI0 hm0; have hQ := lwQ_kp hI0 hp0 hQ0
  unfold b_L_isTold_845 at h
  refine g_iconst (v := (0 : Int32)) C dL_isTold_845 (by decide) ?_
  refine g_lv [0, 1, 2, 3, 4, 5, 6, 7, 8, 9, 10] rfl ?_
  exact lb_L_isTold_846 hl C hEv hN hr hz hI0 hQ0 hm0 hp0 hmk770 hk770 hmk785 hk785 h
noncomputable def b_L_isTold_838 (k770 : MP → NC → AS → Int32 → Int32 → Int32 → Int32 → Option (((MP × NC) × AS) × Int32)) (k785 : MP → NC → AS → Int32 → Int32 → Int32 → Int32 → Int32 → Int32 → Int32 → Option (((MP × NC) × AS) × Int32)) (w : Nat) (μ : MP) (ν : NC) (a : AS) (x14 : Int32) (x15 : Int32) (x16 : Int32) (x17 : Int32) (x18 : Int32) (x19 : Int32) (x20 : Int32) (s0 : Int32) (s1 : Int32) : Option (((MP × NC) × AS) × Int32) := (if s1 = s0 then (b_L_isTold_846 k770 k785 w μ ν a x14 x15 x16 x17 x18 x19 x20 (1 : Int32)) else (b_L_isTold_845 k770 k785 w μ ν a x14 x15 x16 x17 x18 x19 x20))
theorem mb_L_isTold_838 {w : Nat} {μ : MP} {ν : NC} {a : AS} {x14 : Int32} {x15 : Int32} {x16 : Int32} {x17 : Int32} {x18 : Int32} {x19 : Int32} {x20 : Int32} {s0 : Int32} {s1 : Int32} {r0 : ((MP × NC) × AS) × Int32} {k770 : MP → NC → AS → Int32 → Int32 → Int32 → Int32 → Option (((MP × NC) × AS) × Int32)} {k785 : MP → NC → AS → Int32 → Int32 → Int32 → Int32 → Int32 → Int32 → Int32 → Option (((MP × NC) × AS) × Int32)} (hmk770 : ∀ (μ : MP) (ν : NC) (a : AS) (z14 : Int32) (z15 : Int32) (z16 : Int32) (z17 : Int32), k770 μ ν a z14 z15 z16 z17 = some r0 → mn ν r0.1.1.2) (hmk785 : ∀ (μ : MP) (ν : NC) (a : AS) (z14 : Int32) (z15 : Int32) (z16 : Int32) (z17 : Int32) (z18 : Int32) (z19 : Int32) (z20 : Int32), k785 μ ν a z14 z15 z16 z17 z18 z19 z20 = some r0 → mn ν r0.1.1.2) (h : b_L_isTold_838 k770 k785 w μ ν a x14 x15 x16 x17 x18 x19 x20 s0 s1 = some r0) : mn ν r0.1.1.2 := by
  unfold b_L_isTold_838 at h
  by_cases c838 : s1 = s0
  · replace h := (if_pos c838).symm.trans h
    exact mb_L_isTold_846 hmk770 hmk785 h
  · replace h := (if_neg c838).symm.trans h
    exact mb_L_isTold_845 hmk770 hmk785 h
set_option maxHeartbeats 4000000 in
set_option maxRecDepth 100000 in
theorem lb_L_isTold_838 {p : Program} {l : Launch} (hl : l.stackTraces = false) {e : Env} {s : State} {m : MethodId} {args : Array Value} {below : List Frame} {meth : Method} {c : Code} {D : va_G} {E : Nat → ClassId} {sz : Nat} {μ0 : MP} {ν0 : NC} {a0 : AS} {Ad0 : Nat → Nat → Nat} {Q : Nat → Nat} {B : Nat × (Nat → Nat)} {w : Nat} {r0 : ((MP × NC) × AS) × Int32} (C : cx p s m args meth c D E (Aof (zS μ0 ν0 a0 Ad0) [] s.heap.size) cL_isTold 22 "TradeLineLaw") (hEv : eV (Ad0 30 0) (Ad0 31 0) B (Aof (zS μ0 ν0 a0 Ad0) [] s.heap.size) s s.heap) (hN : vN s) (hr : meth.sig.returnType = (some .boolean)) (hz : s.heap.size = sz) (hI0 : lwI ν0) (hQ0 : lwQ Ad0 Q) {μ : MP} {ν : NC} {a : AS} {Ad : Nat → Nat → Nat} (hm0 : mn ν0 ν) (hp0 : kp ν0 Ad0 Ad) {x14 : Int32} {x15 : Int32} {x16 : Int32} {x17 : Int32} {x18 : Int32} {x19 : Int32} {x20 : Int32} {s0 : Int32} {s1 : Int32} {k770 : MP → NC → AS → Int32 → Int32 → Int32 → Int32 → Option (((MP × NC) × AS) × Int32)} {k785 : MP → NC → AS → Int32 → Int32 → Int32 → Int32 → Int32 → Int32 → Int32 → Option (((MP × NC) × AS) × Int32)} (hmk770 : ∀ (μ : MP) (ν : NC) (a : AS) (z14 : Int32) (z15 : Int32) (z16 : Int32) (z17 : Int32), k770 μ ν a z14 z15 z16 z17 = some r0 → mn ν r0.1.1.2) (hk770 : ∀ (μ : MP) (ν : NC) (a : AS) (Ad : Nat → Nat → Nat) (z14 : Int32) (z15 : Int32) (z16 : Int32) (z17 : Int32), mn ν0 ν → kp ν0 Ad0 Ad → k770 μ ν a z14 z15 z16 z17 = some r0 → G p l e ({ frames := 11, cells := kc r0.1.1.2 - kc ν0, slots := ks r0.1.1.2 - ks ν0, locals := 229 } : Room) s m args below meth c D E (Aof (zS μ0 ν0 a0 Ad0) [] s.heap.size) 22 (MQ below (cQ D E sz (zS μ0 ν0 a0 Ad0) [] (pI (fun r u => r = r0.2 ∧ ∃ A1, u = (zS r0.1.1.1 r0.1.1.2 r0.1.2 A1, []) ∧ kp ν0 Ad0 A1))) args s (kc r0.1.1.2 - kc ν0) (ks r0.1.1.2 - ks ν0) (Aof (zS μ0 ν0 a0 Ad0) [] s.heap.size)) (zS μ ν a Ad) [] (kc ν - kc ν0) (ks ν - ks ν0) 770 [(0, .ref (Q 0)), (2, .ref (Q 1)), (11, .ref (Q 12)), (12, .ref (Q 13)), (14, .int z14), (15, .int z15), (16, .int z16), (17, .int z17)] []) (hmk785 : ∀ (μ : MP) (ν : NC) (a : AS) (z14 : Int32) (z15 : Int32) (z16 : Int32) (z17 : Int32) (z18 : Int32) (z19 : Int32) (z20 : Int32), k785 μ ν a z14 z15 z16 z17 z18 z19 z20 = some r0 → mn ν r0.1.1.2) (hk785 : ∀ (μ : MP) (ν : NC) (a : AS) (Ad : Nat → Nat → Nat) (z14 : Int32) (z15 : Int32) (z16 : Int32) (z17 : Int32) (z18 : Int32) (z19 : Int32) (z20 : Int32), mn ν0 ν → kp ν0 Ad0 Ad → k785 μ ν a z14 z15 z16 z17 z18 z19 z20 = some r0 → G p l e ({ frames := 11, cells := kc r0.1.1.2 - kc ν0, slots := ks r0.1.1.2 - ks ν0, locals := 229 } : Room) s m args below meth c D E (Aof (zS μ0 ν0 a0 Ad0) [] s.heap.size) 22 (MQ below (cQ D E sz (zS μ0 ν0 a0 Ad0) [] (pI (fun r u => r = r0.2 ∧ ∃ A1, u = (zS r0.1.1.1 r0.1.1.2 r0.1.2 A1, []) ∧ kp ν0 Ad0 A1))) args s (kc r0.1.1.2 - kc ν0) (ks r0.1.1.2 - ks ν0) (Aof (zS μ0 ν0 a0 Ad0) [] s.heap.size)) (zS μ ν a Ad) [] (kc ν - kc ν0) (ks ν - ks ν0) 785 [(0, .ref (Q 0)), (2, .ref (Q 1)), (11, .ref (Q 12)), (12, .ref (Q 13)), (14, .int z14), (15, .int z15), (16, .int z16), (17, .int z17), (18, .int z18), (19, .int z19), (20, .int z20)] []) (h : b_L_isTold_838 k770 k785 w μ ν a x14 x15 x16 x17 x18 x19 x20 s0 s1 = some r0) : G p l e ({ frames := 11, cells := kc r0.1.1.2 - kc ν0, slots := ks r0.1.1.2 - ks ν0, locals := 229 } : Room) s m args below meth c D E (Aof (zS μ0 ν0 a0 Ad0) [] s.heap.size) 22 (MQ below (cQ D E sz (zS μ0 ν0 a0 Ad0) [] (pI (fun r u => r = r0.2 ∧ ∃ A1, u = (zS r0.1.1.1 r0.1.1.2 r0.1.2 A1, []) ∧ kp ν0 Ad0 A1))) args s (kc r0.1.1.2 - kc ν0) (ks r0.1.1.2 - ks ν0) (Aof (zS μ0 ν0 a0 Ad0) [] s.heap.size)) (zS μ ν a Ad) [] (kc ν - kc ν0) (ks ν - ks ν0) 838 [(0, .ref (Q 0)), (2, .ref (Q 1)), (11, .ref (Q 12)), (12, .ref (Q 13)), (14, .int x14), (15, .int x15), (16, .int x16), (17, .int x17), (18, .int x18), (19, .int x19), (20, .int x20)] [.int s0, .int s1] := by
  have m0 := mb_L_isTold_838 hmk770 hmk785 h
  have e1 := m0.2.1; have e2 := m0.2.2.1; have e3 := hm0.2.1; have e4 := hm0.2.2.1
  have hI := lwI_mn hI0 hm0; have hQ := lwQ_kp hI0 hp0 hQ0
  unfold b_L_isTold_838 at h
  refine g_icmp_ne (tgt := 845) C dL_isTold_838 (by decide) (fun c838 => ?_) (fun c838 => ?_)
  · replace h := (if_neg c838).symm.trans h
    refine g_lv [0, 1, 2, 3, 4, 5, 6, 7, 8, 9, 10] rfl ?_
    exact lb_L_isTold_845 hl C hEv hN hr hz hI0 hQ0 hm0 hp0 hmk770 hk770 hmk785 hk785 h
  · replace h := (if_pos c838).symm.trans h
    refine g_iconst (v := (1 : Int32)) C dL_isTold_841 (by decide) ?_
    refine g_goto (tgt := 846) C dL_isTold_842 (by decide) ?_
    refine g_lv [0, 1, 2, 3, 4, 5, 6, 7, 8, 9, 10] rfl ?_
    exact lb_L_isTold_846 hl C hEv hN hr hz hI0 hQ0 hm0 hp0 hmk770 hk770 hmk785 hk785 h
noncomputable def b_L_isTold_785 (k770 : MP → NC → AS → Int32 → Int32 → Int32 → Int32 → Option (((MP × NC) × AS) × Int32)) (k785 : MP → NC → AS → Int32 → Int32 → Int32 → Int32 → Int32 → Int32 → Int32 → Option (((MP × NC) × AS) × Int32)) (w : Nat) (μ : MP) (ν : NC) (a : AS) (x14 : Int32) (x15 : Int32) (x16 : Int32) (x17 : Int32) (x18 : Int32) (x19 : Int32) (x20 : Int32)  : Option (((MP × NC) × AS) × Int32) := bif ixB (19 : Int32) 22 then (if (a 1 (19 : Int32).toNatClampNeg) ≤ x20 then ((f_L_total w μ ν x17 x15 x16 (0 : Int32)).bind (fun v22 => b_L_isTold_1000 k770 w v22.1.1 v22.1.2 a x14 x15 x16 x17 x18 x19 v22.2)) else (bif ixB x20 60 then (if (lcv (((lgA a 13 x20.toNatClampNeg) >>> (Int32.toInt64 (6 : Int32) &&& 63)) &&& (255 : Int64)) (Int32.toInt64 x15)) = (0 : Int32) then (bif ixB (Int64.toInt32 ((lgA a 13 x20.toNatClampNeg) &&& (15 : Int64))) 10 then (if x16 = (0 : Int32) then (b_L_isTold_838 k770 k785 w μ ν a x14 x15 x16 x17 x18 x19 x20 (0 : Int32) ((a 12 (Int64.toInt32 ((lgA a 13 x20.toNatClampNeg) &&& (15 : Int64))).toNatClampNeg) &&& (1 : Int32))) else (b_L_isTold_838 k770 k785 w μ ν a x14 x15 x16 x17 x18 x19 x20 (1 : Int32) ((a 12 (Int64.toInt32 ((lgA a 13 x20.toNatClampNeg) &&& (15 : Int64))).toNatClampNeg) &&& (1 : Int32)))) else none) else (b_L_isTold_845 k770 k785 w μ ν a x14 x15 x16 x17 x18 x19 x20)) else none)) else none
theorem mb_L_isTold_785 {w : Nat} {μ : MP} {ν : NC} {a : AS} {x14 : Int32} {x15 : Int32} {x16 : Int32} {x17 : Int32} {x18 : Int32} {x19 : Int32} {x20 : Int32}  {r0 : ((MP × NC) × AS) × Int32} {k770 : MP → NC → AS → Int32 → Int32 → Int32 → Int32 → Option (((MP × NC) × AS) × Int32)} {k785 : MP → NC → AS → Int32 → Int32 → Int32 → Int32 → Int32 → Int32 → Int32 → Option (((MP × NC) × AS) × Int32)} (hmk770 : ∀ (μ : MP) (ν : NC) (a : AS) (z14 : Int32) (z15 : Int32) (z16 : Int32) (z17 : Int32), k770 μ ν a z14 z15 z16 z17 = some r0 → mn ν r0.1.1.2) (hmk785 : ∀ (μ : MP) (ν : NC) (a : AS) (z14 : Int32) (z15 : Int32) (z16 : Int32) (z17 : Int32) (z18 : Int32) (z19 : Int32) (z20 : Int32), k785 μ ν a z14 z15 z16 z17 z18 z19 z20 = some r0 → mn ν r0.1.1.2) (h : b_L_isTold_785 k770 k785 w μ ν a x14 x15 x16 x17 x18 x19 x20  = some r0) : mn ν r0.1.1.2 := by
  unfold b_L_isTold_785 at h
  replace h := (of_guard h).2
  by_cases c791 : (a 1 (19 : Int32).toNatClampNeg) ≤ x20
  · replace h := (if_pos c791).symm.trans h
    obtain ⟨v22, hv22, h⟩ := bind_of h
    exact mn_trans (m_L_total hv22) (mb_L_isTold_1000 hmk770 h)
  · replace h := (if_neg c791).symm.trans h
    replace h := (of_guard h).2
    by_cases c810 : (lcv (((lgA a 13 x20.toNatClampNeg) >>> (Int32.toInt64 (6 : Int32) &&& 63)) &&& (255 : Int64)) (Int32.toInt64 x15)) = (0 : Int32)
    · replace h := (if_pos c810).symm.trans h
      replace h := (of_guard h).2
      by_cases c830 : x16 = (0 : Int32)
      · replace h := (if_pos c830).symm.trans h
        exact mb_L_isTold_838 hmk770 hmk785 h
      · replace h := (if_neg c830).symm.trans h
        exact mb_L_isTold_838 hmk770 hmk785 h
    · replace h := (if_neg c810).symm.trans h
      exact mb_L_isTold_845 hmk770 hmk785 h
set_option maxHeartbeats 4000000 in
set_option maxRecDepth 100000 in
theorem lb_L_isTold_785 {p : Program} {l : Launch} (hl : l.stackTraces = false) {e : Env} {s : State} {m : MethodId} {args : Array Value} {below : List Frame} {meth : Method} {c : Code} {D : va_G} {E : Nat → ClassId} {sz : Nat} {μ0 : MP} {ν0 : NC} {a0 : AS} {Ad0 : Nat → Nat → Nat} {Q : Nat → Nat} {B : Nat × (Nat → Nat)} {w : Nat} {r0 : ((MP × NC) × AS) × Int32} (C : cx p s m args meth c D E (Aof (zS μ0 ν0 a0 Ad0) [] s.heap.size) cL_isTold 22 "TradeLineLaw") (hEv : eV (Ad0 30 0) (Ad0 31 0) B (Aof (zS μ0 ν0 a0 Ad0) [] s.heap.size) s s.heap) (hN : vN s) (hr : meth.sig.returnType = (some .boolean)) (hz : s.heap.size = sz) (hI0 : lwI ν0) (hQ0 : lwQ Ad0 Q) {μ : MP} {ν : NC} {a : AS} {Ad : Nat → Nat → Nat} (hm0 : mn ν0 ν) (hp0 : kp ν0 Ad0 Ad) {x14 : Int32} {x15 : Int32} {x16 : Int32} {x17 : Int32} {x18 : Int32} {x19 : Int32} {x20 : Int32}  {k770 : MP → NC → AS → Int32 → Int32 → Int32 → Int32 → Option (((MP × NC) × AS) × Int32)} {k785 : MP → NC → AS → Int32 → Int32 → Int32 → Int32 → Int32 → Int32 → Int32 → Option (((MP × NC) × AS) × Int32)} (hmk770 : ∀ (μ : MP) (ν : NC) (a : AS) (z14 : Int32) (z15 : Int32) (z16 : Int32) (z17 : Int32), k770 μ ν a z14 z15 z16 z17 = some r0 → mn ν r0.1.1.2) (hk770 : ∀ (μ : MP) (ν : NC) (a : AS) (Ad : Nat → Nat → Nat) (z14 : Int32) (z15 : Int32) (z16 : Int32) (z17 : Int32), mn ν0 ν → kp ν0 Ad0 Ad → k770 μ ν a z14 z15 z16 z17 = some r0 → G p l e ({ frames := 11, cells := kc r0.1.1.2 - kc ν0, slots := ks r0.1.1.2 - ks ν0, locals := 229 } : Room) s m args below meth c D E (Aof (zS μ0 ν0 a0 Ad0) [] s.heap.size) 22 (MQ below (cQ D E sz (zS μ0 ν0 a0 Ad0) [] (pI (fun r u => r = r0.2 ∧ ∃ A1, u = (zS r0.1.1.1 r0.1.1.2 r0.1.2 A1, []) ∧ kp ν0 Ad0 A1))) args s (kc r0.1.1.2 - kc ν0) (ks r0.1.1.2 - ks ν0) (Aof (zS μ0 ν0 a0 Ad0) [] s.heap.size)) (zS μ ν a Ad) [] (kc ν - kc ν0) (ks ν - ks ν0) 770 [(0, .ref (Q 0)), (2, .ref (Q 1)), (11, .ref (Q 12)), (12, .ref (Q 13)), (14, .int z14), (15, .int z15), (16, .int z16), (17, .int z17)] []) (hmk785 : ∀ (μ : MP) (ν : NC) (a : AS) (z14 : Int32) (z15 : Int32) (z16 : Int32) (z17 : Int32) (z18 : Int32) (z19 : Int32) (z20 : Int32), k785 μ ν a z14 z15 z16 z17 z18 z19 z20 = some r0 → mn ν r0.1.1.2) (hk785 : ∀ (μ : MP) (ν : NC) (a : AS) (Ad : Nat → Nat → Nat) (z14 : Int32) (z15 : Int32) (z16 : Int32) (z17 : Int32) (z18 : Int32) (z19 : Int32) (z20 : Int32), mn ν0 ν → kp ν0 Ad0 Ad → k785 μ ν a z14 z15 z16 z17 z18 z19 z20 = some r0 → G p l e ({ frames := 11, cells := kc r0.1.1.2 - kc ν0, slots := ks r0.1.1.2 - ks ν0, locals := 229 } : Room) s m args below meth c D E (Aof (zS μ0 ν0 a0 Ad0) [] s.heap.size) 22 (MQ below (cQ D E sz (zS μ0 ν0 a0 Ad0) [] (pI (fun r u => r = r0.2 ∧ ∃ A1, u = (zS r0.1.1.1 r0.1.1.2 r0.1.2 A1, []) ∧ kp ν0 Ad0 A1))) args s (kc r0.1.1.2 - kc ν0) (ks r0.1.1.2 - ks ν0) (Aof (zS μ0 ν0 a0 Ad0) [] s.heap.size)) (zS μ ν a Ad) [] (kc ν - kc ν0) (ks ν - ks ν0) 785 [(0, .ref (Q 0)), (2, .ref (Q 1)), (11, .ref (Q 12)), (12, .ref (Q 13)), (14, .int z14), (15, .int z15), (16, .int z16), (17, .int z17), (18, .int z18), (19, .int z19), (20, .int z20)] []) (h : b_L_isTold_785 k770 k785 w μ ν a x14 x15 x16 x17 x18 x19 x20  = some r0) : G p l e ({ frames := 11, cells := kc r0.1.1.2 - kc ν0, slots := ks r0.1.1.2 - ks ν0, locals := 229 } : Room) s m args below meth c D E (Aof (zS μ0 ν0 a0 Ad0) [] s.heap.size) 22 (MQ below (cQ D E sz (zS μ0 ν0 a0 Ad0) [] (pI (fun r u => r = r0.2 ∧ ∃ A1, u = (zS r0.1.1.1 r0.1.1.2 r0.1.2 A1, []) ∧ kp ν0 Ad0 A1))) args s (kc r0.1.1.2 - kc ν0) (ks r0.1.1.2 - ks ν0) (Aof (zS μ0 ν0 a0 Ad0) [] s.heap.size)) (zS μ ν a Ad) [] (kc ν - kc ν0) (ks ν - ks ν0) 785 [(0, .ref (Q 0)), (2, .ref (Q 1)), (11, .ref (Q 12)), (12, .ref (Q 13)), (14, .int x14), (15, .int x15), (16, .int x16), (17, .int x17), (18, .int x18), (19, .int x19), (20, .int x20)] [] := by
  have m0 := mb_L_isTold_785 hmk770 hmk785 h
  have e1 := m0.2.1; have e2 := m0.2.2.1; have e3 := hm0.2.1; have e4 := hm0.2.2.1
  have hI := lwI_mn hI0 hm0; have hQ := lwQ_kp hI0 hp0 hQ0
  unfold b_L_isTold_785 at h
  refine g_iload C dL_isTold_785 10 rfl ?_
  refine g_aload_n C dL_isTold_787 rfl 1 rfl ?_
  refine g_bipush (v := (19 : Int32)) C dL_isTold_788 (by decide) ?_
  obtain ⟨g21, h⟩ := of_guard h
  refine q_iald C (show rsh (ν.1, μ.2, ν.2, Ad) from hI.2) (j := 1) (N := 22) (by decide) (lwQ_i hQ (j := 1) (N := 22) (by decide)) g21 dL_isTold_790 ?_
  refine g_icmp_ge (tgt := 989) C dL_isTold_791 (by decide) (fun c791 => ?_) (fun c791 => ?_)
  · replace h := (if_pos c791).symm.trans h
    refine g_aload_n C dL_isTold_989 rfl 0 rfl ?_
    refine g_iload C dL_isTold_990 7 rfl ?_
    refine g_iload C dL_isTold_992 5 rfl ?_
    refine g_iload C dL_isTold_994 6 rfl ?_
    refine g_iconst (v := (0 : Int32)) C dL_isTold_996 (by decide) ?_
    obtain ⟨v22, hv22, h⟩ := bind_of h
    have m2 := m_L_total hv22
    have m3 := mb_L_isTold_1000 hmk770 h
    have a1 := hm0.2.1; have a2 := hm0.2.2.1; have b1 := m2.2.1; have b2 := m2.2.2.1; have d1 := m3.2.1; have d2 := m3.2.2.1
    refine g_cSh (n := 5) (exr := []) C hEv hN ⟨hp0.2.1 0, hp0.2.2 0⟩ [_, _, _, _, _] _ rfl rfl [] rfl rfl (fun sz => wc_L_total l hl B _ ν _ Ad Q hI hQ w _ _ _ _ _ hv22 D E sz) rfl gh_total gw_0 gw_1376 gw_1377 ⟨by decide +kernel, by decide +kernel, by decide +kernel⟩ ⟨rfl, rfl⟩ ⟨Nat.le_of_ble_eq_true rfl, Nat.le_of_ble_eq_true rfl⟩ (Nat.le_of_ble_eq_true rfl) dL_isTold_997 ⟨by show (kc ν - kc ν0) + (kc v22.1.2 - kc ν) ≤ kc r0.1.1.2 - kc ν0; omega, by show (ks ν - ks ν0) + (ks v22.1.2 - ks ν) ≤ ks r0.1.1.2 - ks ν0; omega⟩ (fun r u hp hx => ?_)
    obtain ⟨er, A1, rfl, hkp⟩ := hp
    rw [er]
    try dsimp only [List.append_nil]
    refine g_widen (k := kc v22.1.2 - kc ν0) (n := ks v22.1.2 - ks ν0) (by omega) (by omega) ?_
    refine g_lv [0, 1, 2, 3, 4, 5, 6, 7, 8, 9] rfl ?_
    exact lb_L_isTold_1000 hl C hEv hN hr hz hI0 hQ0 (mn_trans hm0 m2) (kp_trans hp0 hm0 hkp) hmk770 hk770 h
  · replace h := (if_neg c791).symm.trans h
    refine g_aload C dL_isTold_794 3 rfl ?_
    refine g_iload C dL_isTold_796 10 rfl ?_
    obtain ⟨g29, h⟩ := of_guard h
    refine q_lald C (show rsh (ν.1, μ.2, ν.2, Ad) from hI.2) (j := 13) (N := 60) (by decide) (lwQ_l hQ (j := 13) (N := 60) (by decide)) g29 dL_isTold_798 ?_
    refine g_bipush (v := (6 : Int32)) C dL_isTold_799 (by decide) ?_
    refine g_lshr C dL_isTold_801 ?_
    refine g_ldc2 (v := (255 : Int64)) C gw_1003 dL_isTold_802 ?_
    refine g_land C dL_isTold_805 ?_
    refine g_iload C dL_isTold_806 5 rfl ?_
    refine g_i2l C dL_isTold_808 rfl ?_
    refine g_lcmp C dL_isTold_809 ?_
    refine g_if_ne (tgt := 845) C dL_isTold_810 (by decide) (fun c810 => ?_) (fun c810 => ?_)
    · replace h := (if_neg c810).symm.trans h
      refine g_lv [0, 1, 2, 3, 4, 5, 6, 7, 8, 9, 10] rfl ?_
      exact lb_L_isTold_845 hl C hEv hN hr hz hI0 hQ0 hm0 hp0 hmk770 hk770 hmk785 hk785 h
    · replace h := (if_pos c810).symm.trans h
      refine g_aload C dL_isTold_813 2 rfl ?_
      refine g_aload C dL_isTold_815 3 rfl ?_
      refine g_iload C dL_isTold_817 10 rfl ?_
      refine q_lald C (show rsh (ν.1, μ.2, ν.2, Ad) from hI.2) (j := 13) (N := 60) (by decide) (lwQ_l hQ (j := 13) (N := 60) (by decide)) g29 dL_isTold_819 ?_
      refine g_ldc2 (v := (15 : Int64)) C gw_999 dL_isTold_820 ?_
      refine g_land C dL_isTold_823 ?_
      refine g_l2i C dL_isTold_824 ?_
      obtain ⟨g41, h⟩ := of_guard h
      refine q_iald C (show rsh (ν.1, μ.2, ν.2, Ad) from hI.2) (j := 12) (N := 10) (by decide) (lwQ_i hQ (j := 12) (N := 10) (by decide)) g41 dL_isTold_825 ?_
      refine g_iconst (v := (1 : Int32)) C dL_isTold_826 (by decide) ?_
      refine g_iand C dL_isTold_827 ?_
      refine g_iload C dL_isTold_828 6 rfl ?_
      refine g_if_eq (tgt := 837) C dL_isTold_830 (by decide) (fun c830 => ?_) (fun c830 => ?_)
      · replace h := (if_pos c830).symm.trans h
        refine g_iconst (v := (0 : Int32)) C dL_isTold_837 (by decide) ?_
        refine g_lv [0, 1, 2, 3, 4, 5, 6, 7, 8, 9, 10] rfl ?_
        exact lb_L_isTold_838 hl C hEv hN hr hz hI0 hQ0 hm0 hp0 hmk770 hk770 hmk785 hk785 h
      · replace h := (if_neg c830).symm.trans h
        refine g_iconst (v := (1 : Int32)) C dL_isTold_833 (by decide) ?_
        refine g_goto (tgt := 838) C dL_isTold_834 (by decide) ?_
        refine g_lv [0, 1, 2, 3, 4, 5, 6, 7, 8, 9, 10] rfl ?_
        exact lb_L_isTold_838 hl C hEv hN hr hz hI0 hQ0 hm0 hp0 hmk770 hk770 hmk785 hk785 h
noncomputable def l_L_isTold_785 (k770 : MP → NC → AS → Int32 → Int32 → Int32 → Int32 → Option (((MP × NC) × AS) × Int32)) (w : Nat) : Nat → MP → NC → AS → Int32 → Int32 → Int32 → Int32 → Int32 → Int32 → Int32 → Option (((MP × NC) × AS) × Int32)
  | 0 => fun _ _ _ _ _ _ _ _ _ _ => none
  | n + 1 => fun μ ν a x14 x15 x16 x17 x18 x19 x20 => b_L_isTold_785 k770 (l_L_isTold_785 k770 w n) w μ ν a x14 x15 x16 x17 x18 x19 x20
theorem ml_L_isTold_785 {w : Nat} {r0 : ((MP × NC) × AS) × Int32} {k770 : MP → NC → AS → Int32 → Int32 → Int32 → Int32 → Option (((MP × NC) × AS) × Int32)} (hmk770 : ∀ (μ : MP) (ν : NC) (a : AS) (z14 : Int32) (z15 : Int32) (z16 : Int32) (z17 : Int32), k770 μ ν a z14 z15 z16 z17 = some r0 → mn ν r0.1.1.2) : ∀ (n : Nat) (μ : MP) (ν : NC) (a : AS) (x14 : Int32) (x15 : Int32) (x16 : Int32) (x17 : Int32) (x18 : Int32) (x19 : Int32) (x20 : Int32), l_L_isTold_785 k770 w n μ ν a x14 x15 x16 x17 x18 x19 x20 = some r0 → mn ν r0.1.1.2 := by
  intro n
  induction n with
  | zero => exact fun μ ν a x14 x15 x16 x17 x18 x19 x20 h => absurd (show (none : Option (((MP × NC) × AS) × Int32)) = some r0 from h) (by simp)
  | succ n ih => exact fun μ ν a x14 x15 x16 x17 x18 x19 x20 h => mb_L_isTold_785 hmk770 ih h
theorem ll_L_isTold_785 {p : Program} {l : Launch} (hl : l.stackTraces = false) {e : Env} {s : State} {m : MethodId} {args : Array Value} {below : List Frame} {meth : Method} {c : Code} {D : va_G} {E : Nat → ClassId} {sz : Nat} {μ0 : MP} {ν0 : NC} {a0 : AS} {Ad0 : Nat → Nat → Nat} {Q : Nat → Nat} {B : Nat × (Nat → Nat)} {w : Nat} {r0 : ((MP × NC) × AS) × Int32} (C : cx p s m args meth c D E (Aof (zS μ0 ν0 a0 Ad0) [] s.heap.size) cL_isTold 22 "TradeLineLaw") (hEv : eV (Ad0 30 0) (Ad0 31 0) B (Aof (zS μ0 ν0 a0 Ad0) [] s.heap.size) s s.heap) (hN : vN s) (hr : meth.sig.returnType = (some .boolean)) (hz : s.heap.size = sz) (hI0 : lwI ν0) (hQ0 : lwQ Ad0 Q) {k770 : MP → NC → AS → Int32 → Int32 → Int32 → Int32 → Option (((MP × NC) × AS) × Int32)} (hmk770 : ∀ (μ : MP) (ν : NC) (a : AS) (z14 : Int32) (z15 : Int32) (z16 : Int32) (z17 : Int32), k770 μ ν a z14 z15 z16 z17 = some r0 → mn ν r0.1.1.2) (hk770 : ∀ (μ : MP) (ν : NC) (a : AS) (Ad : Nat → Nat → Nat) (z14 : Int32) (z15 : Int32) (z16 : Int32) (z17 : Int32), mn ν0 ν → kp ν0 Ad0 Ad → k770 μ ν a z14 z15 z16 z17 = some r0 → G p l e ({ frames := 11, cells := kc r0.1.1.2 - kc ν0, slots := ks r0.1.1.2 - ks ν0, locals := 229 } : Room) s m args below meth c D E (Aof (zS μ0 ν0 a0 Ad0) [] s.heap.size) 22 (MQ below (cQ D E sz (zS μ0 ν0 a0 Ad0) [] (pI (fun r u => r = r0.2 ∧ ∃ A1, u = (zS r0.1.1.1 r0.1.1.2 r0.1.2 A1, []) ∧ kp ν0 Ad0 A1))) args s (kc r0.1.1.2 - kc ν0) (ks r0.1.1.2 - ks ν0) (Aof (zS μ0 ν0 a0 Ad0) [] s.heap.size)) (zS μ ν a Ad) [] (kc ν - kc ν0) (ks ν - ks ν0) 770 [(0, .ref (Q 0)), (2, .ref (Q 1)), (11, .ref (Q 12)), (12, .ref (Q 13)), (14, .int z14), (15, .int z15), (16, .int z16), (17, .int z17)] []) : ∀ (n : Nat) (μ : MP) (ν : NC) (a : AS) (Ad : Nat → Nat → Nat) (x14 : Int32) (x15 : Int32) (x16 : Int32) (x17 : Int32) (x18 : Int32) (x19 : Int32) (x20 : Int32), mn ν0 ν → kp ν0 Ad0 Ad → l_L_isTold_785 k770 w n μ ν a x14 x15 x16 x17 x18 x19 x20 = some r0 → G p l e ({ frames := 11, cells := kc r0.1.1.2 - kc ν0, slots := ks r0.1.1.2 - ks ν0, locals := 229 } : Room) s m args below meth c D E (Aof (zS μ0 ν0 a0 Ad0) [] s.heap.size) 22 (MQ below (cQ D E sz (zS μ0 ν0 a0 Ad0) [] (pI (fun r u => r = r0.2 ∧ ∃ A1, u = (zS r0.1.1.1 r0.1.1.2 r0.1.2 A1, []) ∧ kp ν0 Ad0 A1))) args s (kc r0.1.1.2 - kc ν0) (ks r0.1.1.2 - ks ν0) (Aof (zS μ0 ν0 a0 Ad0) [] s.heap.size)) (zS μ ν a Ad) [] (kc ν - kc ν0) (ks ν - ks ν0) 785 [(0, .ref (Q 0)), (2, .ref (Q 1)), (11, .ref (Q 12)), (12, .ref (Q 13)), (14, .int x14), (15, .int x15), (16, .int x16), (17, .int x17), (18, .int x18), (19, .int x19), (20, .int x20)] [] := by
  intro n
  induction n with
  | zero => exact fun μ ν a Ad x14 x15 x16 x17 x18 x19 x20 hm0 hp0 h => absurd (show (none : Option (((MP × NC) × AS) × Int32)) = some r0 from h) (by simp)
  | succ n ih => exact fun μ ν a Ad x14 x15 x16 x17 x18 x19 x20 hm0 hp0 h => lb_L_isTold_785 (w := w) hl C hEv hN hr hz hI0 hQ0 hm0 hp0 hmk770 hk770 (fun μ ν a x14 x15 x16 x17 x18 x19 x20 h => ml_L_isTold_785 hmk770 n μ ν a x14 x15 x16 x17 x18 x19 x20 h) ih h
noncomputable def b_L_isTold_770 (k770 : MP → NC → AS → Int32 → Int32 → Int32 → Int32 → Option (((MP × NC) × AS) × Int32)) (w : Nat) (μ : MP) (ν : NC) (a : AS) (x14 : Int32) (x15 : Int32) (x16 : Int32) (x17 : Int32)  : Option (((MP × NC) × AS) × Int32) := (if (2 : Int32) ≤ x17 then ((f_X8_agree w μ ν).bind (fun v4 => (if v4 = x14 then ((f_X8_isUp w μ ν).bind (fun v5 => bif ixB (1 : Int32) 22 then (if (a 1 (1 : Int32).toNatClampNeg) = (1 : Int32) then (b_L_isTold_1108  w μ ν a (1 : Int32) v5) else (b_L_isTold_1108  w μ ν a (0 : Int32) v5)) else none)) else (some (((μ, ν), a), (0 : Int32)))))) else (l_L_isTold_785 k770 w w μ ν a x14 x15 x16 x17 (0 : Int32) (0 : Int32) (0 : Int32)))
theorem mb_L_isTold_770 {w : Nat} {μ : MP} {ν : NC} {a : AS} {x14 : Int32} {x15 : Int32} {x16 : Int32} {x17 : Int32}  {r0 : ((MP × NC) × AS) × Int32} {k770 : MP → NC → AS → Int32 → Int32 → Int32 → Int32 → Option (((MP × NC) × AS) × Int32)} (hmk770 : ∀ (μ : MP) (ν : NC) (a : AS) (z14 : Int32) (z15 : Int32) (z16 : Int32) (z17 : Int32), k770 μ ν a z14 z15 z16 z17 = some r0 → mn ν r0.1.1.2) (h : b_L_isTold_770 k770 w μ ν a x14 x15 x16 x17  = some r0) : mn ν r0.1.1.2 := by
  unfold b_L_isTold_770 at h
  by_cases c773 : (2 : Int32) ≤ x17
  · replace h := (if_pos c773).symm.trans h
    obtain ⟨v4, hv4, h⟩ := bind_of h
    by_cases c1089 : v4 = x14
    · replace h := (if_pos c1089).symm.trans h
      obtain ⟨v5, hv5, h⟩ := bind_of h
      replace h := (of_guard h).2
      by_cases c1100 : (a 1 (1 : Int32).toNatClampNeg) = (1 : Int32)
      · replace h := (if_pos c1100).symm.trans h
        exact mb_L_isTold_1108  h
      · replace h := (if_neg c1100).symm.trans h
        exact mb_L_isTold_1108  h
    · replace h := (if_neg c1089).symm.trans h
      obtain rfl := Option.some.inj h
      exact mn_rfl _
  · replace h := (if_neg c773).symm.trans h
    exact ml_L_isTold_785 hmk770 _ _ _ _ _ _ _ _ _ _ _ h
set_option maxHeartbeats 4000000 in
set_option maxRecDepth 100000 in
theorem lb_L_isTold_770 {p : Program} {l : Launch} (hl : l.stackTraces = false) {e : Env} {s : State} {m : MethodId} {args : Array Value} {below : List Frame} {meth : Method} {c : Code} {D : va_G} {E : Nat → ClassId} {sz : Nat} {μ0 : MP} {ν0 : NC} {a0 : AS} {Ad0 : Nat → Nat → Nat} {Q : Nat → Nat} {B : Nat × (Nat → Nat)} {w : Nat} {r0 : ((MP × NC) × AS) × Int32} (C : cx p s m args meth c D E (Aof (zS μ0 ν0 a0 Ad0) [] s.heap.size) cL_isTold 22 "TradeLineLaw") (hEv : eV (Ad0 30 0) (Ad0 31 0) B (Aof (zS μ0 ν0 a0 Ad0) [] s.heap.size) s s.heap) (hN : vN s) (hr : meth.sig.returnType = (some .boolean)) (hz : s.heap.size = sz) (hI0 : lwI ν0) (hQ0 : lwQ Ad0 Q) {μ : MP} {ν : NC} {a : AS} {Ad : Nat → Nat → Nat} (hm0 : mn ν0 ν) (hp0 : kp ν0 Ad0 Ad) {x14 : Int32} {x15 : Int32} {x16 : Int32} {x17 : Int32}  {k770 : MP → NC → AS → Int32 → Int32 → Int32 → Int32 → Option (((MP × NC) × AS) × Int32)} (hmk770 : ∀ (μ : MP) (ν : NC) (a : AS) (z14 : Int32) (z15 : Int32) (z16 : Int32) (z17 : Int32), k770 μ ν a z14 z15 z16 z17 = some r0 → mn ν r0.1.1.2) (hk770 : ∀ (μ : MP) (ν : NC) (a : AS) (Ad : Nat → Nat → Nat) (z14 : Int32) (z15 : Int32) (z16 : Int32) (z17 : Int32), mn ν0 ν → kp ν0 Ad0 Ad → k770 μ ν a z14 z15 z16 z17 = some r0 → G p l e ({ frames := 11, cells := kc r0.1.1.2 - kc ν0, slots := ks r0.1.1.2 - ks ν0, locals := 229 } : Room) s m args below meth c D E (Aof (zS μ0 ν0 a0 Ad0) [] s.heap.size) 22 (MQ below (cQ D E sz (zS μ0 ν0 a0 Ad0) [] (pI (fun r u => r = r0.2 ∧ ∃ A1, u = (zS r0.1.1.1 r0.1.1.2 r0.1.2 A1, []) ∧ kp ν0 Ad0 A1))) args s (kc r0.1.1.2 - kc ν0) (ks r0.1.1.2 - ks ν0) (Aof (zS μ0 ν0 a0 Ad0) [] s.heap.size)) (zS μ ν a Ad) [] (kc ν - kc ν0) (ks ν - ks ν0) 770 [(0, .ref (Q 0)), (2, .ref (Q 1)), (11, .ref (Q 12)), (12, .ref (Q 13)), (14, .int z14), (15, .int z15), (16, .int z16), (17, .int z17)] []) (h : b_L_isTold_770 k770 w μ ν a x14 x15 x16 x17  = some r0) : G p l e ({ frames := 11, cells := kc r0.1.1.2 - kc ν0, slots := ks r0.1.1.2 - ks ν0, locals := 229 } : Room) s m args below meth c D E (Aof (zS μ0 ν0 a0 Ad0) [] s.heap.size) 22 (MQ below (cQ D E sz (zS μ0 ν0 a0 Ad0) [] (pI (fun r u => r = r0.2 ∧ ∃ A1, u = (zS r0.1.1.1 r0.1.1.2 r0.1.2 A1, []) ∧ kp ν0 Ad0 A1))) args s (kc r0.1.1.2 - kc ν0) (ks r0.1.1.2 - ks ν0) (Aof (zS μ0 ν0 a0 Ad0) [] s.heap.size)) (zS μ ν a Ad) [] (kc ν - kc ν0) (ks ν - ks ν0) 770 [(0, .ref (Q 0)), (2, .ref (Q 1)), (11, .ref (Q 12)), (12, .ref (Q 13)), (14, .int x14), (15, .int x15), (16, .int x16), (17, .int x17)] [] := by
  have m0 := mb_L_isTold_770 hmk770 h
  have e1 := m0.2.1; have e2 := m0.2.2.1; have e3 := hm0.2.1; have e4 := hm0.2.2.1
  have hI := lwI_mn hI0 hm0; have hQ := lwQ_kp hI0 hp0 hQ0
  unfold b_L_isTold_770 at h
  refine g_iload C dL_isTold_770 7 rfl ?_
  refine g_iconst (v := (2 : Int32)) C dL_isTold_772 (by decide) ?_
  refine g_icmp_ge (tgt := 1083) C dL_isTold_773 (by decide) (fun c773 => ?_) (fun c773 => ?_)
  · replace h := (if_pos c773).symm.trans h
    refine g_aload_n C dL_isTold_1083 rfl 0 rfl ?_
    obtain ⟨v4, hv4, h⟩ := bind_of h
    refine g_cVi (n := 0) (exc := []) (exr := []) (wr := []) C [] _ rfl rfl [] [] rfl rfl rfl rfl (fun _ h => absurd h (by simp)) (fun _ h => absurd h (by simp)) (fun _ h => absurd h (by simp)) (fun sz => by rw [← hQ.1]; exact c_X8_agree l μ ν a Ad w _ hv4 D E sz) rfl gw_1391 gw_1 gw_1388 gw_1389 gw_1390 ⟨by decide +kernel, by decide +kernel, by decide +kernel⟩ ⟨rfl, rfl⟩ ⟨Nat.le_of_ble_eq_true rfl, Nat.le_of_ble_eq_true rfl⟩ (by rw [← hQ.1]; exact rcvT ⟨hI.1, fun e => absurd e (by decide)⟩ rfl rfl rfl) (Nat.le_of_ble_eq_true rfl) dL_isTold_1084 ⟨by show (kc ν - kc ν0) + 0 ≤ kc r0.1.1.2 - kc ν0; omega, by show (ks ν - ks ν0) + 0 ≤ ks r0.1.1.2 - ks ν0; omega⟩ (fun r u hp hx => ?_)
    obtain ⟨er, rfl⟩ := hp
    rw [er]
    try dsimp only [List.append_nil]
    refine g_iload C dL_isTold_1087 4 rfl ?_
    refine g_icmp_ne (tgt := 1246) C dL_isTold_1089 (by decide) (fun c1089 => ?_) (fun c1089 => ?_)
    · replace h := (if_neg c1089).symm.trans h
      refine g_iconst (v := (0 : Int32)) C dL_isTold_1246 (by decide) ?_
      obtain rfl := Option.some.inj h
      exact g_iret C hr rfl hz ⟨(hm0.2.2.2 30 (by decide) (by decide)).1, (hm0.2.2.2 31 (by decide) (by decide)).1, hp0.2.1, hp0.2.2⟩ ⟨rfl, Ad, rfl, hp0⟩ (fun j x h => by simp at h) dL_isTold_1247
    · replace h := (if_pos c1089).symm.trans h
      refine g_aload_n C dL_isTold_1092 rfl 0 rfl ?_
      obtain ⟨v5, hv5, h⟩ := bind_of h
      refine g_cVi (n := 0) (exc := []) (exr := []) (wr := []) C [] _ rfl rfl [] [] rfl rfl rfl rfl (fun _ h => absurd h (by simp)) (fun _ h => absurd h (by simp)) (fun _ h => absurd h (by simp)) (fun sz => by rw [← hQ.1]; exact c_X8_isUp l μ ν a Ad w _ hv5 D E sz) rfl gw_1400 gw_1 gw_1397 gw_1398 gw_1399 ⟨by decide +kernel, by decide +kernel, by decide +kernel⟩ ⟨rfl, rfl⟩ ⟨Nat.le_of_ble_eq_true rfl, Nat.le_of_ble_eq_true rfl⟩ (by rw [← hQ.1]; exact rcvT ⟨hI.1, fun e => absurd e (by decide)⟩ rfl rfl rfl) (Nat.le_of_ble_eq_true rfl) dL_isTold_1093 ⟨by show (kc ν - kc ν0) + 0 ≤ kc r0.1.1.2 - kc ν0; omega, by show (ks ν - ks ν0) + 0 ≤ ks r0.1.1.2 - ks ν0; omega⟩ (fun r u hp hx => ?_)
      obtain ⟨er, rfl⟩ := hp
      rw [er]
      try dsimp only [List.append_nil]
      refine g_aload_n C dL_isTold_1096 rfl 1 rfl ?_
      refine g_iconst (v := (1 : Int32)) C dL_isTold_1097 (by decide) ?_
      obtain ⟨g6, h⟩ := of_guard h
      refine q_iald C (show rsh (ν.1, μ.2, ν.2, Ad) from hI.2) (j := 1) (N := 22) (by decide) (lwQ_i hQ (j := 1) (N := 22) (by decide)) g6 dL_isTold_1098 ?_
      refine g_iconst (v := (1 : Int32)) C dL_isTold_1099 (by decide) ?_
      refine g_icmp_ne (tgt := 1107) C dL_isTold_1100 (by decide) (fun c1100 => ?_) (fun c1100 => ?_)
      · replace h := (if_neg c1100).symm.trans h
        refine g_iconst (v := (0 : Int32)) C dL_isTold_1107 (by decide) ?_
        refine g_lv [0, 1] rfl ?_
        exact lb_L_isTold_1108 hl C hEv hN hr hz hI0 hQ0 hm0 hp0  h
      · replace h := (if_pos c1100).symm.trans h
        refine g_iconst (v := (1 : Int32)) C dL_isTold_1103 (by decide) ?_
        refine g_goto (tgt := 1108) C dL_isTold_1104 (by decide) ?_
        refine g_lv [0, 1] rfl ?_
        exact lb_L_isTold_1108 hl C hEv hN hr hz hI0 hQ0 hm0 hp0  h
  · replace h := (if_neg c773).symm.trans h
    refine g_iconst (v := (0 : Int32)) C dL_isTold_776 (by decide) ?_
    refine g_istore (lv' := [(18, .int (0 : Int32)), (0, .ref (Q 0)), (2, .ref (Q 1)), (11, .ref (Q 12)), (12, .ref (Q 13)), (14, .int x14), (15, .int x15), (16, .int x16), (17, .int x17)]) C dL_isTold_777 (by decide) rfl ?_
    refine g_iconst (v := (0 : Int32)) C dL_isTold_779 (by decide) ?_
    refine g_istore (lv' := [(19, .int (0 : Int32)), (18, .int (0 : Int32)), (0, .ref (Q 0)), (2, .ref (Q 1)), (11, .ref (Q 12)), (12, .ref (Q 13)), (14, .int x14), (15, .int x15), (16, .int x16), (17, .int x17)]) C dL_isTold_780 (by decide) rfl ?_
    refine g_iconst (v := (0 : Int32)) C dL_isTold_782 (by decide) ?_
    refine g_istore (lv' := [(20, .int (0 : Int32)), (19, .int (0 : Int32)), (18, .int (0 : Int32)), (0, .ref (Q 0)), (2, .ref (Q 1)), (11, .ref (Q 12)), (12, .ref (Q 13)), (14, .int x14), (15, .int x15), (16, .int x16), (17, .int x17)]) C dL_isTold_783 (by decide) rfl ?_
    refine g_lv [3, 4, 5, 6, 7, 8, 9, 10, 2, 1, 0] rfl ?_
    exact ll_L_isTold_785 hl C hEv hN hr hz hI0 hQ0 hmk770 hk770 w _ _ _ _ _ _ _ _ _ _ _ hm0 hp0 h
noncomputable def l_L_isTold_770  (w : Nat) : Nat → MP → NC → AS → Int32 → Int32 → Int32 → Int32 → Option (((MP × NC) × AS) × Int32)
  | 0 => fun _ _ _ _ _ _ _ => none
  | n + 1 => fun μ ν a x14 x15 x16 x17 => b_L_isTold_770  (l_L_isTold_770  w n) w μ ν a x14 x15 x16 x17
theorem ml_L_isTold_770 {w : Nat} {r0 : ((MP × NC) × AS) × Int32}   : ∀ (n : Nat) (μ : MP) (ν : NC) (a : AS) (x14 : Int32) (x15 : Int32) (x16 : Int32) (x17 : Int32), l_L_isTold_770  w n μ ν a x14 x15 x16 x17 = some r0 → mn ν r0.1.1.2 := by
  intro n
  induction n with
  | zero => exact fun μ ν a x14 x15 x16 x17 h => absurd (show (none : Option (((MP × NC) × AS) × Int32)) = some r0 from h) (by simp)
  | succ n ih => exact fun μ ν a x14 x15 x16 x17 h => mb_L_isTold_770  ih h
theorem ll_L_isTold_770 {p : Program} {l : Launch} (hl : l.stackTraces = false) {e : Env} {s : State} {m : MethodId} {args : Array Value} {below : List Frame} {meth : Method} {c : Code} {D : va_G} {E : Nat → ClassId} {sz : Nat} {μ0 : MP} {ν0 : NC} {a0 : AS} {Ad0 : Nat → Nat → Nat} {Q : Nat → Nat} {B : Nat × (Nat → Nat)} {w : Nat} {r0 : ((MP × NC) × AS) × Int32} (C : cx p s m args meth c D E (Aof (zS μ0 ν0 a0 Ad0) [] s.heap.size) cL_isTold 22 "TradeLineLaw") (hEv : eV (Ad0 30 0) (Ad0 31 0) B (Aof (zS μ0 ν0 a0 Ad0) [] s.heap.size) s s.heap) (hN : vN s) (hr : meth.sig.returnType = (some .boolean)) (hz : s.heap.size = sz) (hI0 : lwI ν0) (hQ0 : lwQ Ad0 Q)   : ∀ (n : Nat) (μ : MP) (ν : NC) (a : AS) (Ad : Nat → Nat → Nat) (x14 : Int32) (x15 : Int32) (x16 : Int32) (x17 : Int32), mn ν0 ν → kp ν0 Ad0 Ad → l_L_isTold_770  w n μ ν a x14 x15 x16 x17 = some r0 → G p l e ({ frames := 11, cells := kc r0.1.1.2 - kc ν0, slots := ks r0.1.1.2 - ks ν0, locals := 229 } : Room) s m args below meth c D E (Aof (zS μ0 ν0 a0 Ad0) [] s.heap.size) 22 (MQ below (cQ D E sz (zS μ0 ν0 a0 Ad0) [] (pI (fun r u => r = r0.2 ∧ ∃ A1, u = (zS r0.1.1.1 r0.1.1.2 r0.1.2 A1, []) ∧ kp ν0 Ad0 A1))) args s (kc r0.1.1.2 - kc ν0) (ks r0.1.1.2 - ks ν0) (Aof (zS μ0 ν0 a0 Ad0) [] s.heap.size)) (zS μ ν a Ad) [] (kc ν - kc ν0) (ks ν - ks ν0) 770 [(0, .ref (Q 0)), (2, .ref (Q 1)), (11, .ref (Q 12)), (12, .ref (Q 13)), (14, .int x14), (15, .int x15), (16, .int x16), (17, .int x17)] [] := by
  intro n
  induction n with
  | zero => exact fun μ ν a Ad x14 x15 x16 x17 hm0 hp0 h => absurd (show (none : Option (((MP × NC) × AS) × Int32)) = some r0 from h) (by simp)
  | succ n ih => exact fun μ ν a Ad x14 x15 x16 x17 hm0 hp0 h => lb_L_isTold_770 (w := w) hl C hEv hN hr hz hI0 hQ0 hm0 hp0  (fun μ ν a x14 x15 x16 x17 h => ml_L_isTold_770  n μ ν a x14 x15 x16 x17 h) ih h
noncomputable def b_L_isTold_765  (w : Nat) (μ : MP) (ν : NC) (a : AS) (x14 : Int32) (x15 : Int32) (s0 : Int32) : Option (((MP × NC) × AS) × Int32) := l_L_isTold_770  w w μ ν a x14 x15 s0 (0 : Int32)
theorem mb_L_isTold_765 {w : Nat} {μ : MP} {ν : NC} {a : AS} {x14 : Int32} {x15 : Int32} {s0 : Int32} {r0 : ((MP × NC) × AS) × Int32}   (h : b_L_isTold_765  w μ ν a x14 x15 s0 = some r0) : mn ν r0.1.1.2 := by
  unfold b_L_isTold_765 at h
  exact ml_L_isTold_770  _ _ _ _ _ _ _ _ h
set_option maxHeartbeats 4000000 in
set_option maxRecDepth 100000 in
theorem lb_L_isTold_765 {p : Program} {l : Launch} (hl : l.stackTraces = false) {e : Env} {s : State} {m : MethodId} {args : Array Value} {below : List Frame} {meth : Method} {c : Code} {D : va_G} {E : Nat → ClassId} {sz : Nat} {μ0 : MP} {ν0 : NC} {a0 : AS} {Ad0 : Nat → Nat → Nat} {Q : Nat → Nat} {B : Nat × (Nat → Nat)} {w : Nat} {r0 : ((MP × NC) × AS) × Int32} (C : cx p s m args meth c D E (Aof (zS μ0 ν0 a0 Ad0) [] s.heap.size) cL_isTold 22 "TradeLineLaw") (hEv : eV (Ad0 30 0) (Ad0 31 0) B (Aof (zS μ0 ν0 a0 Ad0) [] s.heap.size) s s.heap) (hN : vN s) (hr : meth.sig.returnType = (some .boolean)) (hz : s.heap.size = sz) (hI0 : lwI ν0) (hQ0 : lwQ Ad0 Q) {μ : MP} {ν : NC} {a : AS} {Ad : Nat → Nat → Nat} (hm0 : mn ν0 ν) (hp0 : kp ν0 Ad0 Ad) {x14 : Int32} {x15 : Int32} {s0 : Int32}   (h : b_L_isTold_765  w μ ν a x14 x15 s0 = some r0) : G p l e ({ frames := 11, cells := kc r0.1.1.2 - kc ν0, slots := ks r0.1.1.2 - ks ν0, locals := 229 } : Room) s m args below meth c D E (Aof (zS μ0 ν0 a0 Ad0) [] s.heap.size) 22 (MQ below (cQ D E sz (zS μ0 ν0 a0 Ad0) [] (pI (fun r u => r = r0.2 ∧ ∃ A1, u = (zS r0.1.1.1 r0.1.1.2 r0.1.2 A1, []) ∧ kp ν0 Ad0 A1))) args s (kc r0.1.1.2 - kc ν0) (ks r0.1.1.2 - ks ν0) (Aof (zS μ0 ν0 a0 Ad0) [] s.heap.size)) (zS μ ν a Ad) [] (kc ν - kc ν0) (ks ν - ks ν0) 765 [(0, .ref (Q 0)), (2, .ref (Q 1)), (11, .ref (Q 12)), (12, .ref (Q 13)), (14, .int x14), (15, .int x15)] [.int s0] := by
  have m0 := mb_L_isTold_765  h
  have e1 := m0.2.1; have e2 := m0.2.2.1; have e3 := hm0.2.1; have e4 := hm0.2.2.1
  have hI := lwI_mn hI0 hm0; have hQ := lwQ_kp hI0 hp0 hQ0
  unfold b_L_isTold_765 at h
  refine g_istore (lv' := [(16, .int s0), (0, .ref (Q 0)), (2, .ref (Q 1)), (11, .ref (Q 12)), (12, .ref (Q 13)), (14, .int x14), (15, .int x15)]) C dL_isTold_765 (by decide) rfl ?_
  refine g_iconst (v := (0 : Int32)) C dL_isTold_767 (by decide) ?_
  refine g_istore (lv' := [(17, .int (0 : Int32)), (16, .int s0), (0, .ref (Q 0)), (2, .ref (Q 1)), (11, .ref (Q 12)), (12, .ref (Q 13)), (14, .int x14), (15, .int x15)]) C dL_isTold_768 (by decide) rfl ?_
  refine g_lv [2, 3, 4, 5, 6, 7, 1, 0] rfl ?_
  exact ll_L_isTold_770 hl C hEv hN hr hz hI0 hQ0  w _ _ _ _ _ _ _ _ hm0 hp0 h
noncomputable def b_L_isTold_721 (k693 : MP → NC → AS → Int32 → Int32 → Int32 → Option (((MP × NC) × AS) × Int32)) (w : Nat) (μ : MP) (ν : NC) (a : AS) (x1 : Int32) (x14 : Int32) (x15 : Int32) (s0 : Int32) : Option (((MP × NC) × AS) × Int32) := bif ixB x15 6 then (if s0 = ((a 14 x15.toNatClampNeg) &&& (255 : Int32)) then (yl (x15 + (1 : Int32)) (fun t44 => k693 μ ν a x1 x14 t44)) else (some (((μ, ν), a), (0 : Int32)))) else none
theorem mb_L_isTold_721 {w : Nat} {μ : MP} {ν : NC} {a : AS} {x1 : Int32} {x14 : Int32} {x15 : Int32} {s0 : Int32} {r0 : ((MP × NC) × AS) × Int32} {k693 : MP → NC → AS → Int32 → Int32 → Int32 → Option (((MP × NC) × AS) × Int32)} (hmk693 : ∀ (μ : MP) (ν : NC) (a : AS) (z1 : Int32) (z14 : Int32) (z15 : Int32), k693 μ ν a z1 z14 z15 = some r0 → mn ν r0.1.1.2) (h : b_L_isTold_721 k693 w μ ν a x1 x14 x15 s0 = some r0) : mn ν r0.1.1.2 := by
  unfold b_L_isTold_721 at h
  replace h := (of_guard h).2
  by_cases c730 : s0 = ((a 14 x15.toNatClampNeg) &&& (255 : Int32))
  · replace h := (if_pos c730).symm.trans h
    obtain ⟨t44, et44⟩ : ∃ y, x15 + (1 : Int32) = y := ⟨_, rfl⟩
    replace h := yl_of h et44
    exact hmk693 _ _ _ _ _ _ h
  · replace h := (if_neg c730).symm.trans h
    obtain rfl := Option.some.inj h
    exact mn_rfl _
set_option maxHeartbeats 4000000 in
set_option maxRecDepth 100000 in
theorem lb_L_isTold_721 {p : Program} {l : Launch} (hl : l.stackTraces = false) {e : Env} {s : State} {m : MethodId} {args : Array Value} {below : List Frame} {meth : Method} {c : Code} {D : va_G} {E : Nat → ClassId} {sz : Nat} {μ0 : MP} {ν0 : NC} {a0 : AS} {Ad0 : Nat → Nat → Nat} {Q : Nat → Nat} {B : Nat × (Nat → Nat)} {w : Nat} {r0 : ((MP × NC) × AS) × Int32} (C : cx p s m args meth c D E (Aof (zS μ0 ν0 a0 Ad0) [] s.heap.size) cL_isTold 22 "TradeLineLaw") (hEv : eV (Ad0 30 0) (Ad0 31 0) B (Aof (zS μ0 ν0 a0 Ad0) [] s.heap.size) s s.heap) (hN : vN s) (hr : meth.sig.returnType = (some .boolean)) (hz : s.heap.size = sz) (hI0 : lwI ν0) (hQ0 : lwQ Ad0 Q) {μ : MP} {ν : NC} {a : AS} {Ad : Nat → Nat → Nat} (hm0 : mn ν0 ν) (hp0 : kp ν0 Ad0 Ad) {x1 : Int32} {x14 : Int32} {x15 : Int32} {s0 : Int32} {k693 : MP → NC → AS → Int32 → Int32 → Int32 → Option (((MP × NC) × AS) × Int32)} (hmk693 : ∀ (μ : MP) (ν : NC) (a : AS) (z1 : Int32) (z14 : Int32) (z15 : Int32), k693 μ ν a z1 z14 z15 = some r0 → mn ν r0.1.1.2) (hk693 : ∀ (μ : MP) (ν : NC) (a : AS) (Ad : Nat → Nat → Nat) (z1 : Int32) (z14 : Int32) (z15 : Int32), mn ν0 ν → kp ν0 Ad0 Ad → k693 μ ν a z1 z14 z15 = some r0 → G p l e ({ frames := 11, cells := kc r0.1.1.2 - kc ν0, slots := ks r0.1.1.2 - ks ν0, locals := 229 } : Room) s m args below meth c D E (Aof (zS μ0 ν0 a0 Ad0) [] s.heap.size) 22 (MQ below (cQ D E sz (zS μ0 ν0 a0 Ad0) [] (pI (fun r u => r = r0.2 ∧ ∃ A1, u = (zS r0.1.1.1 r0.1.1.2 r0.1.2 A1, []) ∧ kp ν0 Ad0 A1))) args s (kc r0.1.1.2 - kc ν0) (ks r0.1.1.2 - ks ν0) (Aof (zS μ0 ν0 a0 Ad0) [] s.heap.size)) (zS μ ν a Ad) [] (kc ν - kc ν0) (ks ν - ks ν0) 693 [(0, .ref (Q 0)), (1, .int z1), (2, .ref (Q 1)), (11, .ref (Q 12)), (12, .ref (Q 13)), (13, .ref (Q 14)), (14, .int z14), (15, .int z15)] []) (h : b_L_isTold_721 k693 w μ ν a x1 x14 x15 s0 = some r0) : G p l e ({ frames := 11, cells := kc r0.1.1.2 - kc ν0, slots := ks r0.1.1.2 - ks ν0, locals := 229 } : Room) s m args below meth c D E (Aof (zS μ0 ν0 a0 Ad0) [] s.heap.size) 22 (MQ below (cQ D E sz (zS μ0 ν0 a0 Ad0) [] (pI (fun r u => r = r0.2 ∧ ∃ A1, u = (zS r0.1.1.1 r0.1.1.2 r0.1.2 A1, []) ∧ kp ν0 Ad0 A1))) args s (kc r0.1.1.2 - kc ν0) (ks r0.1.1.2 - ks ν0) (Aof (zS μ0 ν0 a0 Ad0) [] s.heap.size)) (zS μ ν a Ad) [] (kc ν - kc ν0) (ks ν - ks ν0) 721 [(0, .ref (Q 0)), (1, .int x1), (2, .ref (Q 1)), (11, .ref (Q 12)), (12, .ref (Q 13)), (13, .ref (Q 14)), (14, .int x14), (15, .int x15)] [.int s0] := by
  have m0 := mb_L_isTold_721 hmk693 h
  have e1 := m0.2.1; have e2 := m0.2.2.1; have e3 := hm0.2.1; have e4 := hm0.2.2.1
  have hI := lwI_mn hI0 hm0; have hQ := lwQ_kp hI0 hp0 hQ0
  unfold b_L_isTold_721 at h
  refine g_aload C dL_isTold_721 5 rfl ?_
  refine g_iload C dL_isTold_723 7 rfl ?_
  obtain ⟨g43, h⟩ := of_guard h
  refine q_iald C (show rsh (ν.1, μ.2, ν.2, Ad) from hI.2) (j := 14) (N := 6) (by decide) (lwQ_i hQ (j := 14) (N := 6) (by decide)) g43 dL_isTold_725 ?_
  refine g_sipush (v := (255 : Int32)) C dL_isTold_726 (by decide) ?_
  refine g_iand C dL_isTold_729 ?_
  refine g_icmp_eq (tgt := 735) C dL_isTold_730 (by decide) (fun c730 => ?_) (fun c730 => ?_)
  · replace h := (if_pos c730).symm.trans h
    obtain ⟨t44, et44⟩ : ∃ y : Int32, x15 + (1 : Int32) = y := ⟨_, rfl⟩
    replace h := yl_of h et44
    refine g_iinc (v := t44) (lv' := [(15, .int t44), (0, .ref (Q 0)), (1, .int x1), (2, .ref (Q 1)), (11, .ref (Q 12)), (12, .ref (Q 13)), (13, .ref (Q 14)), (14, .int x14)]) C dL_isTold_735 7 rfl (by rw [← et44]; rfl) (by decide) rfl ?_
    refine g_goto (tgt := 693) C dL_isTold_738 (by decide) ?_
    refine g_lv [1, 2, 3, 4, 5, 6, 7, 0] rfl ?_
    exact hk693 _ _ _ _ _ _ _ hm0 hp0 h
  · replace h := (if_neg c730).symm.trans h
    refine g_iconst (v := (0 : Int32)) C dL_isTold_733 (by decide) ?_
    obtain rfl := Option.some.inj h
    exact g_iret C hr rfl hz ⟨(hm0.2.2.2 30 (by decide) (by decide)).1, (hm0.2.2.2 31 (by decide) (by decide)).1, hp0.2.1, hp0.2.2⟩ ⟨rfl, Ad, rfl, hp0⟩ (fun j x h => by simp at h) dL_isTold_734
noncomputable def b_L_isTold_718 (k693 : MP → NC → AS → Int32 → Int32 → Int32 → Option (((MP × NC) × AS) × Int32)) (w : Nat) (μ : MP) (ν : NC) (a : AS) (x1 : Int32) (x14 : Int32) (x15 : Int32) (s0 : Int32) (s1 : Int32) : Option (((MP × NC) × AS) × Int32) := (f_L_quoted w μ ν s1 s0).bind (fun v42 => b_L_isTold_721 k693 w v42.1.1 v42.1.2 a x1 x14 x15 v42.2)
theorem mb_L_isTold_718 {w : Nat} {μ : MP} {ν : NC} {a : AS} {x1 : Int32} {x14 : Int32} {x15 : Int32} {s0 : Int32} {s1 : Int32} {r0 : ((MP × NC) × AS) × Int32} {k693 : MP → NC → AS → Int32 → Int32 → Int32 → Option (((MP × NC) × AS) × Int32)} (hmk693 : ∀ (μ : MP) (ν : NC) (a : AS) (z1 : Int32) (z14 : Int32) (z15 : Int32), k693 μ ν a z1 z14 z15 = some r0 → mn ν r0.1.1.2) (h : b_L_isTold_718 k693 w μ ν a x1 x14 x15 s0 s1 = some r0) : mn ν r0.1.1.2 := by
  unfold b_L_isTold_718 at h
  obtain ⟨v42, hv42, h⟩ := bind_of h
  exact mn_trans (m_L_quoted hv42) (mb_L_isTold_721 hmk693 h)
set_option maxHeartbeats 4000000 in
set_option maxRecDepth 100000 in
theorem lb_L_isTold_718 {p : Program} {l : Launch} (hl : l.stackTraces = false) {e : Env} {s : State} {m : MethodId} {args : Array Value} {below : List Frame} {meth : Method} {c : Code} {D : va_G} {E : Nat → ClassId} {sz : Nat} {μ0 : MP} {ν0 : NC} {a0 : AS} {Ad0 : Nat → Nat → Nat} {Q : Nat → Nat} {B : Nat × (Nat → Nat)} {w : Nat} {r0 : ((MP × NC) × AS) × Int32} (C : cx p s m args meth c D E (Aof (zS μ0 ν0 a0 Ad0) [] s.heap.size) cL_isTold 22 "TradeLineLaw") (hEv : eV (Ad0 30 0) (Ad0 31 0) B (Aof (zS μ0 ν0 a0 Ad0) [] s.heap.size) s s.heap) (hN : vN s) (hr : meth.sig.returnType = (some .boolean)) (hz : s.heap.size = sz) (hI0 : lwI ν0) (hQ0 : lwQ Ad0 Q) {μ : MP} {ν : NC} {a : AS} {Ad : Nat → Nat → Nat} (hm0 : mn ν0 ν) (hp0 : kp ν0 Ad0 Ad) {x1 : Int32} {x14 : Int32} {x15 : Int32} {s0 : Int32} {s1 : Int32} {k693 : MP → NC → AS → Int32 → Int32 → Int32 → Option (((MP × NC) × AS) × Int32)} (hmk693 : ∀ (μ : MP) (ν : NC) (a : AS) (z1 : Int32) (z14 : Int32) (z15 : Int32), k693 μ ν a z1 z14 z15 = some r0 → mn ν r0.1.1.2) (hk693 : ∀ (μ : MP) (ν : NC) (a : AS) (Ad : Nat → Nat → Nat) (z1 : Int32) (z14 : Int32) (z15 : Int32), mn ν0 ν → kp ν0 Ad0 Ad → k693 μ ν a z1 z14 z15 = some r0 → G p l e ({ frames := 11, cells := kc r0.1.1.2 - kc ν0, slots := ks r0.1.1.2 - ks ν0, locals := 229 } : Room) s m args below meth c D E (Aof (zS μ0 ν0 a0 Ad0) [] s.heap.size) 22 (MQ below (cQ D E sz (zS μ0 ν0 a0 Ad0) [] (pI (fun r u => r = r0.2 ∧ ∃ A1, u = (zS r0.1.1.1 r0.1.1.2 r0.1.2 A1, []) ∧ kp ν0 Ad0 A1))) args s (kc r0.1.1.2 - kc ν0) (ks r0.1.1.2 - ks ν0) (Aof (zS μ0 ν0 a0 Ad0) [] s.heap.size)) (zS μ ν a Ad) [] (kc ν - kc ν0) (ks ν - ks ν0) 693 [(0, .ref (Q 0)), (1, .int z1), (2, .ref (Q 1)), (11, .ref (Q 12)), (12, .ref (Q 13)), (13, .ref (Q 14)), (14, .int z14), (15, .int z15)] []) (h : b_L_isTold_718 k693 w μ ν a x1 x14 x15 s0 s1 = some r0) : G p l e ({ frames := 11, cells := kc r0.1.1.2 - kc ν0, slots := ks r0.1.1.2 - ks ν0, locals := 229 } : Room) s m args below meth c D E (Aof (zS μ0 ν0 a0 Ad0) [] s.heap.size) 22 (MQ below (cQ D E sz (zS μ0 ν0 a0 Ad0) [] (pI (fun r u => r = r0.2 ∧ ∃ A1, u = (zS r0.1.1.1 r0.1.1.2 r0.1.2 A1, []) ∧ kp ν0 Ad0 A1))) args s (kc r0.1.1.2 - kc ν0) (ks r0.1.1.2 - ks ν0) (Aof (zS μ0 ν0 a0 Ad0) [] s.heap.size)) (zS μ ν a Ad) [] (kc ν - kc ν0) (ks ν - ks ν0) 718 [(0, .ref (Q 0)), (1, .int x1), (2, .ref (Q 1)), (11, .ref (Q 12)), (12, .ref (Q 13)), (13, .ref (Q 14)), (14, .int x14), (15, .int x15)] [.int s0, .int s1, .ref (Q 0)] := by
  have m0 := mb_L_isTold_718 hmk693 h
  have e1 := m0.2.1; have e2 := m0.2.2.1; have e3 := hm0.2.1; have e4 := hm0.2.2.1
  have hI := lwI_mn hI0 hm0; have hQ := lwQ_kp hI0 hp0 hQ0
  unfold b_L_isTold_718 at h
  obtain ⟨v42, hv42, h⟩ := bind_of h
  have m2 := m_L_quoted hv42
  have m3 := mb_L_isTold_721 hmk693 h
  have a1 := hm0.2.1; have a2 := hm0.2.2.1; have b1 := m2.2.1; have b2 := m2.2.2.1; have d1 := m3.2.1; have d2 := m3.2.2.1
  refine g_cSh (n := 3) (exr := []) C hEv hN ⟨hp0.2.1 0, hp0.2.2 0⟩ [_, _, _] _ rfl rfl [] rfl rfl (fun sz => wc_L_quoted l hl B _ ν _ Ad Q hI hQ w _ _ _ hv42 D E sz) rfl gh_quoted gw_0 gw_1369 gw_1370 ⟨by decide +kernel, by decide +kernel, by decide +kernel⟩ ⟨rfl, rfl⟩ ⟨Nat.le_of_ble_eq_true rfl, Nat.le_of_ble_eq_true rfl⟩ (Nat.le_of_ble_eq_true rfl) dL_isTold_718 ⟨by show (kc ν - kc ν0) + (kc v42.1.2 - kc ν) ≤ kc r0.1.1.2 - kc ν0; omega, by show (ks ν - ks ν0) + (ks v42.1.2 - ks ν) ≤ ks r0.1.1.2 - ks ν0; omega⟩ (fun r u hp hx => ?_)
  obtain ⟨er, A1, rfl, hkp⟩ := hp
  rw [er]
  try dsimp only [List.append_nil]
  refine g_widen (k := kc v42.1.2 - kc ν0) (n := ks v42.1.2 - ks ν0) (by omega) (by omega) ?_
  refine g_lv [0, 1, 2, 3, 4, 5, 6, 7] rfl ?_
  exact lb_L_isTold_721 hl C hEv hN hr hz hI0 hQ0 (mn_trans hm0 m2) (kp_trans hp0 hm0 hkp) hmk693 hk693 h
noncomputable def b_L_isTold_693 (k693 : MP → NC → AS → Int32 → Int32 → Int32 → Option (((MP × NC) × AS) × Int32)) (w : Nat) (μ : MP) (ν : NC) (a : AS) (x1 : Int32) (x14 : Int32) (x15 : Int32)  : Option (((MP × NC) × AS) × Int32) := (if (6 : Int32) ≤ x15 then (bif ixB (20 : Int32) 22 then (f_L_low w a x1 ((a 1 (20 : Int32).toNatClampNeg) + (1 : Int32))).bind (fun v3 => (if (x1 &&& (64 : Int32)) ≤ (0 : Int32) then (b_L_isTold_765  w μ ν a x14 v3 (0 : Int32)) else (b_L_isTold_765  w μ ν a x14 v3 (1 : Int32)))) else none) else ((if (x15 - x15 / (2 : Int32) * (2 : Int32)) = (1 : Int32) then (b_L_isTold_718 k693 w μ ν a x1 x14 x15 (1 : Int32) (x15 / (2 : Int32))) else (b_L_isTold_718 k693 w μ ν a x1 x14 x15 (0 : Int32) (x15 / (2 : Int32))))))
theorem mb_L_isTold_693 {w : Nat} {μ : MP} {ν : NC} {a : AS} {x1 : Int32} {x14 : Int32} {x15 : Int32}  {r0 : ((MP × NC) × AS) × Int32} {k693 : MP → NC → AS → Int32 → Int32 → Int32 → Option (((MP × NC) × AS) × Int32)} (hmk693 : ∀ (μ : MP) (ν : NC) (a : AS) (z1 : Int32) (z14 : Int32) (z15 : Int32), k693 μ ν a z1 z14 z15 = some r0 → mn ν r0.1.1.2) (h : b_L_isTold_693 k693 w μ ν a x1 x14 x15  = some r0) : mn ν r0.1.1.2 := by
  unfold b_L_isTold_693 at h
  by_cases c697 : (6 : Int32) ≤ x15
  · replace h := (if_pos c697).symm.trans h
    replace h := (of_guard h).2
    obtain ⟨v3, hv3, h⟩ := bind_of h
    by_cases c757 : (x1 &&& (64 : Int32)) ≤ (0 : Int32)
    · replace h := (if_pos c757).symm.trans h
      exact mb_L_isTold_765  h
    · replace h := (if_neg c757).symm.trans h
      exact mb_L_isTold_765  h
  · replace h := (if_neg c697).symm.trans h
    by_cases c710 : (x15 - x15 / (2 : Int32) * (2 : Int32)) = (1 : Int32)
    · replace h := (if_pos c710).symm.trans h
      exact mb_L_isTold_718 hmk693 h
    · replace h := (if_neg c710).symm.trans h
      exact mb_L_isTold_718 hmk693 h
set_option maxHeartbeats 4000000 in
set_option maxRecDepth 100000 in
theorem lb_L_isTold_693 {p : Program} {l : Launch} (hl : l.stackTraces = false) {e : Env} {s : State} {m : MethodId} {args : Array Value} {below : List Frame} {meth : Method} {c : Code} {D : va_G} {E : Nat → ClassId} {sz : Nat} {μ0 : MP} {ν0 : NC} {a0 : AS} {Ad0 : Nat → Nat → Nat} {Q : Nat → Nat} {B : Nat × (Nat → Nat)} {w : Nat} {r0 : ((MP × NC) × AS) × Int32} (C : cx p s m args meth c D E (Aof (zS μ0 ν0 a0 Ad0) [] s.heap.size) cL_isTold 22 "TradeLineLaw") (hEv : eV (Ad0 30 0) (Ad0 31 0) B (Aof (zS μ0 ν0 a0 Ad0) [] s.heap.size) s s.heap) (hN : vN s) (hr : meth.sig.returnType = (some .boolean)) (hz : s.heap.size = sz) (hI0 : lwI ν0) (hQ0 : lwQ Ad0 Q) {μ : MP} {ν : NC} {a : AS} {Ad : Nat → Nat → Nat} (hm0 : mn ν0 ν) (hp0 : kp ν0 Ad0 Ad) {x1 : Int32} {x14 : Int32} {x15 : Int32}  {k693 : MP → NC → AS → Int32 → Int32 → Int32 → Option (((MP × NC) × AS) × Int32)} (hmk693 : ∀ (μ : MP) (ν : NC) (a : AS) (z1 : Int32) (z14 : Int32) (z15 : Int32), k693 μ ν a z1 z14 z15 = some r0 → mn ν r0.1.1.2) (hk693 : ∀ (μ : MP) (ν : NC) (a : AS) (Ad : Nat → Nat → Nat) (z1 : Int32) (z14 : Int32) (z15 : Int32), mn ν0 ν → kp ν0 Ad0 Ad → k693 μ ν a z1 z14 z15 = some r0 → G p l e ({ frames := 11, cells := kc r0.1.1.2 - kc ν0, slots := ks r0.1.1.2 - ks ν0, locals := 229 } : Room) s m args below meth c D E (Aof (zS μ0 ν0 a0 Ad0) [] s.heap.size) 22 (MQ below (cQ D E sz (zS μ0 ν0 a0 Ad0) [] (pI (fun r u => r = r0.2 ∧ ∃ A1, u = (zS r0.1.1.1 r0.1.1.2 r0.1.2 A1, []) ∧ kp ν0 Ad0 A1))) args s (kc r0.1.1.2 - kc ν0) (ks r0.1.1.2 - ks ν0) (Aof (zS μ0 ν0 a0 Ad0) [] s.heap.size)) (zS μ ν a Ad) [] (kc ν - kc ν0) (ks ν - ks ν0) 693 [(0, .ref (Q 0)), (1, .int z1), (2, .ref (Q 1)), (11, .ref (Q 12)), (12, .ref (Q 13)), (13, .ref (Q 14)), (14, .int z14), (15, .int z15)] []) (h : b_L_isTold_693 k693 w μ ν a x1 x14 x15  = some r0) : G p l e ({ frames := 11, cells := kc r0.1.1.2 - kc ν0, slots := ks r0.1.1.2 - ks ν0, locals := 229 } : Room) s m args below meth c D E (Aof (zS μ0 ν0 a0 Ad0) [] s.heap.size) 22 (MQ below (cQ D E sz (zS μ0 ν0 a0 Ad0) [] (pI (fun r u => r = r0.2 ∧ ∃ A1, u = (zS r0.1.1.1 r0.1.1.2 r0.1.2 A1, []) ∧ kp ν0 Ad0 A1))) args s (kc r0.1.1.2 - kc ν0) (ks r0.1.1.2 - ks ν0) (Aof (zS μ0 ν0 a0 Ad0) [] s.heap.size)) (zS μ ν a Ad) [] (kc ν - kc ν0) (ks ν - ks ν0) 693 [(0, .ref (Q 0)), (1, .int x1), (2, .ref (Q 1)), (11, .ref (Q 12)), (12, .ref (Q 13)), (13, .ref (Q 14)), (14, .int x14), (15, .int x15)] [] := by
  have m0 := mb_L_isTold_693 hmk693 h
  have e1 := m0.2.1; have e2 := m0.2.2.1; have e3 := hm0.2.1; have e4 := hm0.2.2.1
  have hI := lwI_mn hI0 hm0; have hQ := lwQ_kp hI0 hp0 hQ0
  unfold b_L_isTold_693 at h
  refine g_iload C dL_isTold_693 7 rfl ?_
  refine g_bipush (v := (6 : Int32)) C dL_isTold_695 (by decide) ?_
  refine g_icmp_ge (tgt := 741) C dL_isTold_697 (by decide) (fun c697 => ?_) (fun c697 => ?_)
  · replace h := (if_pos c697).symm.trans h
    refine g_iload_n C dL_isTold_741 rfl 1 rfl ?_
    refine g_aload_n C dL_isTold_742 rfl 2 rfl ?_
    refine g_bipush (v := (20 : Int32)) C dL_isTold_743 (by decide) ?_
    obtain ⟨g2, h⟩ := of_guard h
    refine q_iald C (show rsh (ν.1, μ.2, ν.2, Ad) from hI.2) (j := 1) (N := 22) (by decide) (lwQ_i hQ (j := 1) (N := 22) (by decide)) g2 dL_isTold_745 ?_
    refine g_iconst (v := (1 : Int32)) C dL_isTold_746 (by decide) ?_
    refine g_iadd C dL_isTold_747 ?_
    obtain ⟨v3, hv3, h⟩ := bind_of h
    refine g_cSi (n := 2) (exc := []) (exr := []) C [_, _] _ rfl rfl [] [] rfl rfl rfl rfl (fun _ h => absurd h (by simp)) (fun _ h => absurd h (by simp)) (fun _ h => absurd h (by simp)) (fun sz => wk_L_low l _ ν _ Ad Q hI hQ w _ _  _ hv3 D E sz) rfl gw_210 gw_0 gw_208 gw_209 ⟨by decide +kernel, by decide +kernel, by decide +kernel⟩ ⟨rfl, rfl⟩ ⟨Nat.le_of_ble_eq_true rfl, Nat.le_of_ble_eq_true rfl⟩ (Nat.le_of_ble_eq_true rfl) dL_isTold_748 ⟨by show (kc ν - kc ν0) + 0 ≤ kc r0.1.1.2 - kc ν0; omega, by show (ks ν - ks ν0) + 0 ≤ ks r0.1.1.2 - ks ν0; omega⟩ (fun r u hp hx => ?_)
    obtain ⟨er, rfl⟩ := hp
    rw [er]
    try dsimp only [List.append_nil]
    refine g_istore (lv' := [(15, .int v3), (0, .ref (Q 0)), (1, .int x1), (2, .ref (Q 1)), (11, .ref (Q 12)), (12, .ref (Q 13)), (13, .ref (Q 14)), (14, .int x14)]) C dL_isTold_751 (by decide) rfl ?_
    refine g_iload_n C dL_isTold_753 rfl 2 rfl ?_
    refine g_bipush (v := (64 : Int32)) C dL_isTold_754 (by decide) ?_
    refine g_iand C dL_isTold_756 ?_
    refine g_if_le (tgt := 764) C dL_isTold_757 (by decide) (fun c757 => ?_) (fun c757 => ?_)
    · replace h := (if_pos c757).symm.trans h
      refine g_iconst (v := (0 : Int32)) C dL_isTold_764 (by decide) ?_
      refine g_lv [1, 3, 4, 5, 7, 0] rfl ?_
      exact lb_L_isTold_765 hl C hEv hN hr hz hI0 hQ0 hm0 hp0  h
    · replace h := (if_neg c757).symm.trans h
      refine g_iconst (v := (1 : Int32)) C dL_isTold_760 (by decide) ?_
      refine g_goto (tgt := 765) C dL_isTold_761 (by decide) ?_
      refine g_lv [1, 3, 4, 5, 7, 0] rfl ?_
      exact lb_L_isTold_765 hl C hEv hN hr hz hI0 hQ0 hm0 hp0  h
  · replace h := (if_neg c697).symm.trans h
    refine g_aload_n C dL_isTold_700 rfl 0 rfl ?_
    refine g_iload C dL_isTold_701 7 rfl ?_
    refine g_iconst (v := (2 : Int32)) C dL_isTold_703 (by decide) ?_
    refine g_idiv C dL_isTold_704 (by decide) ?_
    refine g_iload C dL_isTold_705 7 rfl ?_
    refine g_iconst (v := (2 : Int32)) C dL_isTold_707 (by decide) ?_
    refine g_irem C dL_isTold_708 (by decide) ?_
    refine g_iconst (v := (1 : Int32)) C dL_isTold_709 (by decide) ?_
    refine g_icmp_ne (tgt := 717) C dL_isTold_710 (by decide) (fun c710 => ?_) (fun c710 => ?_)
    · replace h := (if_neg c710).symm.trans h
      refine g_iconst (v := (0 : Int32)) C dL_isTold_717 (by decide) ?_
      refine g_lv [0, 1, 2, 3, 4, 5, 6, 7] rfl ?_
      exact lb_L_isTold_718 hl C hEv hN hr hz hI0 hQ0 hm0 hp0 hmk693 hk693 h
    · replace h := (if_pos c710).symm.trans h
      refine g_iconst (v := (1 : Int32)) C dL_isTold_713 (by decide) ?_
      refine g_goto (tgt := 718) C dL_isTold_714 (by decide) ?_
      refine g_lv [0, 1, 2, 3, 4, 5, 6, 7] rfl ?_
      exact lb_L_isTold_718 hl C hEv hN hr hz hI0 hQ0 hm0 hp0 hmk693 hk693 h
noncomputable def l_L_isTold_693  (w : Nat) : Nat → MP → NC → AS → Int32 → Int32 → Int32 → Option (((MP × NC) × AS) × Int32)
  | 0 => fun _ _ _ _ _ _ => none
  | n + 1 => fun μ ν a x1 x14 x15 => b_L_isTold_693  (l_L_isTold_693  w n) w μ ν a x1 x14 x15
theorem ml_L_isTold_693 {w : Nat} {r0 : ((MP × NC) × AS) × Int32}   : ∀ (n : Nat) (μ : MP) (ν : NC) (a : AS) (x1 : Int32) (x14 : Int32) (x15 : Int32), l_L_isTold_693  w n μ ν a x1 x14 x15 = some r0 → mn ν r0.1.1.2 := by
  intro n
  induction n with
  | zero => exact fun μ ν a x1 x14 x15 h => absurd (show (none : Option (((MP × NC) × AS) × Int32)) = some r0 from h) (by simp)
  | succ n ih => exact fun μ ν a x1 x14 x15 h => mb_L_isTold_693  ih h
theorem ll_L_isTold_693 {p : Program} {l : Launch} (hl : l.stackTraces = false) {e : Env} {s : State} {m : MethodId} {args : Array Value} {below : List Frame} {meth : Method} {c : Code} {D : va_G} {E : Nat → ClassId} {sz : Nat} {μ0 : MP} {ν0 : NC} {a0 : AS} {Ad0 : Nat → Nat → Nat} {Q : Nat → Nat} {B : Nat × (Nat → Nat)} {w : Nat} {r0 : ((MP × NC) × AS) × Int32} (C : cx p s m args meth c D E (Aof (zS μ0 ν0 a0 Ad0) [] s.heap.size) cL_isTold 22 "TradeLineLaw") (hEv : eV (Ad0 30 0) (Ad0 31 0) B (Aof (zS μ0 ν0 a0 Ad0) [] s.heap.size) s s.heap) (hN : vN s) (hr : meth.sig.returnType = (some .boolean)) (hz : s.heap.size = sz) (hI0 : lwI ν0) (hQ0 : lwQ Ad0 Q)   : ∀ (n : Nat) (μ : MP) (ν : NC) (a : AS) (Ad : Nat → Nat → Nat) (x1 : Int32) (x14 : Int32) (x15 : Int32), mn ν0 ν → kp ν0 Ad0 Ad → l_L_isTold_693  w n μ ν a x1 x14 x15 = some r0 → G p l e ({ frames := 11, cells := kc r0.1.1.2 - kc ν0, slots := ks r0.1.1.2 - ks ν0, locals := 229 } : Room) s m args below meth c D E (Aof (zS μ0 ν0 a0 Ad0) [] s.heap.size) 22 (MQ below (cQ D E sz (zS μ0 ν0 a0 Ad0) [] (pI (fun r u => r = r0.2 ∧ ∃ A1, u = (zS r0.1.1.1 r0.1.1.2 r0.1.2 A1, []) ∧ kp ν0 Ad0 A1))) args s (kc r0.1.1.2 - kc ν0) (ks r0.1.1.2 - ks ν0) (Aof (zS μ0 ν0 a0 Ad0) [] s.heap.size)) (zS μ ν a Ad) [] (kc ν - kc ν0) (ks ν - ks ν0) 693 [(0, .ref (Q 0)), (1, .int x1), (2, .ref (Q 1)), (11, .ref (Q 12)), (12, .ref (Q 13)), (13, .ref (Q 14)), (14, .int x14), (15, .int x15)] [] := by
  intro n
  induction n with
  | zero => exact fun μ ν a Ad x1 x14 x15 hm0 hp0 h => absurd (show (none : Option (((MP × NC) × AS) × Int32)) = some r0 from h) (by simp)
  | succ n ih => exact fun μ ν a Ad x1 x14 x15 hm0 hp0 h => lb_L_isTold_693 (w := w) hl C hEv hN hr hz hI0 hQ0 hm0 hp0  (fun μ ν a x1 x14 x15 h => ml_L_isTold_693  n μ ν a x1 x14 x15 h) ih h
noncomputable def b_L_isTold_681 (k216 : MP → NC → AS → Int32 → Int32 → Int32 → Option (((MP × NC) × AS) × Int32)) (w : Nat) (μ : MP) (ν : NC) (a : AS) (x1 : Int32) (x15 : Int32) (s0 : Int32) (s1 : Int32) : Option (((MP × NC) × AS) × Int32) := yl ((s1 &&& s0)) (fun t65 => yl (x15 + (1 : Int32)) (fun t66 => k216 μ ν a x1 t65 t66))
theorem mb_L_isTold_681 {w : Nat} {μ : MP} {ν : NC} {a : AS} {x1 : Int32} {x15 : Int32} {s0 : Int32} {s1 : Int32} {r0 : ((MP × NC) × AS) × Int32} {k216 : MP → NC → AS → Int32 → Int32 → Int32 → Option (((MP × NC) × AS) × Int32)} (hmk216 : ∀ (μ : MP) (ν : NC) (a : AS) (z1 : Int32) (z14 : Int32) (z15 : Int32), k216 μ ν a z1 z14 z15 = some r0 → mn ν r0.1.1.2) (h : b_L_isTold_681 k216 w μ ν a x1 x15 s0 s1 = some r0) : mn ν r0.1.1.2 := by
  unfold b_L_isTold_681 at h
  obtain ⟨t65, et65⟩ : ∃ y, (s1 &&& s0) = y := ⟨_, rfl⟩
  replace h := yl_of h et65
  obtain ⟨t66, et66⟩ : ∃ y, x15 + (1 : Int32) = y := ⟨_, rfl⟩
  replace h := yl_of h et66
  exact hmk216 _ _ _ _ _ _ h
set_option maxHeartbeats 4000000 in
set_option maxRecDepth 100000 in
theorem lb_L_isTold_681 {p : Program} {l : Launch} (hl : l.stackTraces = false) {e : Env} {s : State} {m : MethodId} {args : Array Value} {below : List Frame} {meth : Method} {c : Code} {D : va_G} {E : Nat → ClassId} {sz : Nat} {μ0 : MP} {ν0 : NC} {a0 : AS} {Ad0 : Nat → Nat → Nat} {Q : Nat → Nat} {B : Nat × (Nat → Nat)} {w : Nat} {r0 : ((MP × NC) × AS) × Int32} (C : cx p s m args meth c D E (Aof (zS μ0 ν0 a0 Ad0) [] s.heap.size) cL_isTold 22 "TradeLineLaw") (hEv : eV (Ad0 30 0) (Ad0 31 0) B (Aof (zS μ0 ν0 a0 Ad0) [] s.heap.size) s s.heap) (hN : vN s) (hr : meth.sig.returnType = (some .boolean)) (hz : s.heap.size = sz) (hI0 : lwI ν0) (hQ0 : lwQ Ad0 Q) {μ : MP} {ν : NC} {a : AS} {Ad : Nat → Nat → Nat} (hm0 : mn ν0 ν) (hp0 : kp ν0 Ad0 Ad) {x1 : Int32} {x15 : Int32} {s0 : Int32} {s1 : Int32} {k216 : MP → NC → AS → Int32 → Int32 → Int32 → Option (((MP × NC) × AS) × Int32)} (hmk216 : ∀ (μ : MP) (ν : NC) (a : AS) (z1 : Int32) (z14 : Int32) (z15 : Int32), k216 μ ν a z1 z14 z15 = some r0 → mn ν r0.1.1.2) (hk216 : ∀ (μ : MP) (ν : NC) (a : AS) (Ad : Nat → Nat → Nat) (z1 : Int32) (z14 : Int32) (z15 : Int32), mn ν0 ν → kp ν0 Ad0 Ad → k216 μ ν a z1 z14 z15 = some r0 → G p l e ({ frames := 11, cells := kc r0.1.1.2 - kc ν0, slots := ks r0.1.1.2 - ks ν0, locals := 229 } : Room) s m args below meth c D E (Aof (zS μ0 ν0 a0 Ad0) [] s.heap.size) 22 (MQ below (cQ D E sz (zS μ0 ν0 a0 Ad0) [] (pI (fun r u => r = r0.2 ∧ ∃ A1, u = (zS r0.1.1.1 r0.1.1.2 r0.1.2 A1, []) ∧ kp ν0 Ad0 A1))) args s (kc r0.1.1.2 - kc ν0) (ks r0.1.1.2 - ks ν0) (Aof (zS μ0 ν0 a0 Ad0) [] s.heap.size)) (zS μ ν a Ad) [] (kc ν - kc ν0) (ks ν - ks ν0) 216 [(0, .ref (Q 0)), (1, .int z1), (2, .ref (Q 1)), (8, .ref (Q 9)), (9, .ref (Q 10)), (10, .ref (Q 11)), (11, .ref (Q 12)), (12, .ref (Q 13)), (13, .ref (Q 14)), (14, .int z14), (15, .int z15)] []) (h : b_L_isTold_681 k216 w μ ν a x1 x15 s0 s1 = some r0) : G p l e ({ frames := 11, cells := kc r0.1.1.2 - kc ν0, slots := ks r0.1.1.2 - ks ν0, locals := 229 } : Room) s m args below meth c D E (Aof (zS μ0 ν0 a0 Ad0) [] s.heap.size) 22 (MQ below (cQ D E sz (zS μ0 ν0 a0 Ad0) [] (pI (fun r u => r = r0.2 ∧ ∃ A1, u = (zS r0.1.1.1 r0.1.1.2 r0.1.2 A1, []) ∧ kp ν0 Ad0 A1))) args s (kc r0.1.1.2 - kc ν0) (ks r0.1.1.2 - ks ν0) (Aof (zS μ0 ν0 a0 Ad0) [] s.heap.size)) (zS μ ν a Ad) [] (kc ν - kc ν0) (ks ν - ks ν0) 681 [(0, .ref (Q 0)), (1, .int x1), (2, .ref (Q 1)), (8, .ref (Q 9)), (9, .ref (Q 10)), (10, .ref (Q 11)), (11, .ref (Q 12)), (12, .ref (Q 13)), (13, .ref (Q 14)), (15, .int x15)] [.int s0, .int s1] := by
  have m0 := mb_L_isTold_681 hmk216 h
  have e1 := m0.2.1; have e2 := m0.2.2.1; have e3 := hm0.2.1; have e4 := hm0.2.2.1
  have hI := lwI_mn hI0 hm0; have hQ := lwQ_kp hI0 hp0 hQ0
  unfold b_L_isTold_681 at h
  refine g_iand C dL_isTold_681 ?_
  refine q_topi (fun t65 et65 => ?_)
  replace h := yl_of h et65
  refine g_istore (lv' := [(14, .int t65), (0, .ref (Q 0)), (1, .int x1), (2, .ref (Q 1)), (8, .ref (Q 9)), (9, .ref (Q 10)), (10, .ref (Q 11)), (11, .ref (Q 12)), (12, .ref (Q 13)), (13, .ref (Q 14)), (15, .int x15)]) C dL_isTold_682 (by decide) rfl ?_
  obtain ⟨t66, et66⟩ : ∃ y : Int32, x15 + (1 : Int32) = y := ⟨_, rfl⟩
  replace h := yl_of h et66
  refine g_iinc (v := t66) (lv' := [(15, .int t66), (14, .int t65), (0, .ref (Q 0)), (1, .int x1), (2, .ref (Q 1)), (8, .ref (Q 9)), (9, .ref (Q 10)), (10, .ref (Q 11)), (11, .ref (Q 12)), (12, .ref (Q 13)), (13, .ref (Q 14))]) C dL_isTold_684 10 rfl (by rw [← et66]; rfl) (by decide) rfl ?_
  refine g_goto (tgt := 216) C dL_isTold_687 (by decide) ?_
  refine g_lv [2, 3, 4, 5, 6, 7, 8, 9, 10, 1, 0] rfl ?_
  exact hk216 _ _ _ _ _ _ _ hm0 hp0 h
noncomputable def b_L_isTold_676 (k216 : MP → NC → AS → Int32 → Int32 → Int32 → Option (((MP × NC) × AS) × Int32)) (w : Nat) (μ : MP) (ν : NC) (a : AS) (x1 : Int32) (x15 : Int32) (s0 : Int32) : Option (((MP × NC) × AS) × Int32) := b_L_isTold_681 k216 w μ ν a x1 x15 (1 : Int32) s0
theorem mb_L_isTold_676 {w : Nat} {μ : MP} {ν : NC} {a : AS} {x1 : Int32} {x15 : Int32} {s0 : Int32} {r0 : ((MP × NC) × AS) × Int32} {k216 : MP → NC → AS → Int32 → Int32 → Int32 → Option (((MP × NC) × AS) × Int32)} (hmk216 : ∀ (μ : MP) (ν : NC) (a : AS) (z1 : Int32) (z14 : Int32) (z15 : Int32), k216 μ ν a z1 z14 z15 = some r0 → mn ν r0.1.1.2) (h : b_L_isTold_676 k216 w μ ν a x1 x15 s0 = some r0) : mn ν r0.1.1.2 := by
  unfold b_L_isTold_676 at h
  exact mb_L_isTold_681 hmk216 h
set_option maxHeartbeats 4000000 in
set_option maxRecDepth 100000 in
theorem lb_L_isTold_676 {p : Program} {l : Launch} (hl : l.stackTraces = false) {e : Env} {s : State} {m : MethodId} {args : Array Value} {below : List Frame} {meth : Method} {c : Code} {D : va_G} {E : Nat → ClassId} {sz : Nat} {μ0 : MP} {ν0 : NC} {a0 : AS} {Ad0 : Nat → Nat → Nat} {Q : Nat → Nat} {B : Nat × (Nat → Nat)} {w : Nat} {r0 : ((MP × NC) × AS) × Int32} (C : cx p s m args meth c D E (Aof (zS μ0 ν0 a0 Ad0) [] s.heap.size) cL_isTold 22 "TradeLineLaw") (hEv : eV (Ad0 30 0) (Ad0 31 0) B (Aof (zS μ0 ν0 a0 Ad0) [] s.heap.size) s s.heap) (hN : vN s) (hr : meth.sig.returnType = (some .boolean)) (hz : s.heap.size = sz) (hI0 : lwI ν0) (hQ0 : lwQ Ad0 Q) {μ : MP} {ν : NC} {a : AS} {Ad : Nat → Nat → Nat} (hm0 : mn ν0 ν) (hp0 : kp ν0 Ad0 Ad) {x1 : Int32} {x15 : Int32} {s0 : Int32} {k216 : MP → NC → AS → Int32 → Int32 → Int32 → Option (((MP × NC) × AS) × Int32)} (hmk216 : ∀ (μ : MP) (ν : NC) (a : AS) (z1 : Int32) (z14 : Int32) (z15 : Int32), k216 μ ν a z1 z14 z15 = some r0 → mn ν r0.1.1.2) (hk216 : ∀ (μ : MP) (ν : NC) (a : AS) (Ad : Nat → Nat → Nat) (z1 : Int32) (z14 : Int32) (z15 : Int32), mn ν0 ν → kp ν0 Ad0 Ad → k216 μ ν a z1 z14 z15 = some r0 → G p l e ({ frames := 11, cells := kc r0.1.1.2 - kc ν0, slots := ks r0.1.1.2 - ks ν0, locals := 229 } : Room) s m args below meth c D E (Aof (zS μ0 ν0 a0 Ad0) [] s.heap.size) 22 (MQ below (cQ D E sz (zS μ0 ν0 a0 Ad0) [] (pI (fun r u => r = r0.2 ∧ ∃ A1, u = (zS r0.1.1.1 r0.1.1.2 r0.1.2 A1, []) ∧ kp ν0 Ad0 A1))) args s (kc r0.1.1.2 - kc ν0) (ks r0.1.1.2 - ks ν0) (Aof (zS μ0 ν0 a0 Ad0) [] s.heap.size)) (zS μ ν a Ad) [] (kc ν - kc ν0) (ks ν - ks ν0) 216 [(0, .ref (Q 0)), (1, .int z1), (2, .ref (Q 1)), (8, .ref (Q 9)), (9, .ref (Q 10)), (10, .ref (Q 11)), (11, .ref (Q 12)), (12, .ref (Q 13)), (13, .ref (Q 14)), (14, .int z14), (15, .int z15)] []) (h : b_L_isTold_676 k216 w μ ν a x1 x15 s0 = some r0) : G p l e ({ frames := 11, cells := kc r0.1.1.2 - kc ν0, slots := ks r0.1.1.2 - ks ν0, locals := 229 } : Room) s m args below meth c D E (Aof (zS μ0 ν0 a0 Ad0) [] s.heap.size) 22 (MQ below (cQ D E sz (zS μ0 ν0 a0 Ad0) [] (pI (fun r u => r = r0.2 ∧ ∃ A1, u = (zS r0.1.1.1 r0.1.1.2 r0.1.2 A1, []) ∧ kp ν0 Ad0 A1))) args s (kc r0.1.1.2 - kc ν0) (ks r0.1.1.2 - ks ν0) (Aof (zS μ0 ν0 a0 Ad0) [] s.heap.size)) (zS μ ν a Ad) [] (kc ν - kc ν0) (ks ν - ks ν0) 676 [(0, .ref (Q 0)), (1, .int x1), (2, .ref (Q 1)), (8, .ref (Q 9)), (9, .ref (Q 10)), (10, .ref (Q 11)), (11, .ref (Q 12)), (12, .ref (Q 13)), (13, .ref (Q 14)), (15, .int x15)] [.int s0] := by
  have m0 := mb_L_isTold_676 hmk216 h
  have e1 := m0.2.1; have e2 := m0.2.2.1; have e3 := hm0.2.1; have e4 := hm0.2.2.1
  have hI := lwI_mn hI0 hm0; have hQ := lwQ_kp hI0 hp0 hQ0
  unfold b_L_isTold_676 at h
  refine g_iconst (v := (1 : Int32)) C dL_isTold_676 (by decide) ?_
  refine g_goto (tgt := 681) C dL_isTold_677 (by decide) ?_
  refine g_lv [0, 1, 2, 3, 4, 5, 6, 7, 8, 9] rfl ?_
  exact lb_L_isTold_681 hl C hEv hN hr hz hI0 hQ0 hm0 hp0 hmk216 hk216 h
noncomputable def b_L_isTold_680 (k216 : MP → NC → AS → Int32 → Int32 → Int32 → Option (((MP × NC) × AS) × Int32)) (w : Nat) (μ : MP) (ν : NC) (a : AS) (x1 : Int32) (x15 : Int32) (s0 : Int32) : Option (((MP × NC) × AS) × Int32) := b_L_isTold_681 k216 w μ ν a x1 x15 (0 : Int32) s0
theorem mb_L_isTold_680 {w : Nat} {μ : MP} {ν : NC} {a : AS} {x1 : Int32} {x15 : Int32} {s0 : Int32} {r0 : ((MP × NC) × AS) × Int32} {k216 : MP → NC → AS → Int32 → Int32 → Int32 → Option (((MP × NC) × AS) × Int32)} (hmk216 : ∀ (μ : MP) (ν : NC) (a : AS) (z1 : Int32) (z14 : Int32) (z15 : Int32), k216 μ ν a z1 z14 z15 = some r0 → mn ν r0.1.1.2) (h : b_L_isTold_680 k216 w μ ν a x1 x15 s0 = some r0) : mn ν r0.1.1.2 := by
  unfold b_L_isTold_680 at h
  exact mb_L_isTold_681 hmk216 h
set_option maxHeartbeats 4000000 in
set_option maxRecDepth 100000 in
theorem lb_L_isTold_680 {p : Program} {l : Launch} (hl : l.stackTraces = false) {e : Env} {s : State} {m : MethodId} {args : Array Value} {below : List Frame} {meth : Method} {c : Code} {D : va_G} {E : Nat → ClassId} {sz : Nat} {μ0 : MP} {ν0 : NC} {a0 : AS} {Ad0 : Nat → Nat → Nat} {Q : Nat → Nat} {B : Nat × (Nat → Nat)} {w : Nat} {r0 : ((MP × NC) × AS) × Int32} (C : cx p s m args meth c D E (Aof (zS μ0 ν0 a0 Ad0) [] s.heap.size) cL_isTold 22 "TradeLineLaw") (hEv : eV (Ad0 30 0) (Ad0 31 0) B (Aof (zS μ0 ν0 a0 Ad0) [] s.heap.size) s s.heap) (hN : vN s) (hr : meth.sig.returnType = (some .boolean)) (hz : s.heap.size = sz) (hI0 : lwI ν0) (hQ0 : lwQ Ad0 Q) {μ : MP} {ν : NC} {a : AS} {Ad : Nat → Nat → Nat} (hm0 : mn ν0 ν) (hp0 : kp ν0 Ad0 Ad) {x1 : Int32} {x15 : Int32} {s0 : Int32} {k216 : MP → NC → AS → Int32 → Int32 → Int32 → Option (((MP × NC) × AS) × Int32)} (hmk216 : ∀ (μ : MP) (ν : NC) (a : AS) (z1 : Int32) (z14 : Int32) (z15 : Int32), k216 μ ν a z1 z14 z15 = some r0 → mn ν r0.1.1.2) (hk216 : ∀ (μ : MP) (ν : NC) (a : AS) (Ad : Nat → Nat → Nat) (z1 : Int32) (z14 : Int32) (z15 : Int32), mn ν0 ν → kp ν0 Ad0 Ad → k216 μ ν a z1 z14 z15 = some r0 → G p l e ({ frames := 11, cells := kc r0.1.1.2 - kc ν0, slots := ks r0.1.1.2 - ks ν0, locals := 229 } : Room) s m args below meth c D E (Aof (zS μ0 ν0 a0 Ad0) [] s.heap.size) 22 (MQ below (cQ D E sz (zS μ0 ν0 a0 Ad0) [] (pI (fun r u => r = r0.2 ∧ ∃ A1, u = (zS r0.1.1.1 r0.1.1.2 r0.1.2 A1, []) ∧ kp ν0 Ad0 A1))) args s (kc r0.1.1.2 - kc ν0) (ks r0.1.1.2 - ks ν0) (Aof (zS μ0 ν0 a0 Ad0) [] s.heap.size)) (zS μ ν a Ad) [] (kc ν - kc ν0) (ks ν - ks ν0) 216 [(0, .ref (Q 0)), (1, .int z1), (2, .ref (Q 1)), (8, .ref (Q 9)), (9, .ref (Q 10)), (10, .ref (Q 11)), (11, .ref (Q 12)), (12, .ref (Q 13)), (13, .ref (Q 14)), (14, .int z14), (15, .int z15)] []) (h : b_L_isTold_680 k216 w μ ν a x1 x15 s0 = some r0) : G p l e ({ frames := 11, cells := kc r0.1.1.2 - kc ν0, slots := ks r0.1.1.2 - ks ν0, locals := 229 } : Room) s m args below meth c D E (Aof (zS μ0 ν0 a0 Ad0) [] s.heap.size) 22 (MQ below (cQ D E sz (zS μ0 ν0 a0 Ad0) [] (pI (fun r u => r = r0.2 ∧ ∃ A1, u = (zS r0.1.1.1 r0.1.1.2 r0.1.2 A1, []) ∧ kp ν0 Ad0 A1))) args s (kc r0.1.1.2 - kc ν0) (ks r0.1.1.2 - ks ν0) (Aof (zS μ0 ν0 a0 Ad0) [] s.heap.size)) (zS μ ν a Ad) [] (kc ν - kc ν0) (ks ν - ks ν0) 680 [(0, .ref (Q 0)), (1, .int x1), (2, .ref (Q 1)), (8, .ref (Q 9)), (9, .ref (Q 10)), (10, .ref (Q 11)), (11, .ref (Q 12)), (12, .ref (Q 13)), (13, .ref (Q 14)), (15, .int x15)] [.int s0] := by
  have m0 := mb_L_isTold_680 hmk216 h
  have e1 := m0.2.1; have e2 := m0.2.2.1; have e3 := hm0.2.1; have e4 := hm0.2.2.1
  have hI := lwI_mn hI0 hm0; have hQ := lwQ_kp hI0 hp0 hQ0
  unfold b_L_isTold_680 at h
  refine g_iconst (v := (0 : Int32)) C dL_isTold_680 (by decide) ?_
  refine g_lv [0, 1, 2, 3, 4, 5, 6, 7, 8, 9] rfl ?_
  exact lb_L_isTold_681 hl C hEv hN hr hz hI0 hQ0 hm0 hp0 hmk216 hk216 h
noncomputable def b_L_isTold_613 (k216 : MP → NC → AS → Int32 → Int32 → Int32 → Option (((MP × NC) × AS) × Int32)) (w : Nat) (μ : MP) (ν : NC) (a : AS) (x1 : Int32) (x14 : Int32) (x15 : Int32) (x16 : Int32) (x18 : Int32) (s0 : Int32) (s1 : Int32) : Option (((MP × NC) × AS) × Int32) := (if s1 = s0 then ((if x16 = (0 : Int32) then (b_L_isTold_676 k216 w μ ν a x1 x15 x14) else ((f_L_rest w a ((10 : Int32) + x15)).bind (fun v67 => (if x18 = v67 then (bif ixB x15 20 then bif ixB ((10 : Int32) + x15) 20 then (if (a 10 x15.toNatClampNeg) = (a 10 ((10 : Int32) + x15).toNatClampNeg) then ((if (a 11 x15.toNatClampNeg) = (a 11 ((10 : Int32) + x15).toNatClampNeg) then (b_L_isTold_676 k216 w μ ν a x1 x15 x14) else (b_L_isTold_680 k216 w μ ν a x1 x15 x14))) else (b_L_isTold_680 k216 w μ ν a x1 x15 x14)) else none else none) else (b_L_isTold_680 k216 w μ ν a x1 x15 x14)))))) else (some (((μ, ν), a), (0 : Int32))))
theorem mb_L_isTold_613 {w : Nat} {μ : MP} {ν : NC} {a : AS} {x1 : Int32} {x14 : Int32} {x15 : Int32} {x16 : Int32} {x18 : Int32} {s0 : Int32} {s1 : Int32} {r0 : ((MP × NC) × AS) × Int32} {k216 : MP → NC → AS → Int32 → Int32 → Int32 → Option (((MP × NC) × AS) × Int32)} (hmk216 : ∀ (μ : MP) (ν : NC) (a : AS) (z1 : Int32) (z14 : Int32) (z15 : Int32), k216 μ ν a z1 z14 z15 = some r0 → mn ν r0.1.1.2) (h : b_L_isTold_613 k216 w μ ν a x1 x14 x15 x16 x18 s0 s1 = some r0) : mn ν r0.1.1.2 := by
  unfold b_L_isTold_613 at h
  by_cases c613 : s1 = s0
  · replace h := (if_pos c613).symm.trans h
    by_cases c622 : x16 = (0 : Int32)
    · replace h := (if_pos c622).symm.trans h
      exact mb_L_isTold_676 hmk216 h
    · replace h := (if_neg c622).symm.trans h
      obtain ⟨v67, hv67, h⟩ := bind_of h
      by_cases c641 : x18 = v67
      · replace h := (if_pos c641).symm.trans h
        replace h := (of_guard h).2
        replace h := (of_guard h).2
        by_cases c657 : (a 10 x15.toNatClampNeg) = (a 10 ((10 : Int32) + x15).toNatClampNeg)
        · replace h := (if_pos c657).symm.trans h
          by_cases c673 : (a 11 x15.toNatClampNeg) = (a 11 ((10 : Int32) + x15).toNatClampNeg)
          · replace h := (if_pos c673).symm.trans h
            exact mb_L_isTold_676 hmk216 h
          · replace h := (if_neg c673).symm.trans h
            exact mb_L_isTold_680 hmk216 h
        · replace h := (if_neg c657).symm.trans h
          exact mb_L_isTold_680 hmk216 h
      · replace h := (if_neg c641).symm.trans h
        exact mb_L_isTold_680 hmk216 h
  · replace h := (if_neg c613).symm.trans h
    obtain rfl := Option.some.inj h
    exact mn_rfl _
set_option maxHeartbeats 4000000 in
set_option maxRecDepth 100000 in
theorem lb_L_isTold_613 {p : Program} {l : Launch} (hl : l.stackTraces = false) {e : Env} {s : State} {m : MethodId} {args : Array Value} {below : List Frame} {meth : Method} {c : Code} {D : va_G} {E : Nat → ClassId} {sz : Nat} {μ0 : MP} {ν0 : NC} {a0 : AS} {Ad0 : Nat → Nat → Nat} {Q : Nat → Nat} {B : Nat × (Nat → Nat)} {w : Nat} {r0 : ((MP × NC) × AS) × Int32} (C : cx p s m args meth c D E (Aof (zS μ0 ν0 a0 Ad0) [] s.heap.size) cL_isTold 22 "TradeLineLaw") (hEv : eV (Ad0 30 0) (Ad0 31 0) B (Aof (zS μ0 ν0 a0 Ad0) [] s.heap.size) s s.heap) (hN : vN s) (hr : meth.sig.returnType = (some .boolean)) (hz : s.heap.size = sz) (hI0 : lwI ν0) (hQ0 : lwQ Ad0 Q) {μ : MP} {ν : NC} {a : AS} {Ad : Nat → Nat → Nat} (hm0 : mn ν0 ν) (hp0 : kp ν0 Ad0 Ad) {x1 : Int32} {x14 : Int32} {x15 : Int32} {x16 : Int32} {x18 : Int32} {s0 : Int32} {s1 : Int32} {k216 : MP → NC → AS → Int32 → Int32 → Int32 → Option (((MP × NC) × AS) × Int32)} (hmk216 : ∀ (μ : MP) (ν : NC) (a : AS) (z1 : Int32) (z14 : Int32) (z15 : Int32), k216 μ ν a z1 z14 z15 = some r0 → mn ν r0.1.1.2) (hk216 : ∀ (μ : MP) (ν : NC) (a : AS) (Ad : Nat → Nat → Nat) (z1 : Int32) (z14 : Int32) (z15 : Int32), mn ν0 ν → kp ν0 Ad0 Ad → k216 μ ν a z1 z14 z15 = some r0 → G p l e ({ frames := 11, cells := kc r0.1.1.2 - kc ν0, slots := ks r0.1.1.2 - ks ν0, locals := 229 } : Room) s m args below meth c D E (Aof (zS μ0 ν0 a0 Ad0) [] s.heap.size) 22 (MQ below (cQ D E sz (zS μ0 ν0 a0 Ad0) [] (pI (fun r u => r = r0.2 ∧ ∃ A1, u = (zS r0.1.1.1 r0.1.1.2 r0.1.2 A1, []) ∧ kp ν0 Ad0 A1))) args s (kc r0.1.1.2 - kc ν0) (ks r0.1.1.2 - ks ν0) (Aof (zS μ0 ν0 a0 Ad0) [] s.heap.size)) (zS μ ν a Ad) [] (kc ν - kc ν0) (ks ν - ks ν0) 216 [(0, .ref (Q 0)), (1, .int z1), (2, .ref (Q 1)), (8, .ref (Q 9)), (9, .ref (Q 10)), (10, .ref (Q 11)), (11, .ref (Q 12)), (12, .ref (Q 13)), (13, .ref (Q 14)), (14, .int z14), (15, .int z15)] []) (h : b_L_isTold_613 k216 w μ ν a x1 x14 x15 x16 x18 s0 s1 = some r0) : G p l e ({ frames := 11, cells := kc r0.1.1.2 - kc ν0, slots := ks r0.1.1.2 - ks ν0, locals := 229 } : Room) s m args below meth c D E (Aof (zS μ0 ν0 a0 Ad0) [] s.heap.size) 22 (MQ below (cQ D E sz (zS μ0 ν0 a0 Ad0) [] (pI (fun r u => r = r0.2 ∧ ∃ A1, u = (zS r0.1.1.1 r0.1.1.2 r0.1.2 A1, []) ∧ kp ν0 Ad0 A1))) args s (kc r0.1.1.2 - kc ν0) (ks r0.1.1.2 - ks ν0) (Aof (zS μ0 ν0 a0 Ad0) [] s.heap.size)) (zS μ ν a Ad) [] (kc ν - kc ν0) (ks ν - ks ν0) 613 [(0, .ref (Q 0)), (1, .int x1), (2, .ref (Q 1)), (8, .ref (Q 9)), (9, .ref (Q 10)), (10, .ref (Q 11)), (11, .ref (Q 12)), (12, .ref (Q 13)), (13, .ref (Q 14)), (14, .int x14), (15, .int x15), (16, .int x16), (18, .int x18)] [.int s0, .int s1] := by
  have m0 := mb_L_isTold_613 hmk216 h
  have e1 := m0.2.1; have e2 := m0.2.2.1; have e3 := hm0.2.1; have e4 := hm0.2.2.1
  have hI := lwI_mn hI0 hm0; have hQ := lwQ_kp hI0 hp0 hQ0
  unfold b_L_isTold_613 at h
  refine g_icmp_eq (tgt := 618) C dL_isTold_613 (by decide) (fun c613 => ?_) (fun c613 => ?_)
  · replace h := (if_pos c613).symm.trans h
    refine g_iload C dL_isTold_618 9 rfl ?_
    refine g_iload C dL_isTold_620 11 rfl ?_
    refine g_if_eq (tgt := 676) C dL_isTold_622 (by decide) (fun c622 => ?_) (fun c622 => ?_)
    · replace h := (if_pos c622).symm.trans h
      refine g_lv [0, 1, 2, 3, 4, 5, 6, 7, 8, 10] rfl ?_
      exact lb_L_isTold_676 hl C hEv hN hr hz hI0 hQ0 hm0 hp0 hmk216 hk216 h
    · replace h := (if_neg c622).symm.trans h
      refine g_iload C dL_isTold_625 12 rfl ?_
      refine g_aload C dL_isTold_627 3 rfl ?_
      refine g_aload C dL_isTold_629 4 rfl ?_
      refine g_aload C dL_isTold_631 5 rfl ?_
      refine g_bipush (v := (10 : Int32)) C dL_isTold_633 (by decide) ?_
      refine g_iload C dL_isTold_635 10 rfl ?_
      refine g_iadd C dL_isTold_637 ?_
      obtain ⟨v67, hv67, h⟩ := bind_of h
      refine g_cSi (n := 4) (exc := []) (exr := []) C [_, _, _, _] _ rfl rfl [] [] rfl rfl rfl rfl (fun _ h => absurd h (by simp)) (fun _ h => absurd h (by simp)) (fun _ h => absurd h (by simp)) (fun sz => wk_L_rest l _ ν _ Ad Q hI hQ w _  _ hv67 D E sz) rfl gw_1035 gw_0 gw_1033 gw_1034 ⟨by decide +kernel, by decide +kernel, by decide +kernel⟩ ⟨rfl, rfl⟩ ⟨Nat.le_of_ble_eq_true rfl, Nat.le_of_ble_eq_true rfl⟩ (Nat.le_of_ble_eq_true rfl) dL_isTold_638 ⟨by show (kc ν - kc ν0) + 0 ≤ kc r0.1.1.2 - kc ν0; omega, by show (ks ν - ks ν0) + 0 ≤ ks r0.1.1.2 - ks ν0; omega⟩ (fun r u hp hx => ?_)
      obtain ⟨er, rfl⟩ := hp
      rw [er]
      try dsimp only [List.append_nil]
      refine g_icmp_ne (tgt := 680) C dL_isTold_641 (by decide) (fun c641 => ?_) (fun c641 => ?_)
      · replace h := (if_neg c641).symm.trans h
        refine g_lv [0, 1, 2, 3, 4, 5, 6, 7, 8, 10] rfl ?_
        exact lb_L_isTold_680 hl C hEv hN hr hz hI0 hQ0 hm0 hp0 hmk216 hk216 h
      · replace h := (if_pos c641).symm.trans h
        refine g_aload C dL_isTold_644 4 rfl ?_
        refine g_iload C dL_isTold_646 10 rfl ?_
        obtain ⟨g68, h⟩ := of_guard h
        refine q_iald C (show rsh (ν.1, μ.2, ν.2, Ad) from hI.2) (j := 10) (N := 20) (by decide) (lwQ_i hQ (j := 10) (N := 20) (by decide)) g68 dL_isTold_648 ?_
        refine g_aload C dL_isTold_649 4 rfl ?_
        refine g_bipush (v := (10 : Int32)) C dL_isTold_651 (by decide) ?_
        refine g_iload C dL_isTold_653 10 rfl ?_
        refine g_iadd C dL_isTold_655 ?_
        obtain ⟨g69, h⟩ := of_guard h
        refine q_iald C (show rsh (ν.1, μ.2, ν.2, Ad) from hI.2) (j := 10) (N := 20) (by decide) (lwQ_i hQ (j := 10) (N := 20) (by decide)) g69 dL_isTold_656 ?_
        refine g_icmp_ne (tgt := 680) C dL_isTold_657 (by decide) (fun c657 => ?_) (fun c657 => ?_)
        · replace h := (if_neg c657).symm.trans h
          refine g_lv [0, 1, 2, 3, 4, 5, 6, 7, 8, 10] rfl ?_
          exact lb_L_isTold_680 hl C hEv hN hr hz hI0 hQ0 hm0 hp0 hmk216 hk216 h
        · replace h := (if_pos c657).symm.trans h
          refine g_aload C dL_isTold_660 5 rfl ?_
          refine g_iload C dL_isTold_662 10 rfl ?_
          refine q_iald C (show rsh (ν.1, μ.2, ν.2, Ad) from hI.2) (j := 11) (N := 20) (by decide) (lwQ_i hQ (j := 11) (N := 20) (by decide)) g68 dL_isTold_664 ?_
          refine g_aload C dL_isTold_665 5 rfl ?_
          refine g_bipush (v := (10 : Int32)) C dL_isTold_667 (by decide) ?_
          refine g_iload C dL_isTold_669 10 rfl ?_
          refine g_iadd C dL_isTold_671 ?_
          refine q_iald C (show rsh (ν.1, μ.2, ν.2, Ad) from hI.2) (j := 11) (N := 20) (by decide) (lwQ_i hQ (j := 11) (N := 20) (by decide)) g69 dL_isTold_672 ?_
          refine g_icmp_ne (tgt := 680) C dL_isTold_673 (by decide) (fun c673 => ?_) (fun c673 => ?_)
          · replace h := (if_neg c673).symm.trans h
            refine g_lv [0, 1, 2, 3, 4, 5, 6, 7, 8, 10] rfl ?_
            exact lb_L_isTold_680 hl C hEv hN hr hz hI0 hQ0 hm0 hp0 hmk216 hk216 h
          · replace h := (if_pos c673).symm.trans h
            refine g_lv [0, 1, 2, 3, 4, 5, 6, 7, 8, 10] rfl ?_
            exact lb_L_isTold_676 hl C hEv hN hr hz hI0 hQ0 hm0 hp0 hmk216 hk216 h
  · replace h := (if_neg c613).symm.trans h
    refine g_iconst (v := (0 : Int32)) C dL_isTold_616 (by decide) ?_
    obtain rfl := Option.some.inj h
    exact g_iret C hr rfl hz ⟨(hm0.2.2.2 30 (by decide) (by decide)).1, (hm0.2.2.2 31 (by decide) (by decide)).1, hp0.2.1, hp0.2.2⟩ ⟨rfl, Ad, rfl, hp0⟩ (fun j x h => by simp at h) dL_isTold_617
noncomputable def b_L_isTold_596 (k216 : MP → NC → AS → Int32 → Int32 → Int32 → Option (((MP × NC) × AS) × Int32)) (w : Nat) (μ : MP) (ν : NC) (a : AS) (x1 : Int32) (x14 : Int32) (x15 : Int32) (x16 : Int32) (x18 : Int32) (s0 : Int32) : Option (((MP × NC) × AS) × Int32) := (if x16 = (0 : Int32) then (b_L_isTold_613 k216 w μ ν a x1 x14 x15 x16 x18 (-1 : Int32) s0) else (bif ixB ((10 : Int32) + x15) 20 then b_L_isTold_613 k216 w μ ν a x1 x14 x15 x16 x18 (a 11 ((10 : Int32) + x15).toNatClampNeg) s0 else none))
theorem mb_L_isTold_596 {w : Nat} {μ : MP} {ν : NC} {a : AS} {x1 : Int32} {x14 : Int32} {x15 : Int32} {x16 : Int32} {x18 : Int32} {s0 : Int32} {r0 : ((MP × NC) × AS) × Int32} {k216 : MP → NC → AS → Int32 → Int32 → Int32 → Option (((MP × NC) × AS) × Int32)} (hmk216 : ∀ (μ : MP) (ν : NC) (a : AS) (z1 : Int32) (z14 : Int32) (z15 : Int32), k216 μ ν a z1 z14 z15 = some r0 → mn ν r0.1.1.2) (h : b_L_isTold_596 k216 w μ ν a x1 x14 x15 x16 x18 s0 = some r0) : mn ν r0.1.1.2 := by
  unfold b_L_isTold_596 at h
  by_cases c598 : x16 = (0 : Int32)
  · replace h := (if_pos c598).symm.trans h
    exact mb_L_isTold_613 hmk216 h
  · replace h := (if_neg c598).symm.trans h
    replace h := (of_guard h).2
    exact mb_L_isTold_613 hmk216 h
set_option maxHeartbeats 4000000 in
set_option maxRecDepth 100000 in
theorem lb_L_isTold_596 {p : Program} {l : Launch} (hl : l.stackTraces = false) {e : Env} {s : State} {m : MethodId} {args : Array Value} {below : List Frame} {meth : Method} {c : Code} {D : va_G} {E : Nat → ClassId} {sz : Nat} {μ0 : MP} {ν0 : NC} {a0 : AS} {Ad0 : Nat → Nat → Nat} {Q : Nat → Nat} {B : Nat × (Nat → Nat)} {w : Nat} {r0 : ((MP × NC) × AS) × Int32} (C : cx p s m args meth c D E (Aof (zS μ0 ν0 a0 Ad0) [] s.heap.size) cL_isTold 22 "TradeLineLaw") (hEv : eV (Ad0 30 0) (Ad0 31 0) B (Aof (zS μ0 ν0 a0 Ad0) [] s.heap.size) s s.heap) (hN : vN s) (hr : meth.sig.returnType = (some .boolean)) (hz : s.heap.size = sz) (hI0 : lwI ν0) (hQ0 : lwQ Ad0 Q) {μ : MP} {ν : NC} {a : AS} {Ad : Nat → Nat → Nat} (hm0 : mn ν0 ν) (hp0 : kp ν0 Ad0 Ad) {x1 : Int32} {x14 : Int32} {x15 : Int32} {x16 : Int32} {x18 : Int32} {s0 : Int32} {k216 : MP → NC → AS → Int32 → Int32 → Int32 → Option (((MP × NC) × AS) × Int32)} (hmk216 : ∀ (μ : MP) (ν : NC) (a : AS) (z1 : Int32) (z14 : Int32) (z15 : Int32), k216 μ ν a z1 z14 z15 = some r0 → mn ν r0.1.1.2) (hk216 : ∀ (μ : MP) (ν : NC) (a : AS) (Ad : Nat → Nat → Nat) (z1 : Int32) (z14 : Int32) (z15 : Int32), mn ν0 ν → kp ν0 Ad0 Ad → k216 μ ν a z1 z14 z15 = some r0 → G p l e ({ frames := 11, cells := kc r0.1.1.2 - kc ν0, slots := ks r0.1.1.2 - ks ν0, locals := 229 } : Room) s m args below meth c D E (Aof (zS μ0 ν0 a0 Ad0) [] s.heap.size) 22 (MQ below (cQ D E sz (zS μ0 ν0 a0 Ad0) [] (pI (fun r u => r = r0.2 ∧ ∃ A1, u = (zS r0.1.1.1 r0.1.1.2 r0.1.2 A1, []) ∧ kp ν0 Ad0 A1))) args s (kc r0.1.1.2 - kc ν0) (ks r0.1.1.2 - ks ν0) (Aof (zS μ0 ν0 a0 Ad0) [] s.heap.size)) (zS μ ν a Ad) [] (kc ν - kc ν0) (ks ν - ks ν0) 216 [(0, .ref (Q 0)), (1, .int z1), (2, .ref (Q 1)), (8, .ref (Q 9)), (9, .ref (Q 10)), (10, .ref (Q 11)), (11, .ref (Q 12)), (12, .ref (Q 13)), (13, .ref (Q 14)), (14, .int z14), (15, .int z15)] []) (h : b_L_isTold_596 k216 w μ ν a x1 x14 x15 x16 x18 s0 = some r0) : G p l e ({ frames := 11, cells := kc r0.1.1.2 - kc ν0, slots := ks r0.1.1.2 - ks ν0, locals := 229 } : Room) s m args below meth c D E (Aof (zS μ0 ν0 a0 Ad0) [] s.heap.size) 22 (MQ below (cQ D E sz (zS μ0 ν0 a0 Ad0) [] (pI (fun r u => r = r0.2 ∧ ∃ A1, u = (zS r0.1.1.1 r0.1.1.2 r0.1.2 A1, []) ∧ kp ν0 Ad0 A1))) args s (kc r0.1.1.2 - kc ν0) (ks r0.1.1.2 - ks ν0) (Aof (zS μ0 ν0 a0 Ad0) [] s.heap.size)) (zS μ ν a Ad) [] (kc ν - kc ν0) (ks ν - ks ν0) 596 [(0, .ref (Q 0)), (1, .int x1), (2, .ref (Q 1)), (8, .ref (Q 9)), (9, .ref (Q 10)), (10, .ref (Q 11)), (11, .ref (Q 12)), (12, .ref (Q 13)), (13, .ref (Q 14)), (14, .int x14), (15, .int x15), (16, .int x16), (18, .int x18)] [.int s0] := by
  have m0 := mb_L_isTold_596 hmk216 h
  have e1 := m0.2.1; have e2 := m0.2.2.1; have e3 := hm0.2.1; have e4 := hm0.2.2.1
  have hI := lwI_mn hI0 hm0; have hQ := lwQ_kp hI0 hp0 hQ0
  unfold b_L_isTold_596 at h
  refine g_iload C dL_isTold_596 11 rfl ?_
  refine g_if_eq (tgt := 612) C dL_isTold_598 (by decide) (fun c598 => ?_) (fun c598 => ?_)
  · replace h := (if_pos c598).symm.trans h
    refine g_iconst (v := (-1 : Int32)) C dL_isTold_612 (by decide) ?_
    refine g_lv [0, 1, 2, 3, 4, 5, 6, 7, 8, 9, 10, 11, 12] rfl ?_
    exact lb_L_isTold_613 hl C hEv hN hr hz hI0 hQ0 hm0 hp0 hmk216 hk216 h
  · replace h := (if_neg c598).symm.trans h
    refine g_aload C dL_isTold_601 5 rfl ?_
    refine g_bipush (v := (10 : Int32)) C dL_isTold_603 (by decide) ?_
    refine g_iload C dL_isTold_605 10 rfl ?_
    refine g_iadd C dL_isTold_607 ?_
    obtain ⟨g70, h⟩ := of_guard h
    refine q_iald C (show rsh (ν.1, μ.2, ν.2, Ad) from hI.2) (j := 11) (N := 20) (by decide) (lwQ_i hQ (j := 11) (N := 20) (by decide)) g70 dL_isTold_608 ?_
    refine g_goto (tgt := 613) C dL_isTold_609 (by decide) ?_
    refine g_lv [0, 1, 2, 3, 4, 5, 6, 7, 8, 9, 10, 11, 12] rfl ?_
    exact lb_L_isTold_613 hl C hEv hN hr hz hI0 hQ0 hm0 hp0 hmk216 hk216 h
noncomputable def b_L_isTold_586 (k216 : MP → NC → AS → Int32 → Int32 → Int32 → Option (((MP × NC) × AS) × Int32)) (w : Nat) (μ : MP) (ν : NC) (a : AS) (x1 : Int32) (x14 : Int32) (x15 : Int32) (x16 : Int32) (x18 : Int32) (s0 : Int32) (s1 : Int32) : Option (((MP × NC) × AS) × Int32) := (if s1 = s0 then ((f_L_out w μ ν (1 : Int32) x15).bind (fun v64 => b_L_isTold_596 k216 w v64.1.1 v64.1.2 a x1 x14 x15 x16 x18 v64.2)) else (some (((μ, ν), a), (0 : Int32))))
theorem mb_L_isTold_586 {w : Nat} {μ : MP} {ν : NC} {a : AS} {x1 : Int32} {x14 : Int32} {x15 : Int32} {x16 : Int32} {x18 : Int32} {s0 : Int32} {s1 : Int32} {r0 : ((MP × NC) × AS) × Int32} {k216 : MP → NC → AS → Int32 → Int32 → Int32 → Option (((MP × NC) × AS) × Int32)} (hmk216 : ∀ (μ : MP) (ν : NC) (a : AS) (z1 : Int32) (z14 : Int32) (z15 : Int32), k216 μ ν a z1 z14 z15 = some r0 → mn ν r0.1.1.2) (h : b_L_isTold_586 k216 w μ ν a x1 x14 x15 x16 x18 s0 s1 = some r0) : mn ν r0.1.1.2 := by
  unfold b_L_isTold_586 at h
  by_cases c586 : s1 = s0
  · replace h := (if_pos c586).symm.trans h
    obtain ⟨v64, hv64, h⟩ := bind_of h
    exact mn_trans (m_L_out hv64) (mb_L_isTold_596 hmk216 h)
  · replace h := (if_neg c586).symm.trans h
    obtain rfl := Option.some.inj h
    exact mn_rfl _
set_option maxHeartbeats 4000000 in
set_option maxRecDepth 100000 in
theorem lb_L_isTold_586 {p : Program} {l : Launch} (hl : l.stackTraces = false) {e : Env} {s : State} {m : MethodId} {args : Array Value} {below : List Frame} {meth : Method} {c : Code} {D : va_G} {E : Nat → ClassId} {sz : Nat} {μ0 : MP} {ν0 : NC} {a0 : AS} {Ad0 : Nat → Nat → Nat} {Q : Nat → Nat} {B : Nat × (Nat → Nat)} {w : Nat} {r0 : ((MP × NC) × AS) × Int32} (C : cx p s m args meth c D E (Aof (zS μ0 ν0 a0 Ad0) [] s.heap.size) cL_isTold 22 "TradeLineLaw") (hEv : eV (Ad0 30 0) (Ad0 31 0) B (Aof (zS μ0 ν0 a0 Ad0) [] s.heap.size) s s.heap) (hN : vN s) (hr : meth.sig.returnType = (some .boolean)) (hz : s.heap.size = sz) (hI0 : lwI ν0) (hQ0 : lwQ Ad0 Q) {μ : MP} {ν : NC} {a : AS} {Ad : Nat → Nat → Nat} (hm0 : mn ν0 ν) (hp0 : kp ν0 Ad0 Ad) {x1 : Int32} {x14 : Int32} {x15 : Int32} {x16 : Int32} {x18 : Int32} {s0 : Int32} {s1 : Int32} {k216 : MP → NC → AS → Int32 → Int32 → Int32 → Option (((MP × NC) × AS) × Int32)} (hmk216 : ∀ (μ : MP) (ν : NC) (a : AS) (z1 : Int32) (z14 : Int32) (z15 : Int32), k216 μ ν a z1 z14 z15 = some r0 → mn ν r0.1.1.2) (hk216 : ∀ (μ : MP) (ν : NC) (a : AS) (Ad : Nat → Nat → Nat) (z1 : Int32) (z14 : Int32) (z15 : Int32), mn ν0 ν → kp ν0 Ad0 Ad → k216 μ ν a z1 z14 z15 = some r0 → G p l e ({ frames := 11, cells := kc r0.1.1.2 - kc ν0, slots := ks r0.1.1.2 - ks ν0, locals := 229 } : Room) s m args below meth c D E (Aof (zS μ0 ν0 a0 Ad0) [] s.heap.size) 22 (MQ below (cQ D E sz (zS μ0 ν0 a0 Ad0) [] (pI (fun r u => r = r0.2 ∧ ∃ A1, u = (zS r0.1.1.1 r0.1.1.2 r0.1.2 A1, []) ∧ kp ν0 Ad0 A1))) args s (kc r0.1.1.2 - kc ν0) (ks r0.1.1.2 - ks ν0) (Aof (zS μ0 ν0 a0 Ad0) [] s.heap.size)) (zS μ ν a Ad) [] (kc ν - kc ν0) (ks ν - ks ν0) 216 [(0, .ref (Q 0)), (1, .int z1), (2, .ref (Q 1)), (8, .ref (Q 9)), (9, .ref (Q 10)), (10, .ref (Q 11)), (11, .ref (Q 12)), (12, .ref (Q 13)), (13, .ref (Q 14)), (14, .int z14), (15, .int z15)] []) (h : b_L_isTold_586 k216 w μ ν a x1 x14 x15 x16 x18 s0 s1 = some r0) : G p l e ({ frames := 11, cells := kc r0.1.1.2 - kc ν0, slots := ks r0.1.1.2 - ks ν0, locals := 229 } : Room) s m args below meth c D E (Aof (zS μ0 ν0 a0 Ad0) [] s.heap.size) 22 (MQ below (cQ D E sz (zS μ0 ν0 a0 Ad0) [] (pI (fun r u => r = r0.2 ∧ ∃ A1, u = (zS r0.1.1.1 r0.1.1.2 r0.1.2 A1, []) ∧ kp ν0 Ad0 A1))) args s (kc r0.1.1.2 - kc ν0) (ks r0.1.1.2 - ks ν0) (Aof (zS μ0 ν0 a0 Ad0) [] s.heap.size)) (zS μ ν a Ad) [] (kc ν - kc ν0) (ks ν - ks ν0) 586 [(0, .ref (Q 0)), (1, .int x1), (2, .ref (Q 1)), (8, .ref (Q 9)), (9, .ref (Q 10)), (10, .ref (Q 11)), (11, .ref (Q 12)), (12, .ref (Q 13)), (13, .ref (Q 14)), (14, .int x14), (15, .int x15), (16, .int x16), (18, .int x18)] [.int s0, .int s1] := by
  have m0 := mb_L_isTold_586 hmk216 h
  have e1 := m0.2.1; have e2 := m0.2.2.1; have e3 := hm0.2.1; have e4 := hm0.2.2.1
  have hI := lwI_mn hI0 hm0; have hQ := lwQ_kp hI0 hp0 hQ0
  unfold b_L_isTold_586 at h
  refine g_icmp_ne (tgt := 616) C dL_isTold_586 (by decide) (fun c586 => ?_) (fun c586 => ?_)
  · replace h := (if_neg c586).symm.trans h
    refine g_iconst (v := (0 : Int32)) C dL_isTold_616 (by decide) ?_
    obtain rfl := Option.some.inj h
    exact g_iret C hr rfl hz ⟨(hm0.2.2.2 30 (by decide) (by decide)).1, (hm0.2.2.2 31 (by decide) (by decide)).1, hp0.2.1, hp0.2.2⟩ ⟨rfl, Ad, rfl, hp0⟩ (fun j x h => by simp at h) dL_isTold_617
  · replace h := (if_pos c586).symm.trans h
    refine g_aload_n C dL_isTold_589 rfl 0 rfl ?_
    refine g_iconst (v := (1 : Int32)) C dL_isTold_590 (by decide) ?_
    refine g_iload C dL_isTold_591 10 rfl ?_
    obtain ⟨v64, hv64, h⟩ := bind_of h
    have m2 := m_L_out hv64
    have m3 := mb_L_isTold_596 hmk216 h
    have a1 := hm0.2.1; have a2 := hm0.2.2.1; have b1 := m2.2.1; have b2 := m2.2.2.1; have d1 := m3.2.1; have d2 := m3.2.2.1
    refine g_cSh (n := 3) (exr := []) C hEv hN ⟨hp0.2.1 0, hp0.2.2 0⟩ [_, _, _] _ rfl rfl [] rfl rfl (fun sz => wc_L_out l hl B _ ν _ Ad Q hI hQ w _ _ _ hv64 D E sz) rfl gh_out gw_0 gw_1362 gw_1363 ⟨by decide +kernel, by decide +kernel, by decide +kernel⟩ ⟨rfl, rfl⟩ ⟨Nat.le_of_ble_eq_true rfl, Nat.le_of_ble_eq_true rfl⟩ (Nat.le_of_ble_eq_true rfl) dL_isTold_593 ⟨by show (kc ν - kc ν0) + (kc v64.1.2 - kc ν) ≤ kc r0.1.1.2 - kc ν0; omega, by show (ks ν - ks ν0) + (ks v64.1.2 - ks ν) ≤ ks r0.1.1.2 - ks ν0; omega⟩ (fun r u hp hx => ?_)
    obtain ⟨er, A1, rfl, hkp⟩ := hp
    rw [er]
    try dsimp only [List.append_nil]
    refine g_widen (k := kc v64.1.2 - kc ν0) (n := ks v64.1.2 - ks ν0) (by omega) (by omega) ?_
    refine g_lv [0, 1, 2, 3, 4, 5, 6, 7, 8, 9, 10, 11, 12] rfl ?_
    exact lb_L_isTold_596 hl C hEv hN hr hz hI0 hQ0 (mn_trans hm0 m2) (kp_trans hp0 hm0 hkp) hmk216 hk216 h
noncomputable def b_L_isTold_569 (k216 : MP → NC → AS → Int32 → Int32 → Int32 → Option (((MP × NC) × AS) × Int32)) (w : Nat) (μ : MP) (ν : NC) (a : AS) (x1 : Int32) (x14 : Int32) (x15 : Int32) (x16 : Int32) (x18 : Int32) (s0 : Int32) : Option (((MP × NC) × AS) × Int32) := (if x16 = (0 : Int32) then (b_L_isTold_586 k216 w μ ν a x1 x14 x15 x16 x18 (-1 : Int32) s0) else (bif ixB ((10 : Int32) + x15) 20 then b_L_isTold_586 k216 w μ ν a x1 x14 x15 x16 x18 (a 10 ((10 : Int32) + x15).toNatClampNeg) s0 else none))
theorem mb_L_isTold_569 {w : Nat} {μ : MP} {ν : NC} {a : AS} {x1 : Int32} {x14 : Int32} {x15 : Int32} {x16 : Int32} {x18 : Int32} {s0 : Int32} {r0 : ((MP × NC) × AS) × Int32} {k216 : MP → NC → AS → Int32 → Int32 → Int32 → Option (((MP × NC) × AS) × Int32)} (hmk216 : ∀ (μ : MP) (ν : NC) (a : AS) (z1 : Int32) (z14 : Int32) (z15 : Int32), k216 μ ν a z1 z14 z15 = some r0 → mn ν r0.1.1.2) (h : b_L_isTold_569 k216 w μ ν a x1 x14 x15 x16 x18 s0 = some r0) : mn ν r0.1.1.2 := by
  unfold b_L_isTold_569 at h
  by_cases c571 : x16 = (0 : Int32)
  · replace h := (if_pos c571).symm.trans h
    exact mb_L_isTold_586 hmk216 h
  · replace h := (if_neg c571).symm.trans h
    replace h := (of_guard h).2
    exact mb_L_isTold_586 hmk216 h
set_option maxHeartbeats 4000000 in
set_option maxRecDepth 100000 in
theorem lb_L_isTold_569 {p : Program} {l : Launch} (hl : l.stackTraces = false) {e : Env} {s : State} {m : MethodId} {args : Array Value} {below : List Frame} {meth : Method} {c : Code} {D : va_G} {E : Nat → ClassId} {sz : Nat} {μ0 : MP} {ν0 : NC} {a0 : AS} {Ad0 : Nat → Nat → Nat} {Q : Nat → Nat} {B : Nat × (Nat → Nat)} {w : Nat} {r0 : ((MP × NC) × AS) × Int32} (C : cx p s m args meth c D E (Aof (zS μ0 ν0 a0 Ad0) [] s.heap.size) cL_isTold 22 "TradeLineLaw") (hEv : eV (Ad0 30 0) (Ad0 31 0) B (Aof (zS μ0 ν0 a0 Ad0) [] s.heap.size) s s.heap) (hN : vN s) (hr : meth.sig.returnType = (some .boolean)) (hz : s.heap.size = sz) (hI0 : lwI ν0) (hQ0 : lwQ Ad0 Q) {μ : MP} {ν : NC} {a : AS} {Ad : Nat → Nat → Nat} (hm0 : mn ν0 ν) (hp0 : kp ν0 Ad0 Ad) {x1 : Int32} {x14 : Int32} {x15 : Int32} {x16 : Int32} {x18 : Int32} {s0 : Int32} {k216 : MP → NC → AS → Int32 → Int32 → Int32 → Option (((MP × NC) × AS) × Int32)} (hmk216 : ∀ (μ : MP) (ν : NC) (a : AS) (z1 : Int32) (z14 : Int32) (z15 : Int32), k216 μ ν a z1 z14 z15 = some r0 → mn ν r0.1.1.2) (hk216 : ∀ (μ : MP) (ν : NC) (a : AS) (Ad : Nat → Nat → Nat) (z1 : Int32) (z14 : Int32) (z15 : Int32), mn ν0 ν → kp ν0 Ad0 Ad → k216 μ ν a z1 z14 z15 = some r0 → G p l e ({ frames := 11, cells := kc r0.1.1.2 - kc ν0, slots := ks r0.1.1.2 - ks ν0, locals := 229 } : Room) s m args below meth c D E (Aof (zS μ0 ν0 a0 Ad0) [] s.heap.size) 22 (MQ below (cQ D E sz (zS μ0 ν0 a0 Ad0) [] (pI (fun r u => r = r0.2 ∧ ∃ A1, u = (zS r0.1.1.1 r0.1.1.2 r0.1.2 A1, []) ∧ kp ν0 Ad0 A1))) args s (kc r0.1.1.2 - kc ν0) (ks r0.1.1.2 - ks ν0) (Aof (zS μ0 ν0 a0 Ad0) [] s.heap.size)) (zS μ ν a Ad) [] (kc ν - kc ν0) (ks ν - ks ν0) 216 [(0, .ref (Q 0)), (1, .int z1), (2, .ref (Q 1)), (8, .ref (Q 9)), (9, .ref (Q 10)), (10, .ref (Q 11)), (11, .ref (Q 12)), (12, .ref (Q 13)), (13, .ref (Q 14)), (14, .int z14), (15, .int z15)] []) (h : b_L_isTold_569 k216 w μ ν a x1 x14 x15 x16 x18 s0 = some r0) : G p l e ({ frames := 11, cells := kc r0.1.1.2 - kc ν0, slots := ks r0.1.1.2 - ks ν0, locals := 229 } : Room) s m args below meth c D E (Aof (zS μ0 ν0 a0 Ad0) [] s.heap.size) 22 (MQ below (cQ D E sz (zS μ0 ν0 a0 Ad0) [] (pI (fun r u => r = r0.2 ∧ ∃ A1, u = (zS r0.1.1.1 r0.1.1.2 r0.1.2 A1, []) ∧ kp ν0 Ad0 A1))) args s (kc r0.1.1.2 - kc ν0) (ks r0.1.1.2 - ks ν0) (Aof (zS μ0 ν0 a0 Ad0) [] s.heap.size)) (zS μ ν a Ad) [] (kc ν - kc ν0) (ks ν - ks ν0) 569 [(0, .ref (Q 0)), (1, .int x1), (2, .ref (Q 1)), (8, .ref (Q 9)), (9, .ref (Q 10)), (10, .ref (Q 11)), (11, .ref (Q 12)), (12, .ref (Q 13)), (13, .ref (Q 14)), (14, .int x14), (15, .int x15), (16, .int x16), (18, .int x18)] [.int s0] := by
  have m0 := mb_L_isTold_569 hmk216 h
  have e1 := m0.2.1; have e2 := m0.2.2.1; have e3 := hm0.2.1; have e4 := hm0.2.2.1
  have hI := lwI_mn hI0 hm0; have hQ := lwQ_kp hI0 hp0 hQ0
  unfold b_L_isTold_569 at h
  refine g_iload C dL_isTold_569 11 rfl ?_
  refine g_if_eq (tgt := 585) C dL_isTold_571 (by decide) (fun c571 => ?_) (fun c571 => ?_)
  · replace h := (if_pos c571).symm.trans h
    refine g_iconst (v := (-1 : Int32)) C dL_isTold_585 (by decide) ?_
    refine g_lv [0, 1, 2, 3, 4, 5, 6, 7, 8, 9, 10, 11, 12] rfl ?_
    exact lb_L_isTold_586 hl C hEv hN hr hz hI0 hQ0 hm0 hp0 hmk216 hk216 h
  · replace h := (if_neg c571).symm.trans h
    refine g_aload C dL_isTold_574 4 rfl ?_
    refine g_bipush (v := (10 : Int32)) C dL_isTold_576 (by decide) ?_
    refine g_iload C dL_isTold_578 10 rfl ?_
    refine g_iadd C dL_isTold_580 ?_
    obtain ⟨g71, h⟩ := of_guard h
    refine q_iald C (show rsh (ν.1, μ.2, ν.2, Ad) from hI.2) (j := 10) (N := 20) (by decide) (lwQ_i hQ (j := 10) (N := 20) (by decide)) g71 dL_isTold_581 ?_
    refine g_goto (tgt := 586) C dL_isTold_582 (by decide) ?_
    refine g_lv [0, 1, 2, 3, 4, 5, 6, 7, 8, 9, 10, 11, 12] rfl ?_
    exact lb_L_isTold_586 hl C hEv hN hr hz hI0 hQ0 hm0 hp0 hmk216 hk216 h
noncomputable def b_L_isTold_559 (k216 : MP → NC → AS → Int32 → Int32 → Int32 → Option (((MP × NC) × AS) × Int32)) (w : Nat) (μ : MP) (ν : NC) (a : AS) (x1 : Int32) (x14 : Int32) (x15 : Int32) (x16 : Int32) (x18 : Int32) (s0 : Int32) (s1 : Int32) : Option (((MP × NC) × AS) × Int32) := (if s1 = s0 then ((f_L_doneByLog w μ ν (1 : Int32) x15).bind (fun v63 => b_L_isTold_569 k216 w v63.1.1 v63.1.2 a x1 x14 x15 x16 x18 v63.2)) else (some (((μ, ν), a), (0 : Int32))))
theorem mb_L_isTold_559 {w : Nat} {μ : MP} {ν : NC} {a : AS} {x1 : Int32} {x14 : Int32} {x15 : Int32} {x16 : Int32} {x18 : Int32} {s0 : Int32} {s1 : Int32} {r0 : ((MP × NC) × AS) × Int32} {k216 : MP → NC → AS → Int32 → Int32 → Int32 → Option (((MP × NC) × AS) × Int32)} (hmk216 : ∀ (μ : MP) (ν : NC) (a : AS) (z1 : Int32) (z14 : Int32) (z15 : Int32), k216 μ ν a z1 z14 z15 = some r0 → mn ν r0.1.1.2) (h : b_L_isTold_559 k216 w μ ν a x1 x14 x15 x16 x18 s0 s1 = some r0) : mn ν r0.1.1.2 := by
  unfold b_L_isTold_559 at h
  by_cases c559 : s1 = s0
  · replace h := (if_pos c559).symm.trans h
    obtain ⟨v63, hv63, h⟩ := bind_of h
    exact mn_trans (m_L_doneByLog hv63) (mb_L_isTold_569 hmk216 h)
  · replace h := (if_neg c559).symm.trans h
    obtain rfl := Option.some.inj h
    exact mn_rfl _
set_option maxHeartbeats 4000000 in
set_option maxRecDepth 100000 in
theorem lb_L_isTold_559 {p : Program} {l : Launch} (hl : l.stackTraces = false) {e : Env} {s : State} {m : MethodId} {args : Array Value} {below : List Frame} {meth : Method} {c : Code} {D : va_G} {E : Nat → ClassId} {sz : Nat} {μ0 : MP} {ν0 : NC} {a0 : AS} {Ad0 : Nat → Nat → Nat} {Q : Nat → Nat} {B : Nat × (Nat → Nat)} {w : Nat} {r0 : ((MP × NC) × AS) × Int32} (C : cx p s m args meth c D E (Aof (zS μ0 ν0 a0 Ad0) [] s.heap.size) cL_isTold 22 "TradeLineLaw") (hEv : eV (Ad0 30 0) (Ad0 31 0) B (Aof (zS μ0 ν0 a0 Ad0) [] s.heap.size) s s.heap) (hN : vN s) (hr : meth.sig.returnType = (some .boolean)) (hz : s.heap.size = sz) (hI0 : lwI ν0) (hQ0 : lwQ Ad0 Q) {μ : MP} {ν : NC} {a : AS} {Ad : Nat → Nat → Nat} (hm0 : mn ν0 ν) (hp0 : kp ν0 Ad0 Ad) {x1 : Int32} {x14 : Int32} {x15 : Int32} {x16 : Int32} {x18 : Int32} {s0 : Int32} {s1 : Int32} {k216 : MP → NC → AS → Int32 → Int32 → Int32 → Option (((MP × NC) × AS) × Int32)} (hmk216 : ∀ (μ : MP) (ν : NC) (a : AS) (z1 : Int32) (z14 : Int32) (z15 : Int32), k216 μ ν a z1 z14 z15 = some r0 → mn ν r0.1.1.2) (hk216 : ∀ (μ : MP) (ν : NC) (a : AS) (Ad : Nat → Nat → Nat) (z1 : Int32) (z14 : Int32) (z15 : Int32), mn ν0 ν → kp ν0 Ad0 Ad → k216 μ ν a z1 z14 z15 = some r0 → G p l e ({ frames := 11, cells := kc r0.1.1.2 - kc ν0, slots := ks r0.1.1.2 - ks ν0, locals := 229 } : Room) s m args below meth c D E (Aof (zS μ0 ν0 a0 Ad0) [] s.heap.size) 22 (MQ below (cQ D E sz (zS μ0 ν0 a0 Ad0) [] (pI (fun r u => r = r0.2 ∧ ∃ A1, u = (zS r0.1.1.1 r0.1.1.2 r0.1.2 A1, []) ∧ kp ν0 Ad0 A1))) args s (kc r0.1.1.2 - kc ν0) (ks r0.1.1.2 - ks ν0) (Aof (zS μ0 ν0 a0 Ad0) [] s.heap.size)) (zS μ ν a Ad) [] (kc ν - kc ν0) (ks ν - ks ν0) 216 [(0, .ref (Q 0)), (1, .int z1), (2, .ref (Q 1)), (8, .ref (Q 9)), (9, .ref (Q 10)), (10, .ref (Q 11)), (11, .ref (Q 12)), (12, .ref (Q 13)), (13, .ref (Q 14)), (14, .int z14), (15, .int z15)] []) (h : b_L_isTold_559 k216 w μ ν a x1 x14 x15 x16 x18 s0 s1 = some r0) : G p l e ({ frames := 11, cells := kc r0.1.1.2 - kc ν0, slots := ks r0.1.1.2 - ks ν0, locals := 229 } : Room) s m args below meth c D E (Aof (zS μ0 ν0 a0 Ad0) [] s.heap.size) 22 (MQ below (cQ D E sz (zS μ0 ν0 a0 Ad0) [] (pI (fun r u => r = r0.2 ∧ ∃ A1, u = (zS r0.1.1.1 r0.1.1.2 r0.1.2 A1, []) ∧ kp ν0 Ad0 A1))) args s (kc r0.1.1.2 - kc ν0) (ks r0.1.1.2 - ks ν0) (Aof (zS μ0 ν0 a0 Ad0) [] s.heap.size)) (zS μ ν a Ad) [] (kc ν - kc ν0) (ks ν - ks ν0) 559 [(0, .ref (Q 0)), (1, .int x1), (2, .ref (Q 1)), (8, .ref (Q 9)), (9, .ref (Q 10)), (10, .ref (Q 11)), (11, .ref (Q 12)), (12, .ref (Q 13)), (13, .ref (Q 14)), (14, .int x14), (15, .int x15), (16, .int x16), (18, .int x18)] [.int s0, .int s1] := by
  have m0 := mb_L_isTold_559 hmk216 h
  have e1 := m0.2.1; have e2 := m0.2.2.1; have e3 := hm0.2.1; have e4 := hm0.2.2.1
  have hI := lwI_mn hI0 hm0; have hQ := lwQ_kp hI0 hp0 hQ0
  unfold b_L_isTold_559 at h
  refine g_icmp_ne (tgt := 616) C dL_isTold_559 (by decide) (fun c559 => ?_) (fun c559 => ?_)
  · replace h := (if_neg c559).symm.trans h
    refine g_iconst (v := (0 : Int32)) C dL_isTold_616 (by decide) ?_
    obtain rfl := Option.some.inj h
    exact g_iret C hr rfl hz ⟨(hm0.2.2.2 30 (by decide) (by decide)).1, (hm0.2.2.2 31 (by decide) (by decide)).1, hp0.2.1, hp0.2.2⟩ ⟨rfl, Ad, rfl, hp0⟩ (fun j x h => by simp at h) dL_isTold_617
  · replace h := (if_pos c559).symm.trans h
    refine g_aload_n C dL_isTold_562 rfl 0 rfl ?_
    refine g_iconst (v := (1 : Int32)) C dL_isTold_563 (by decide) ?_
    refine g_iload C dL_isTold_564 10 rfl ?_
    obtain ⟨v63, hv63, h⟩ := bind_of h
    have m2 := m_L_doneByLog hv63
    have m3 := mb_L_isTold_569 hmk216 h
    have a1 := hm0.2.1; have a2 := hm0.2.2.1; have b1 := m2.2.1; have b2 := m2.2.2.1; have d1 := m3.2.1; have d2 := m3.2.2.1
    refine g_cSh (n := 3) (exr := []) C hEv hN ⟨hp0.2.1 0, hp0.2.2 0⟩ [_, _, _] _ rfl rfl [] rfl rfl (fun sz => wc_L_doneByLog l hl B _ ν _ Ad Q hI hQ w _ _ _ hv63 D E sz) rfl gh_doneByLog gw_0 gw_1351 gw_1352 ⟨by decide +kernel, by decide +kernel, by decide +kernel⟩ ⟨rfl, rfl⟩ ⟨Nat.le_of_ble_eq_true rfl, Nat.le_of_ble_eq_true rfl⟩ (Nat.le_of_ble_eq_true rfl) dL_isTold_566 ⟨by show (kc ν - kc ν0) + (kc v63.1.2 - kc ν) ≤ kc r0.1.1.2 - kc ν0; omega, by show (ks ν - ks ν0) + (ks v63.1.2 - ks ν) ≤ ks r0.1.1.2 - ks ν0; omega⟩ (fun r u hp hx => ?_)
    obtain ⟨er, A1, rfl, hkp⟩ := hp
    rw [er]
    try dsimp only [List.append_nil]
    refine g_widen (k := kc v63.1.2 - kc ν0) (n := ks v63.1.2 - ks ν0) (by omega) (by omega) ?_
    refine g_lv [0, 1, 2, 3, 4, 5, 6, 7, 8, 9, 10, 11, 12] rfl ?_
    exact lb_L_isTold_569 hl C hEv hN hr hz hI0 hQ0 (mn_trans hm0 m2) (kp_trans hp0 hm0 hkp) hmk216 hk216 h
noncomputable def b_L_isTold_542 (k216 : MP → NC → AS → Int32 → Int32 → Int32 → Option (((MP × NC) × AS) × Int32)) (w : Nat) (μ : MP) (ν : NC) (a : AS) (x1 : Int32) (x14 : Int32) (x15 : Int32) (x16 : Int32) (x18 : Int32) (s0 : Int32) : Option (((MP × NC) × AS) × Int32) := (if x16 = (0 : Int32) then (b_L_isTold_559 k216 w μ ν a x1 x14 x15 x16 x18 (-1 : Int32) s0) else (bif ixB ((10 : Int32) + x15) 20 then b_L_isTold_559 k216 w μ ν a x1 x14 x15 x16 x18 (a 10 ((10 : Int32) + x15).toNatClampNeg) s0 else none))
theorem mb_L_isTold_542 {w : Nat} {μ : MP} {ν : NC} {a : AS} {x1 : Int32} {x14 : Int32} {x15 : Int32} {x16 : Int32} {x18 : Int32} {s0 : Int32} {r0 : ((MP × NC) × AS) × Int32} {k216 : MP → NC → AS → Int32 → Int32 → Int32 → Option (((MP × NC) × AS) × Int32)} (hmk216 : ∀ (μ : MP) (ν : NC) (a : AS) (z1 : Int32) (z14 : Int32) (z15 : Int32), k216 μ ν a z1 z14 z15 = some r0 → mn ν r0.1.1.2) (h : b_L_isTold_542 k216 w μ ν a x1 x14 x15 x16 x18 s0 = some r0) : mn ν r0.1.1.2 := by
  unfold b_L_isTold_542 at h
  by_cases c544 : x16 = (0 : Int32)
  · replace h := (if_pos c544).symm.trans h
    exact mb_L_isTold_559 hmk216 h
  · replace h := (if_neg c544).symm.trans h
    replace h := (of_guard h).2
    exact mb_L_isTold_559 hmk216 h
set_option maxHeartbeats 4000000 in
set_option maxRecDepth 100000 in
theorem lb_L_isTold_542 {p : Program} {l : Launch} (hl : l.stackTraces = false) {e : Env} {s : State} {m : MethodId} {args : Array Value} {below : List Frame} {meth : Method} {c : Code} {D : va_G} {E : Nat → ClassId} {sz : Nat} {μ0 : MP} {ν0 : NC} {a0 : AS} {Ad0 : Nat → Nat → Nat} {Q : Nat → Nat} {B : Nat × (Nat → Nat)} {w : Nat} {r0 : ((MP × NC) × AS) × Int32} (C : cx p s m args meth c D E (Aof (zS μ0 ν0 a0 Ad0) [] s.heap.size) cL_isTold 22 "TradeLineLaw") (hEv : eV (Ad0 30 0) (Ad0 31 0) B (Aof (zS μ0 ν0 a0 Ad0) [] s.heap.size) s s.heap) (hN : vN s) (hr : meth.sig.returnType = (some .boolean)) (hz : s.heap.size = sz) (hI0 : lwI ν0) (hQ0 : lwQ Ad0 Q) {μ : MP} {ν : NC} {a : AS} {Ad : Nat → Nat → Nat} (hm0 : mn ν0 ν) (hp0 : kp ν0 Ad0 Ad) {x1 : Int32} {x14 : Int32} {x15 : Int32} {x16 : Int32} {x18 : Int32} {s0 : Int32} {k216 : MP → NC → AS → Int32 → Int32 → Int32 → Option (((MP × NC) × AS) × Int32)} (hmk216 : ∀ (μ : MP) (ν : NC) (a : AS) (z1 : Int32) (z14 : Int32) (z15 : Int32), k216 μ ν a z1 z14 z15 = some r0 → mn ν r0.1.1.2) (hk216 : ∀ (μ : MP) (ν : NC) (a : AS) (Ad : Nat → Nat → Nat) (z1 : Int32) (z14 : Int32) (z15 : Int32), mn ν0 ν → kp ν0 Ad0 Ad → k216 μ ν a z1 z14 z15 = some r0 → G p l e ({ frames := 11, cells := kc r0.1.1.2 - kc ν0, slots := ks r0.1.1.2 - ks ν0, locals := 229 } : Room) s m args below meth c D E (Aof (zS μ0 ν0 a0 Ad0) [] s.heap.size) 22 (MQ below (cQ D E sz (zS μ0 ν0 a0 Ad0) [] (pI (fun r u => r = r0.2 ∧ ∃ A1, u = (zS r0.1.1.1 r0.1.1.2 r0.1.2 A1, []) ∧ kp ν0 Ad0 A1))) args s (kc r0.1.1.2 - kc ν0) (ks r0.1.1.2 - ks ν0) (Aof (zS μ0 ν0 a0 Ad0) [] s.heap.size)) (zS μ ν a Ad) [] (kc ν - kc ν0) (ks ν - ks ν0) 216 [(0, .ref (Q 0)), (1, .int z1), (2, .ref (Q 1)), (8, .ref (Q 9)), (9, .ref (Q 10)), (10, .ref (Q 11)), (11, .ref (Q 12)), (12, .ref (Q 13)), (13, .ref (Q 14)), (14, .int z14), (15, .int z15)] []) (h : b_L_isTold_542 k216 w μ ν a x1 x14 x15 x16 x18 s0 = some r0) : G p l e ({ frames := 11, cells := kc r0.1.1.2 - kc ν0, slots := ks r0.1.1.2 - ks ν0, locals := 229 } : Room) s m args below meth c D E (Aof (zS μ0 ν0 a0 Ad0) [] s.heap.size) 22 (MQ below (cQ D E sz (zS μ0 ν0 a0 Ad0) [] (pI (fun r u => r = r0.2 ∧ ∃ A1, u = (zS r0.1.1.1 r0.1.1.2 r0.1.2 A1, []) ∧ kp ν0 Ad0 A1))) args s (kc r0.1.1.2 - kc ν0) (ks r0.1.1.2 - ks ν0) (Aof (zS μ0 ν0 a0 Ad0) [] s.heap.size)) (zS μ ν a Ad) [] (kc ν - kc ν0) (ks ν - ks ν0) 542 [(0, .ref (Q 0)), (1, .int x1), (2, .ref (Q 1)), (8, .ref (Q 9)), (9, .ref (Q 10)), (10, .ref (Q 11)), (11, .ref (Q 12)), (12, .ref (Q 13)), (13, .ref (Q 14)), (14, .int x14), (15, .int x15), (16, .int x16), (18, .int x18)] [.int s0] := by
  have m0 := mb_L_isTold_542 hmk216 h
  have e1 := m0.2.1; have e2 := m0.2.2.1; have e3 := hm0.2.1; have e4 := hm0.2.2.1
  have hI := lwI_mn hI0 hm0; have hQ := lwQ_kp hI0 hp0 hQ0
  unfold b_L_isTold_542 at h
  refine g_iload C dL_isTold_542 11 rfl ?_
  refine g_if_eq (tgt := 558) C dL_isTold_544 (by decide) (fun c544 => ?_) (fun c544 => ?_)
  · replace h := (if_pos c544).symm.trans h
    refine g_iconst (v := (-1 : Int32)) C dL_isTold_558 (by decide) ?_
    refine g_lv [0, 1, 2, 3, 4, 5, 6, 7, 8, 9, 10, 11, 12] rfl ?_
    exact lb_L_isTold_559 hl C hEv hN hr hz hI0 hQ0 hm0 hp0 hmk216 hk216 h
  · replace h := (if_neg c544).symm.trans h
    refine g_aload C dL_isTold_547 4 rfl ?_
    refine g_bipush (v := (10 : Int32)) C dL_isTold_549 (by decide) ?_
    refine g_iload C dL_isTold_551 10 rfl ?_
    refine g_iadd C dL_isTold_553 ?_
    obtain ⟨g72, h⟩ := of_guard h
    refine q_iald C (show rsh (ν.1, μ.2, ν.2, Ad) from hI.2) (j := 10) (N := 20) (by decide) (lwQ_i hQ (j := 10) (N := 20) (by decide)) g72 dL_isTold_554 ?_
    refine g_goto (tgt := 559) C dL_isTold_555 (by decide) ?_
    refine g_lv [0, 1, 2, 3, 4, 5, 6, 7, 8, 9, 10, 11, 12] rfl ?_
    exact lb_L_isTold_559 hl C hEv hN hr hz hI0 hQ0 hm0 hp0 hmk216 hk216 h
noncomputable def b_L_isTold_532 (k216 : MP → NC → AS → Int32 → Int32 → Int32 → Option (((MP × NC) × AS) × Int32)) (w : Nat) (μ : MP) (ν : NC) (a : AS) (x1 : Int32) (x14 : Int32) (x15 : Int32) (x16 : Int32) (x18 : Int32) (s0 : Int32) (s1 : Int32) : Option (((MP × NC) × AS) × Int32) := (if s1 = s0 then ((f_L_done w μ ν (1 : Int32) x15).bind (fun v62 => b_L_isTold_542 k216 w v62.1.1 v62.1.2 a x1 x14 x15 x16 x18 v62.2)) else (some (((μ, ν), a), (0 : Int32))))
theorem mb_L_isTold_532 {w : Nat} {μ : MP} {ν : NC} {a : AS} {x1 : Int32} {x14 : Int32} {x15 : Int32} {x16 : Int32} {x18 : Int32} {s0 : Int32} {s1 : Int32} {r0 : ((MP × NC) × AS) × Int32} {k216 : MP → NC → AS → Int32 → Int32 → Int32 → Option (((MP × NC) × AS) × Int32)} (hmk216 : ∀ (μ : MP) (ν : NC) (a : AS) (z1 : Int32) (z14 : Int32) (z15 : Int32), k216 μ ν a z1 z14 z15 = some r0 → mn ν r0.1.1.2) (h : b_L_isTold_532 k216 w μ ν a x1 x14 x15 x16 x18 s0 s1 = some r0) : mn ν r0.1.1.2 := by
  unfold b_L_isTold_532 at h
  by_cases c532 : s1 = s0
  · replace h := (if_pos c532).symm.trans h
    obtain ⟨v62, hv62, h⟩ := bind_of h
    exact mn_trans (m_L_done hv62) (mb_L_isTold_542 hmk216 h)
  · replace h := (if_neg c532).symm.trans h
    obtain rfl := Option.some.inj h
    exact mn_rfl _
set_option maxHeartbeats 4000000 in
set_option maxRecDepth 100000 in
theorem lb_L_isTold_532 {p : Program} {l : Launch} (hl : l.stackTraces = false) {e : Env} {s : State} {m : MethodId} {args : Array Value} {below : List Frame} {meth : Method} {c : Code} {D : va_G} {E : Nat → ClassId} {sz : Nat} {μ0 : MP} {ν0 : NC} {a0 : AS} {Ad0 : Nat → Nat → Nat} {Q : Nat → Nat} {B : Nat × (Nat → Nat)} {w : Nat} {r0 : ((MP × NC) × AS) × Int32} (C : cx p s m args meth c D E (Aof (zS μ0 ν0 a0 Ad0) [] s.heap.size) cL_isTold 22 "TradeLineLaw") (hEv : eV (Ad0 30 0) (Ad0 31 0) B (Aof (zS μ0 ν0 a0 Ad0) [] s.heap.size) s s.heap) (hN : vN s) (hr : meth.sig.returnType = (some .boolean)) (hz : s.heap.size = sz) (hI0 : lwI ν0) (hQ0 : lwQ Ad0 Q) {μ : MP} {ν : NC} {a : AS} {Ad : Nat → Nat → Nat} (hm0 : mn ν0 ν) (hp0 : kp ν0 Ad0 Ad) {x1 : Int32} {x14 : Int32} {x15 : Int32} {x16 : Int32} {x18 : Int32} {s0 : Int32} {s1 : Int32} {k216 : MP → NC → AS → Int32 → Int32 → Int32 → Option (((MP × NC) × AS) × Int32)} (hmk216 : ∀ (μ : MP) (ν : NC) (a : AS) (z1 : Int32) (z14 : Int32) (z15 : Int32), k216 μ ν a z1 z14 z15 = some r0 → mn ν r0.1.1.2) (hk216 : ∀ (μ : MP) (ν : NC) (a : AS) (Ad : Nat → Nat → Nat) (z1 : Int32) (z14 : Int32) (z15 : Int32), mn ν0 ν → kp ν0 Ad0 Ad → k216 μ ν a z1 z14 z15 = some r0 → G p l e ({ frames := 11, cells := kc r0.1.1.2 - kc ν0, slots := ks r0.1.1.2 - ks ν0, locals := 229 } : Room) s m args below meth c D E (Aof (zS μ0 ν0 a0 Ad0) [] s.heap.size) 22 (MQ below (cQ D E sz (zS μ0 ν0 a0 Ad0) [] (pI (fun r u => r = r0.2 ∧ ∃ A1, u = (zS r0.1.1.1 r0.1.1.2 r0.1.2 A1, []) ∧ kp ν0 Ad0 A1))) args s (kc r0.1.1.2 - kc ν0) (ks r0.1.1.2 - ks ν0) (Aof (zS μ0 ν0 a0 Ad0) [] s.heap.size)) (zS μ ν a Ad) [] (kc ν - kc ν0) (ks ν - ks ν0) 216 [(0, .ref (Q 0)), (1, .int z1), (2, .ref (Q 1)), (8, .ref (Q 9)), (9, .ref (Q 10)), (10, .ref (Q 11)), (11, .ref (Q 12)), (12, .ref (Q 13)), (13, .ref (Q 14)), (14, .int z14), (15, .int z15)] []) (h : b_L_isTold_532 k216 w μ ν a x1 x14 x15 x16 x18 s0 s1 = some r0) : G p l e ({ frames := 11, cells := kc r0.1.1.2 - kc ν0, slots := ks r0.1.1.2 - ks ν0, locals := 229 } : Room) s m args below meth c D E (Aof (zS μ0 ν0 a0 Ad0) [] s.heap.size) 22 (MQ below (cQ D E sz (zS μ0 ν0 a0 Ad0) [] (pI (fun r u => r = r0.2 ∧ ∃ A1, u = (zS r0.1.1.1 r0.1.1.2 r0.1.2 A1, []) ∧ kp ν0 Ad0 A1))) args s (kc r0.1.1.2 - kc ν0) (ks r0.1.1.2 - ks ν0) (Aof (zS μ0 ν0 a0 Ad0) [] s.heap.size)) (zS μ ν a Ad) [] (kc ν - kc ν0) (ks ν - ks ν0) 532 [(0, .ref (Q 0)), (1, .int x1), (2, .ref (Q 1)), (8, .ref (Q 9)), (9, .ref (Q 10)), (10, .ref (Q 11)), (11, .ref (Q 12)), (12, .ref (Q 13)), (13, .ref (Q 14)), (14, .int x14), (15, .int x15), (16, .int x16), (18, .int x18)] [.int s0, .int s1] := by
  have m0 := mb_L_isTold_532 hmk216 h
  have e1 := m0.2.1; have e2 := m0.2.2.1; have e3 := hm0.2.1; have e4 := hm0.2.2.1
  have hI := lwI_mn hI0 hm0; have hQ := lwQ_kp hI0 hp0 hQ0
  unfold b_L_isTold_532 at h
  refine g_icmp_ne (tgt := 616) C dL_isTold_532 (by decide) (fun c532 => ?_) (fun c532 => ?_)
  · replace h := (if_neg c532).symm.trans h
    refine g_iconst (v := (0 : Int32)) C dL_isTold_616 (by decide) ?_
    obtain rfl := Option.some.inj h
    exact g_iret C hr rfl hz ⟨(hm0.2.2.2 30 (by decide) (by decide)).1, (hm0.2.2.2 31 (by decide) (by decide)).1, hp0.2.1, hp0.2.2⟩ ⟨rfl, Ad, rfl, hp0⟩ (fun j x h => by simp at h) dL_isTold_617
  · replace h := (if_pos c532).symm.trans h
    refine g_aload_n C dL_isTold_535 rfl 0 rfl ?_
    refine g_iconst (v := (1 : Int32)) C dL_isTold_536 (by decide) ?_
    refine g_iload C dL_isTold_537 10 rfl ?_
    obtain ⟨v62, hv62, h⟩ := bind_of h
    have m2 := m_L_done hv62
    have m3 := mb_L_isTold_542 hmk216 h
    have a1 := hm0.2.1; have a2 := hm0.2.2.1; have b1 := m2.2.1; have b2 := m2.2.2.1; have d1 := m3.2.1; have d2 := m3.2.2.1
    refine g_cSh (n := 3) (exr := []) C hEv hN ⟨hp0.2.1 0, hp0.2.2 0⟩ [_, _, _] _ rfl rfl [] rfl rfl (fun sz => wc_L_done l hl B _ ν _ Ad Q hI hQ w _ _ _ hv62 D E sz) rfl gh_done gw_0 gw_1343 gw_1344 ⟨by decide +kernel, by decide +kernel, by decide +kernel⟩ ⟨rfl, rfl⟩ ⟨Nat.le_of_ble_eq_true rfl, Nat.le_of_ble_eq_true rfl⟩ (Nat.le_of_ble_eq_true rfl) dL_isTold_539 ⟨by show (kc ν - kc ν0) + (kc v62.1.2 - kc ν) ≤ kc r0.1.1.2 - kc ν0; omega, by show (ks ν - ks ν0) + (ks v62.1.2 - ks ν) ≤ ks r0.1.1.2 - ks ν0; omega⟩ (fun r u hp hx => ?_)
    obtain ⟨er, A1, rfl, hkp⟩ := hp
    rw [er]
    try dsimp only [List.append_nil]
    refine g_widen (k := kc v62.1.2 - kc ν0) (n := ks v62.1.2 - ks ν0) (by omega) (by omega) ?_
    refine g_lv [0, 1, 2, 3, 4, 5, 6, 7, 8, 9, 10, 11, 12] rfl ?_
    exact lb_L_isTold_542 hl C hEv hN hr hz hI0 hQ0 (mn_trans hm0 m2) (kp_trans hp0 hm0 hkp) hmk216 hk216 h
noncomputable def b_L_isTold_509 (k216 : MP → NC → AS → Int32 → Int32 → Int32 → Option (((MP × NC) × AS) × Int32)) (w : Nat) (μ : MP) (ν : NC) (a : AS) (x1 : Int32) (x14 : Int32) (x15 : Int32) (x16 : Int32) (x18 : Int32) (s0 : Int32) : Option (((MP × NC) × AS) × Int32) := (if x16 = (0 : Int32) then (b_L_isTold_532 k216 w μ ν a x1 x14 x15 x16 x18 (-1 : Int32) s0) else ((f_L_rest w a ((10 : Int32) + x15)).bind (fun v73 => b_L_isTold_532 k216 w μ ν a x1 x14 x15 x16 x18 v73 s0)))
theorem mb_L_isTold_509 {w : Nat} {μ : MP} {ν : NC} {a : AS} {x1 : Int32} {x14 : Int32} {x15 : Int32} {x16 : Int32} {x18 : Int32} {s0 : Int32} {r0 : ((MP × NC) × AS) × Int32} {k216 : MP → NC → AS → Int32 → Int32 → Int32 → Option (((MP × NC) × AS) × Int32)} (hmk216 : ∀ (μ : MP) (ν : NC) (a : AS) (z1 : Int32) (z14 : Int32) (z15 : Int32), k216 μ ν a z1 z14 z15 = some r0 → mn ν r0.1.1.2) (h : b_L_isTold_509 k216 w μ ν a x1 x14 x15 x16 x18 s0 = some r0) : mn ν r0.1.1.2 := by
  unfold b_L_isTold_509 at h
  by_cases c511 : x16 = (0 : Int32)
  · replace h := (if_pos c511).symm.trans h
    exact mb_L_isTold_532 hmk216 h
  · replace h := (if_neg c511).symm.trans h
    obtain ⟨v73, hv73, h⟩ := bind_of h
    exact mb_L_isTold_532 hmk216 h
set_option maxHeartbeats 4000000 in
set_option maxRecDepth 100000 in
theorem lb_L_isTold_509 {p : Program} {l : Launch} (hl : l.stackTraces = false) {e : Env} {s : State} {m : MethodId} {args : Array Value} {below : List Frame} {meth : Method} {c : Code} {D : va_G} {E : Nat → ClassId} {sz : Nat} {μ0 : MP} {ν0 : NC} {a0 : AS} {Ad0 : Nat → Nat → Nat} {Q : Nat → Nat} {B : Nat × (Nat → Nat)} {w : Nat} {r0 : ((MP × NC) × AS) × Int32} (C : cx p s m args meth c D E (Aof (zS μ0 ν0 a0 Ad0) [] s.heap.size) cL_isTold 22 "TradeLineLaw") (hEv : eV (Ad0 30 0) (Ad0 31 0) B (Aof (zS μ0 ν0 a0 Ad0) [] s.heap.size) s s.heap) (hN : vN s) (hr : meth.sig.returnType = (some .boolean)) (hz : s.heap.size = sz) (hI0 : lwI ν0) (hQ0 : lwQ Ad0 Q) {μ : MP} {ν : NC} {a : AS} {Ad : Nat → Nat → Nat} (hm0 : mn ν0 ν) (hp0 : kp ν0 Ad0 Ad) {x1 : Int32} {x14 : Int32} {x15 : Int32} {x16 : Int32} {x18 : Int32} {s0 : Int32} {k216 : MP → NC → AS → Int32 → Int32 → Int32 → Option (((MP × NC) × AS) × Int32)} (hmk216 : ∀ (μ : MP) (ν : NC) (a : AS) (z1 : Int32) (z14 : Int32) (z15 : Int32), k216 μ ν a z1 z14 z15 = some r0 → mn ν r0.1.1.2) (hk216 : ∀ (μ : MP) (ν : NC) (a : AS) (Ad : Nat → Nat → Nat) (z1 : Int32) (z14 : Int32) (z15 : Int32), mn ν0 ν → kp ν0 Ad0 Ad → k216 μ ν a z1 z14 z15 = some r0 → G p l e ({ frames := 11, cells := kc r0.1.1.2 - kc ν0, slots := ks r0.1.1.2 - ks ν0, locals := 229 } : Room) s m args below meth c D E (Aof (zS μ0 ν0 a0 Ad0) [] s.heap.size) 22 (MQ below (cQ D E sz (zS μ0 ν0 a0 Ad0) [] (pI (fun r u => r = r0.2 ∧ ∃ A1, u = (zS r0.1.1.1 r0.1.1.2 r0.1.2 A1, []) ∧ kp ν0 Ad0 A1))) args s (kc r0.1.1.2 - kc ν0) (ks r0.1.1.2 - ks ν0) (Aof (zS μ0 ν0 a0 Ad0) [] s.heap.size)) (zS μ ν a Ad) [] (kc ν - kc ν0) (ks ν - ks ν0) 216 [(0, .ref (Q 0)), (1, .int z1), (2, .ref (Q 1)), (8, .ref (Q 9)), (9, .ref (Q 10)), (10, .ref (Q 11)), (11, .ref (Q 12)), (12, .ref (Q 13)), (13, .ref (Q 14)), (14, .int z14), (15, .int z15)] []) (h : b_L_isTold_509 k216 w μ ν a x1 x14 x15 x16 x18 s0 = some r0) : G p l e ({ frames := 11, cells := kc r0.1.1.2 - kc ν0, slots := ks r0.1.1.2 - ks ν0, locals := 229 } : Room) s m args below meth c D E (Aof (zS μ0 ν0 a0 Ad0) [] s.heap.size) 22 (MQ below (cQ D E sz (zS μ0 ν0 a0 Ad0) [] (pI (fun r u => r = r0.2 ∧ ∃ A1, u = (zS r0.1.1.1 r0.1.1.2 r0.1.2 A1, []) ∧ kp ν0 Ad0 A1))) args s (kc r0.1.1.2 - kc ν0) (ks r0.1.1.2 - ks ν0) (Aof (zS μ0 ν0 a0 Ad0) [] s.heap.size)) (zS μ ν a Ad) [] (kc ν - kc ν0) (ks ν - ks ν0) 509 [(0, .ref (Q 0)), (1, .int x1), (2, .ref (Q 1)), (8, .ref (Q 9)), (9, .ref (Q 10)), (10, .ref (Q 11)), (11, .ref (Q 12)), (12, .ref (Q 13)), (13, .ref (Q 14)), (14, .int x14), (15, .int x15), (16, .int x16), (18, .int x18)] [.int s0] := by
  have m0 := mb_L_isTold_509 hmk216 h
  have e1 := m0.2.1; have e2 := m0.2.2.1; have e3 := hm0.2.1; have e4 := hm0.2.2.1
  have hI := lwI_mn hI0 hm0; have hQ := lwQ_kp hI0 hp0 hQ0
  unfold b_L_isTold_509 at h
  refine g_iload C dL_isTold_509 11 rfl ?_
  refine g_if_eq (tgt := 531) C dL_isTold_511 (by decide) (fun c511 => ?_) (fun c511 => ?_)
  · replace h := (if_pos c511).symm.trans h
    refine g_iconst (v := (-1 : Int32)) C dL_isTold_531 (by decide) ?_
    refine g_lv [0, 1, 2, 3, 4, 5, 6, 7, 8, 9, 10, 11, 12] rfl ?_
    exact lb_L_isTold_532 hl C hEv hN hr hz hI0 hQ0 hm0 hp0 hmk216 hk216 h
  · replace h := (if_neg c511).symm.trans h
    refine g_aload C dL_isTold_514 3 rfl ?_
    refine g_aload C dL_isTold_516 4 rfl ?_
    refine g_aload C dL_isTold_518 5 rfl ?_
    refine g_bipush (v := (10 : Int32)) C dL_isTold_520 (by decide) ?_
    refine g_iload C dL_isTold_522 10 rfl ?_
    refine g_iadd C dL_isTold_524 ?_
    obtain ⟨v73, hv73, h⟩ := bind_of h
    refine g_cSi (n := 4) (exc := []) (exr := []) C [_, _, _, _] _ rfl rfl [] [] rfl rfl rfl rfl (fun _ h => absurd h (by simp)) (fun _ h => absurd h (by simp)) (fun _ h => absurd h (by simp)) (fun sz => wk_L_rest l _ ν _ Ad Q hI hQ w _  _ hv73 D E sz) rfl gw_1035 gw_0 gw_1033 gw_1034 ⟨by decide +kernel, by decide +kernel, by decide +kernel⟩ ⟨rfl, rfl⟩ ⟨Nat.le_of_ble_eq_true rfl, Nat.le_of_ble_eq_true rfl⟩ (Nat.le_of_ble_eq_true rfl) dL_isTold_525 ⟨by show (kc ν - kc ν0) + 0 ≤ kc r0.1.1.2 - kc ν0; omega, by show (ks ν - ks ν0) + 0 ≤ ks r0.1.1.2 - ks ν0; omega⟩ (fun r u hp hx => ?_)
    obtain ⟨er, rfl⟩ := hp
    rw [er]
    try dsimp only [List.append_nil]
    refine g_goto (tgt := 532) C dL_isTold_528 (by decide) ?_
    refine g_lv [0, 1, 2, 3, 4, 5, 6, 7, 8, 9, 10, 11, 12] rfl ?_
    exact lb_L_isTold_532 hl C hEv hN hr hz hI0 hQ0 hm0 hp0 hmk216 hk216 h
noncomputable def b_L_isTold_492 (k216 : MP → NC → AS → Int32 → Int32 → Int32 → Option (((MP × NC) × AS) × Int32)) (w : Nat) (μ : MP) (ν : NC) (a : AS) (x1 : Int32) (x14 : Int32) (x15 : Int32) (x16 : Int32) (x18 : Int32) (s0 : Int32) : Option (((MP × NC) × AS) × Int32) := bif ixB x15 20 then (if s0 = (a 11 x15.toNatClampNeg) then ((f_L_left w μ ν (1 : Int32) x15).bind (fun v61 => b_L_isTold_509 k216 w v61.1.1 v61.1.2 a x1 x14 x15 x16 x18 v61.2)) else (some (((μ, ν), a), (0 : Int32)))) else none
theorem mb_L_isTold_492 {w : Nat} {μ : MP} {ν : NC} {a : AS} {x1 : Int32} {x14 : Int32} {x15 : Int32} {x16 : Int32} {x18 : Int32} {s0 : Int32} {r0 : ((MP × NC) × AS) × Int32} {k216 : MP → NC → AS → Int32 → Int32 → Int32 → Option (((MP × NC) × AS) × Int32)} (hmk216 : ∀ (μ : MP) (ν : NC) (a : AS) (z1 : Int32) (z14 : Int32) (z15 : Int32), k216 μ ν a z1 z14 z15 = some r0 → mn ν r0.1.1.2) (h : b_L_isTold_492 k216 w μ ν a x1 x14 x15 x16 x18 s0 = some r0) : mn ν r0.1.1.2 := by
  unfold b_L_isTold_492 at h
  replace h := (of_guard h).2
  by_cases c497 : s0 = (a 11 x15.toNatClampNeg)
  · replace h := (if_pos c497).symm.trans h
    obtain ⟨v61, hv61, h⟩ := bind_of h
    exact mn_trans (m_L_left hv61) (mb_L_isTold_509 hmk216 h)
  · replace h := (if_neg c497).symm.trans h
    obtain rfl := Option.some.inj h
    exact mn_rfl _
set_option maxHeartbeats 4000000 in
set_option maxRecDepth 100000 in
theorem lb_L_isTold_492 {p : Program} {l : Launch} (hl : l.stackTraces = false) {e : Env} {s : State} {m : MethodId} {args : Array Value} {below : List Frame} {meth : Method} {c : Code} {D : va_G} {E : Nat → ClassId} {sz : Nat} {μ0 : MP} {ν0 : NC} {a0 : AS} {Ad0 : Nat → Nat → Nat} {Q : Nat → Nat} {B : Nat × (Nat → Nat)} {w : Nat} {r0 : ((MP × NC) × AS) × Int32} (C : cx p s m args meth c D E (Aof (zS μ0 ν0 a0 Ad0) [] s.heap.size) cL_isTold 22 "TradeLineLaw") (hEv : eV (Ad0 30 0) (Ad0 31 0) B (Aof (zS μ0 ν0 a0 Ad0) [] s.heap.size) s s.heap) (hN : vN s) (hr : meth.sig.returnType = (some .boolean)) (hz : s.heap.size = sz) (hI0 : lwI ν0) (hQ0 : lwQ Ad0 Q) {μ : MP} {ν : NC} {a : AS} {Ad : Nat → Nat → Nat} (hm0 : mn ν0 ν) (hp0 : kp ν0 Ad0 Ad) {x1 : Int32} {x14 : Int32} {x15 : Int32} {x16 : Int32} {x18 : Int32} {s0 : Int32} {k216 : MP → NC → AS → Int32 → Int32 → Int32 → Option (((MP × NC) × AS) × Int32)} (hmk216 : ∀ (μ : MP) (ν : NC) (a : AS) (z1 : Int32) (z14 : Int32) (z15 : Int32), k216 μ ν a z1 z14 z15 = some r0 → mn ν r0.1.1.2) (hk216 : ∀ (μ : MP) (ν : NC) (a : AS) (Ad : Nat → Nat → Nat) (z1 : Int32) (z14 : Int32) (z15 : Int32), mn ν0 ν → kp ν0 Ad0 Ad → k216 μ ν a z1 z14 z15 = some r0 → G p l e ({ frames := 11, cells := kc r0.1.1.2 - kc ν0, slots := ks r0.1.1.2 - ks ν0, locals := 229 } : Room) s m args below meth c D E (Aof (zS μ0 ν0 a0 Ad0) [] s.heap.size) 22 (MQ below (cQ D E sz (zS μ0 ν0 a0 Ad0) [] (pI (fun r u => r = r0.2 ∧ ∃ A1, u = (zS r0.1.1.1 r0.1.1.2 r0.1.2 A1, []) ∧ kp ν0 Ad0 A1))) args s (kc r0.1.1.2 - kc ν0) (ks r0.1.1.2 - ks ν0) (Aof (zS μ0 ν0 a0 Ad0) [] s.heap.size)) (zS μ ν a Ad) [] (kc ν - kc ν0) (ks ν - ks ν0) 216 [(0, .ref (Q 0)), (1, .int z1), (2, .ref (Q 1)), (8, .ref (Q 9)), (9, .ref (Q 10)), (10, .ref (Q 11)), (11, .ref (Q 12)), (12, .ref (Q 13)), (13, .ref (Q 14)), (14, .int z14), (15, .int z15)] []) (h : b_L_isTold_492 k216 w μ ν a x1 x14 x15 x16 x18 s0 = some r0) : G p l e ({ frames := 11, cells := kc r0.1.1.2 - kc ν0, slots := ks r0.1.1.2 - ks ν0, locals := 229 } : Room) s m args below meth c D E (Aof (zS μ0 ν0 a0 Ad0) [] s.heap.size) 22 (MQ below (cQ D E sz (zS μ0 ν0 a0 Ad0) [] (pI (fun r u => r = r0.2 ∧ ∃ A1, u = (zS r0.1.1.1 r0.1.1.2 r0.1.2 A1, []) ∧ kp ν0 Ad0 A1))) args s (kc r0.1.1.2 - kc ν0) (ks r0.1.1.2 - ks ν0) (Aof (zS μ0 ν0 a0 Ad0) [] s.heap.size)) (zS μ ν a Ad) [] (kc ν - kc ν0) (ks ν - ks ν0) 492 [(0, .ref (Q 0)), (1, .int x1), (2, .ref (Q 1)), (8, .ref (Q 9)), (9, .ref (Q 10)), (10, .ref (Q 11)), (11, .ref (Q 12)), (12, .ref (Q 13)), (13, .ref (Q 14)), (14, .int x14), (15, .int x15), (16, .int x16), (18, .int x18)] [.int s0] := by
  have m0 := mb_L_isTold_492 hmk216 h
  have e1 := m0.2.1; have e2 := m0.2.2.1; have e3 := hm0.2.1; have e4 := hm0.2.2.1
  have hI := lwI_mn hI0 hm0; have hQ := lwQ_kp hI0 hp0 hQ0
  unfold b_L_isTold_492 at h
  refine g_aload C dL_isTold_492 5 rfl ?_
  refine g_iload C dL_isTold_494 10 rfl ?_
  obtain ⟨g60, h⟩ := of_guard h
  refine q_iald C (show rsh (ν.1, μ.2, ν.2, Ad) from hI.2) (j := 11) (N := 20) (by decide) (lwQ_i hQ (j := 11) (N := 20) (by decide)) g60 dL_isTold_496 ?_
  refine g_icmp_eq (tgt := 502) C dL_isTold_497 (by decide) (fun c497 => ?_) (fun c497 => ?_)
  · replace h := (if_pos c497).symm.trans h
    refine g_aload_n C dL_isTold_502 rfl 0 rfl ?_
    refine g_iconst (v := (1 : Int32)) C dL_isTold_503 (by decide) ?_
    refine g_iload C dL_isTold_504 10 rfl ?_
    obtain ⟨v61, hv61, h⟩ := bind_of h
    have m2 := m_L_left hv61
    have m3 := mb_L_isTold_509 hmk216 h
    have a1 := hm0.2.1; have a2 := hm0.2.2.1; have b1 := m2.2.1; have b2 := m2.2.2.1; have d1 := m3.2.1; have d2 := m3.2.2.1
    refine g_cSh (n := 3) (exr := []) C hEv hN ⟨hp0.2.1 0, hp0.2.2 0⟩ [_, _, _] _ rfl rfl [] rfl rfl (fun sz => wc_L_left l hl B _ ν _ Ad Q hI hQ w _ _ _ hv61 D E sz) rfl gh_left gw_0 gw_1324 gw_1325 ⟨by decide +kernel, by decide +kernel, by decide +kernel⟩ ⟨rfl, rfl⟩ ⟨Nat.le_of_ble_eq_true rfl, Nat.le_of_ble_eq_true rfl⟩ (Nat.le_of_ble_eq_true rfl) dL_isTold_506 ⟨by show (kc ν - kc ν0) + (kc v61.1.2 - kc ν) ≤ kc r0.1.1.2 - kc ν0; omega, by show (ks ν - ks ν0) + (ks v61.1.2 - ks ν) ≤ ks r0.1.1.2 - ks ν0; omega⟩ (fun r u hp hx => ?_)
    obtain ⟨er, A1, rfl, hkp⟩ := hp
    rw [er]
    try dsimp only [List.append_nil]
    refine g_widen (k := kc v61.1.2 - kc ν0) (n := ks v61.1.2 - ks ν0) (by omega) (by omega) ?_
    refine g_lv [0, 1, 2, 3, 4, 5, 6, 7, 8, 9, 10, 11, 12] rfl ?_
    exact lb_L_isTold_509 hl C hEv hN hr hz hI0 hQ0 (mn_trans hm0 m2) (kp_trans hp0 hm0 hkp) hmk216 hk216 h
  · replace h := (if_neg c497).symm.trans h
    refine g_iconst (v := (0 : Int32)) C dL_isTold_500 (by decide) ?_
    obtain rfl := Option.some.inj h
    exact g_iret C hr rfl hz ⟨(hm0.2.2.2 30 (by decide) (by decide)).1, (hm0.2.2.2 31 (by decide) (by decide)).1, hp0.2.1, hp0.2.2⟩ ⟨rfl, Ad, rfl, hp0⟩ (fun j x h => by simp at h) dL_isTold_501
noncomputable def b_L_isTold_477 (k216 : MP → NC → AS → Int32 → Int32 → Int32 → Option (((MP × NC) × AS) × Int32)) (w : Nat) (μ : MP) (ν : NC) (a : AS) (x1 : Int32) (x14 : Int32) (x15 : Int32) (x16 : Int32) (x18 : Int32) (s0 : Int32) : Option (((MP × NC) × AS) × Int32) := bif ixB x15 20 then (if s0 = (a 10 x15.toNatClampNeg) then ((f_L_out w μ ν (0 : Int32) x15).bind (fun v59 => b_L_isTold_492 k216 w v59.1.1 v59.1.2 a x1 x14 x15 x16 x18 v59.2)) else (some (((μ, ν), a), (0 : Int32)))) else none
theorem mb_L_isTold_477 {w : Nat} {μ : MP} {ν : NC} {a : AS} {x1 : Int32} {x14 : Int32} {x15 : Int32} {x16 : Int32} {x18 : Int32} {s0 : Int32} {r0 : ((MP × NC) × AS) × Int32} {k216 : MP → NC → AS → Int32 → Int32 → Int32 → Option (((MP × NC) × AS) × Int32)} (hmk216 : ∀ (μ : MP) (ν : NC) (a : AS) (z1 : Int32) (z14 : Int32) (z15 : Int32), k216 μ ν a z1 z14 z15 = some r0 → mn ν r0.1.1.2) (h : b_L_isTold_477 k216 w μ ν a x1 x14 x15 x16 x18 s0 = some r0) : mn ν r0.1.1.2 := by
  unfold b_L_isTold_477 at h
  replace h := (of_guard h).2
  by_cases c482 : s0 = (a 10 x15.toNatClampNeg)
  · replace h := (if_pos c482).symm.trans h
    obtain ⟨v59, hv59, h⟩ := bind_of h
    exact mn_trans (m_L_out hv59) (mb_L_isTold_492 hmk216 h)
  · replace h := (if_neg c482).symm.trans h
    obtain rfl := Option.some.inj h
    exact mn_rfl _
set_option maxHeartbeats 4000000 in
set_option maxRecDepth 100000 in
theorem lb_L_isTold_477 {p : Program} {l : Launch} (hl : l.stackTraces = false) {e : Env} {s : State} {m : MethodId} {args : Array Value} {below : List Frame} {meth : Method} {c : Code} {D : va_G} {E : Nat → ClassId} {sz : Nat} {μ0 : MP} {ν0 : NC} {a0 : AS} {Ad0 : Nat → Nat → Nat} {Q : Nat → Nat} {B : Nat × (Nat → Nat)} {w : Nat} {r0 : ((MP × NC) × AS) × Int32} (C : cx p s m args meth c D E (Aof (zS μ0 ν0 a0 Ad0) [] s.heap.size) cL_isTold 22 "TradeLineLaw") (hEv : eV (Ad0 30 0) (Ad0 31 0) B (Aof (zS μ0 ν0 a0 Ad0) [] s.heap.size) s s.heap) (hN : vN s) (hr : meth.sig.returnType = (some .boolean)) (hz : s.heap.size = sz) (hI0 : lwI ν0) (hQ0 : lwQ Ad0 Q) {μ : MP} {ν : NC} {a : AS} {Ad : Nat → Nat → Nat} (hm0 : mn ν0 ν) (hp0 : kp ν0 Ad0 Ad) {x1 : Int32} {x14 : Int32} {x15 : Int32} {x16 : Int32} {x18 : Int32} {s0 : Int32} {k216 : MP → NC → AS → Int32 → Int32 → Int32 → Option (((MP × NC) × AS) × Int32)} (hmk216 : ∀ (μ : MP) (ν : NC) (a : AS) (z1 : Int32) (z14 : Int32) (z15 : Int32), k216 μ ν a z1 z14 z15 = some r0 → mn ν r0.1.1.2) (hk216 : ∀ (μ : MP) (ν : NC) (a : AS) (Ad : Nat → Nat → Nat) (z1 : Int32) (z14 : Int32) (z15 : Int32), mn ν0 ν → kp ν0 Ad0 Ad → k216 μ ν a z1 z14 z15 = some r0 → G p l e ({ frames := 11, cells := kc r0.1.1.2 - kc ν0, slots := ks r0.1.1.2 - ks ν0, locals := 229 } : Room) s m args below meth c D E (Aof (zS μ0 ν0 a0 Ad0) [] s.heap.size) 22 (MQ below (cQ D E sz (zS μ0 ν0 a0 Ad0) [] (pI (fun r u => r = r0.2 ∧ ∃ A1, u = (zS r0.1.1.1 r0.1.1.2 r0.1.2 A1, []) ∧ kp ν0 Ad0 A1))) args s (kc r0.1.1.2 - kc ν0) (ks r0.1.1.2 - ks ν0) (Aof (zS μ0 ν0 a0 Ad0) [] s.heap.size)) (zS μ ν a Ad) [] (kc ν - kc ν0) (ks ν - ks ν0) 216 [(0, .ref (Q 0)), (1, .int z1), (2, .ref (Q 1)), (8, .ref (Q 9)), (9, .ref (Q 10)), (10, .ref (Q 11)), (11, .ref (Q 12)), (12, .ref (Q 13)), (13, .ref (Q 14)), (14, .int z14), (15, .int z15)] []) (h : b_L_isTold_477 k216 w μ ν a x1 x14 x15 x16 x18 s0 = some r0) : G p l e ({ frames := 11, cells := kc r0.1.1.2 - kc ν0, slots := ks r0.1.1.2 - ks ν0, locals := 229 } : Room) s m args below meth c D E (Aof (zS μ0 ν0 a0 Ad0) [] s.heap.size) 22 (MQ below (cQ D E sz (zS μ0 ν0 a0 Ad0) [] (pI (fun r u => r = r0.2 ∧ ∃ A1, u = (zS r0.1.1.1 r0.1.1.2 r0.1.2 A1, []) ∧ kp ν0 Ad0 A1))) args s (kc r0.1.1.2 - kc ν0) (ks r0.1.1.2 - ks ν0) (Aof (zS μ0 ν0 a0 Ad0) [] s.heap.size)) (zS μ ν a Ad) [] (kc ν - kc ν0) (ks ν - ks ν0) 477 [(0, .ref (Q 0)), (1, .int x1), (2, .ref (Q 1)), (8, .ref (Q 9)), (9, .ref (Q 10)), (10, .ref (Q 11)), (11, .ref (Q 12)), (12, .ref (Q 13)), (13, .ref (Q 14)), (14, .int x14), (15, .int x15), (16, .int x16), (18, .int x18)] [.int s0] := by
  have m0 := mb_L_isTold_477 hmk216 h
  have e1 := m0.2.1; have e2 := m0.2.2.1; have e3 := hm0.2.1; have e4 := hm0.2.2.1
  have hI := lwI_mn hI0 hm0; have hQ := lwQ_kp hI0 hp0 hQ0
  unfold b_L_isTold_477 at h
  refine g_aload C dL_isTold_477 4 rfl ?_
  refine g_iload C dL_isTold_479 10 rfl ?_
  obtain ⟨g58, h⟩ := of_guard h
  refine q_iald C (show rsh (ν.1, μ.2, ν.2, Ad) from hI.2) (j := 10) (N := 20) (by decide) (lwQ_i hQ (j := 10) (N := 20) (by decide)) g58 dL_isTold_481 ?_
  refine g_icmp_ne (tgt := 500) C dL_isTold_482 (by decide) (fun c482 => ?_) (fun c482 => ?_)
  · replace h := (if_neg c482).symm.trans h
    refine g_iconst (v := (0 : Int32)) C dL_isTold_500 (by decide) ?_
    obtain rfl := Option.some.inj h
    exact g_iret C hr rfl hz ⟨(hm0.2.2.2 30 (by decide) (by decide)).1, (hm0.2.2.2 31 (by decide) (by decide)).1, hp0.2.1, hp0.2.2⟩ ⟨rfl, Ad, rfl, hp0⟩ (fun j x h => by simp at h) dL_isTold_501
  · replace h := (if_pos c482).symm.trans h
    refine g_aload_n C dL_isTold_485 rfl 0 rfl ?_
    refine g_iconst (v := (0 : Int32)) C dL_isTold_486 (by decide) ?_
    refine g_iload C dL_isTold_487 10 rfl ?_
    obtain ⟨v59, hv59, h⟩ := bind_of h
    have m2 := m_L_out hv59
    have m3 := mb_L_isTold_492 hmk216 h
    have a1 := hm0.2.1; have a2 := hm0.2.2.1; have b1 := m2.2.1; have b2 := m2.2.2.1; have d1 := m3.2.1; have d2 := m3.2.2.1
    refine g_cSh (n := 3) (exr := []) C hEv hN ⟨hp0.2.1 0, hp0.2.2 0⟩ [_, _, _] _ rfl rfl [] rfl rfl (fun sz => wc_L_out l hl B _ ν _ Ad Q hI hQ w _ _ _ hv59 D E sz) rfl gh_out gw_0 gw_1362 gw_1363 ⟨by decide +kernel, by decide +kernel, by decide +kernel⟩ ⟨rfl, rfl⟩ ⟨Nat.le_of_ble_eq_true rfl, Nat.le_of_ble_eq_true rfl⟩ (Nat.le_of_ble_eq_true rfl) dL_isTold_489 ⟨by show (kc ν - kc ν0) + (kc v59.1.2 - kc ν) ≤ kc r0.1.1.2 - kc ν0; omega, by show (ks ν - ks ν0) + (ks v59.1.2 - ks ν) ≤ ks r0.1.1.2 - ks ν0; omega⟩ (fun r u hp hx => ?_)
    obtain ⟨er, A1, rfl, hkp⟩ := hp
    rw [er]
    try dsimp only [List.append_nil]
    refine g_widen (k := kc v59.1.2 - kc ν0) (n := ks v59.1.2 - ks ν0) (by omega) (by omega) ?_
    refine g_lv [0, 1, 2, 3, 4, 5, 6, 7, 8, 9, 10, 11, 12] rfl ?_
    exact lb_L_isTold_492 hl C hEv hN hr hz hI0 hQ0 (mn_trans hm0 m2) (kp_trans hp0 hm0 hkp) hmk216 hk216 h
noncomputable def b_L_isTold_462 (k216 : MP → NC → AS → Int32 → Int32 → Int32 → Option (((MP × NC) × AS) × Int32)) (w : Nat) (μ : MP) (ν : NC) (a : AS) (x1 : Int32) (x14 : Int32) (x15 : Int32) (x16 : Int32) (x18 : Int32) (s0 : Int32) : Option (((MP × NC) × AS) × Int32) := bif ixB x15 20 then (if s0 = (a 10 x15.toNatClampNeg) then ((f_L_doneByLog w μ ν (0 : Int32) x15).bind (fun v57 => b_L_isTold_477 k216 w v57.1.1 v57.1.2 a x1 x14 x15 x16 x18 v57.2)) else (some (((μ, ν), a), (0 : Int32)))) else none
theorem mb_L_isTold_462 {w : Nat} {μ : MP} {ν : NC} {a : AS} {x1 : Int32} {x14 : Int32} {x15 : Int32} {x16 : Int32} {x18 : Int32} {s0 : Int32} {r0 : ((MP × NC) × AS) × Int32} {k216 : MP → NC → AS → Int32 → Int32 → Int32 → Option (((MP × NC) × AS) × Int32)} (hmk216 : ∀ (μ : MP) (ν : NC) (a : AS) (z1 : Int32) (z14 : Int32) (z15 : Int32), k216 μ ν a z1 z14 z15 = some r0 → mn ν r0.1.1.2) (h : b_L_isTold_462 k216 w μ ν a x1 x14 x15 x16 x18 s0 = some r0) : mn ν r0.1.1.2 := by
  unfold b_L_isTold_462 at h
  replace h := (of_guard h).2
  by_cases c467 : s0 = (a 10 x15.toNatClampNeg)
  · replace h := (if_pos c467).symm.trans h
    obtain ⟨v57, hv57, h⟩ := bind_of h
    exact mn_trans (m_L_doneByLog hv57) (mb_L_isTold_477 hmk216 h)
  · replace h := (if_neg c467).symm.trans h
    obtain rfl := Option.some.inj h
    exact mn_rfl _
set_option maxHeartbeats 4000000 in
set_option maxRecDepth 100000 in
theorem lb_L_isTold_462 {p : Program} {l : Launch} (hl : l.stackTraces = false) {e : Env} {s : State} {m : MethodId} {args : Array Value} {below : List Frame} {meth : Method} {c : Code} {D : va_G} {E : Nat → ClassId} {sz : Nat} {μ0 : MP} {ν0 : NC} {a0 : AS} {Ad0 : Nat → Nat → Nat} {Q : Nat → Nat} {B : Nat × (Nat → Nat)} {w : Nat} {r0 : ((MP × NC) × AS) × Int32} (C : cx p s m args meth c D E (Aof (zS μ0 ν0 a0 Ad0) [] s.heap.size) cL_isTold 22 "TradeLineLaw") (hEv : eV (Ad0 30 0) (Ad0 31 0) B (Aof (zS μ0 ν0 a0 Ad0) [] s.heap.size) s s.heap) (hN : vN s) (hr : meth.sig.returnType = (some .boolean)) (hz : s.heap.size = sz) (hI0 : lwI ν0) (hQ0 : lwQ Ad0 Q) {μ : MP} {ν : NC} {a : AS} {Ad : Nat → Nat → Nat} (hm0 : mn ν0 ν) (hp0 : kp ν0 Ad0 Ad) {x1 : Int32} {x14 : Int32} {x15 : Int32} {x16 : Int32} {x18 : Int32} {s0 : Int32} {k216 : MP → NC → AS → Int32 → Int32 → Int32 → Option (((MP × NC) × AS) × Int32)} (hmk216 : ∀ (μ : MP) (ν : NC) (a : AS) (z1 : Int32) (z14 : Int32) (z15 : Int32), k216 μ ν a z1 z14 z15 = some r0 → mn ν r0.1.1.2) (hk216 : ∀ (μ : MP) (ν : NC) (a : AS) (Ad : Nat → Nat → Nat) (z1 : Int32) (z14 : Int32) (z15 : Int32), mn ν0 ν → kp ν0 Ad0 Ad → k216 μ ν a z1 z14 z15 = some r0 → G p l e ({ frames := 11, cells := kc r0.1.1.2 - kc ν0, slots := ks r0.1.1.2 - ks ν0, locals := 229 } : Room) s m args below meth c D E (Aof (zS μ0 ν0 a0 Ad0) [] s.heap.size) 22 (MQ below (cQ D E sz (zS μ0 ν0 a0 Ad0) [] (pI (fun r u => r = r0.2 ∧ ∃ A1, u = (zS r0.1.1.1 r0.1.1.2 r0.1.2 A1, []) ∧ kp ν0 Ad0 A1))) args s (kc r0.1.1.2 - kc ν0) (ks r0.1.1.2 - ks ν0) (Aof (zS μ0 ν0 a0 Ad0) [] s.heap.size)) (zS μ ν a Ad) [] (kc ν - kc ν0) (ks ν - ks ν0) 216 [(0, .ref (Q 0)), (1, .int z1), (2, .ref (Q 1)), (8, .ref (Q 9)), (9, .ref (Q 10)), (10, .ref (Q 11)), (11, .ref (Q 12)), (12, .ref (Q 13)), (13, .ref (Q 14)), (14, .int z14), (15, .int z15)] []) (h : b_L_isTold_462 k216 w μ ν a x1 x14 x15 x16 x18 s0 = some r0) : G p l e ({ frames := 11, cells := kc r0.1.1.2 - kc ν0, slots := ks r0.1.1.2 - ks ν0, locals := 229 } : Room) s m args below meth c D E (Aof (zS μ0 ν0 a0 Ad0) [] s.heap.size) 22 (MQ below (cQ D E sz (zS μ0 ν0 a0 Ad0) [] (pI (fun r u => r = r0.2 ∧ ∃ A1, u = (zS r0.1.1.1 r0.1.1.2 r0.1.2 A1, []) ∧ kp ν0 Ad0 A1))) args s (kc r0.1.1.2 - kc ν0) (ks r0.1.1.2 - ks ν0) (Aof (zS μ0 ν0 a0 Ad0) [] s.heap.size)) (zS μ ν a Ad) [] (kc ν - kc ν0) (ks ν - ks ν0) 462 [(0, .ref (Q 0)), (1, .int x1), (2, .ref (Q 1)), (8, .ref (Q 9)), (9, .ref (Q 10)), (10, .ref (Q 11)), (11, .ref (Q 12)), (12, .ref (Q 13)), (13, .ref (Q 14)), (14, .int x14), (15, .int x15), (16, .int x16), (18, .int x18)] [.int s0] := by
  have m0 := mb_L_isTold_462 hmk216 h
  have e1 := m0.2.1; have e2 := m0.2.2.1; have e3 := hm0.2.1; have e4 := hm0.2.2.1
  have hI := lwI_mn hI0 hm0; have hQ := lwQ_kp hI0 hp0 hQ0
  unfold b_L_isTold_462 at h
  refine g_aload C dL_isTold_462 4 rfl ?_
  refine g_iload C dL_isTold_464 10 rfl ?_
  obtain ⟨g56, h⟩ := of_guard h
  refine q_iald C (show rsh (ν.1, μ.2, ν.2, Ad) from hI.2) (j := 10) (N := 20) (by decide) (lwQ_i hQ (j := 10) (N := 20) (by decide)) g56 dL_isTold_466 ?_
  refine g_icmp_ne (tgt := 500) C dL_isTold_467 (by decide) (fun c467 => ?_) (fun c467 => ?_)
  · replace h := (if_neg c467).symm.trans h
    refine g_iconst (v := (0 : Int32)) C dL_isTold_500 (by decide) ?_
    obtain rfl := Option.some.inj h
    exact g_iret C hr rfl hz ⟨(hm0.2.2.2 30 (by decide) (by decide)).1, (hm0.2.2.2 31 (by decide) (by decide)).1, hp0.2.1, hp0.2.2⟩ ⟨rfl, Ad, rfl, hp0⟩ (fun j x h => by simp at h) dL_isTold_501
  · replace h := (if_pos c467).symm.trans h
    refine g_aload_n C dL_isTold_470 rfl 0 rfl ?_
    refine g_iconst (v := (0 : Int32)) C dL_isTold_471 (by decide) ?_
    refine g_iload C dL_isTold_472 10 rfl ?_
    obtain ⟨v57, hv57, h⟩ := bind_of h
    have m2 := m_L_doneByLog hv57
    have m3 := mb_L_isTold_477 hmk216 h
    have a1 := hm0.2.1; have a2 := hm0.2.2.1; have b1 := m2.2.1; have b2 := m2.2.2.1; have d1 := m3.2.1; have d2 := m3.2.2.1
    refine g_cSh (n := 3) (exr := []) C hEv hN ⟨hp0.2.1 0, hp0.2.2 0⟩ [_, _, _] _ rfl rfl [] rfl rfl (fun sz => wc_L_doneByLog l hl B _ ν _ Ad Q hI hQ w _ _ _ hv57 D E sz) rfl gh_doneByLog gw_0 gw_1351 gw_1352 ⟨by decide +kernel, by decide +kernel, by decide +kernel⟩ ⟨rfl, rfl⟩ ⟨Nat.le_of_ble_eq_true rfl, Nat.le_of_ble_eq_true rfl⟩ (Nat.le_of_ble_eq_true rfl) dL_isTold_474 ⟨by show (kc ν - kc ν0) + (kc v57.1.2 - kc ν) ≤ kc r0.1.1.2 - kc ν0; omega, by show (ks ν - ks ν0) + (ks v57.1.2 - ks ν) ≤ ks r0.1.1.2 - ks ν0; omega⟩ (fun r u hp hx => ?_)
    obtain ⟨er, A1, rfl, hkp⟩ := hp
    rw [er]
    try dsimp only [List.append_nil]
    refine g_widen (k := kc v57.1.2 - kc ν0) (n := ks v57.1.2 - ks ν0) (by omega) (by omega) ?_
    refine g_lv [0, 1, 2, 3, 4, 5, 6, 7, 8, 9, 10, 11, 12] rfl ?_
    exact lb_L_isTold_477 hl C hEv hN hr hz hI0 hQ0 (mn_trans hm0 m2) (kp_trans hp0 hm0 hkp) hmk216 hk216 h
noncomputable def b_L_isTold_450 (k216 : MP → NC → AS → Int32 → Int32 → Int32 → Option (((MP × NC) × AS) × Int32)) (w : Nat) (μ : MP) (ν : NC) (a : AS) (x1 : Int32) (x14 : Int32) (x15 : Int32) (x16 : Int32) (x18 : Int32) (s0 : Int32) : Option (((MP × NC) × AS) × Int32) := (if s0 = x18 then ((f_L_done w μ ν (0 : Int32) x15).bind (fun v55 => b_L_isTold_462 k216 w v55.1.1 v55.1.2 a x1 x14 x15 x16 x18 v55.2)) else (some (((μ, ν), a), (0 : Int32))))
theorem mb_L_isTold_450 {w : Nat} {μ : MP} {ν : NC} {a : AS} {x1 : Int32} {x14 : Int32} {x15 : Int32} {x16 : Int32} {x18 : Int32} {s0 : Int32} {r0 : ((MP × NC) × AS) × Int32} {k216 : MP → NC → AS → Int32 → Int32 → Int32 → Option (((MP × NC) × AS) × Int32)} (hmk216 : ∀ (μ : MP) (ν : NC) (a : AS) (z1 : Int32) (z14 : Int32) (z15 : Int32), k216 μ ν a z1 z14 z15 = some r0 → mn ν r0.1.1.2) (h : b_L_isTold_450 k216 w μ ν a x1 x14 x15 x16 x18 s0 = some r0) : mn ν r0.1.1.2 := by
  unfold b_L_isTold_450 at h
  by_cases c452 : s0 = x18
  · replace h := (if_pos c452).symm.trans h
    obtain ⟨v55, hv55, h⟩ := bind_of h
    exact mn_trans (m_L_done hv55) (mb_L_isTold_462 hmk216 h)
  · replace h := (if_neg c452).symm.trans h
    obtain rfl := Option.some.inj h
    exact mn_rfl _
set_option maxHeartbeats 4000000 in
set_option maxRecDepth 100000 in
theorem lb_L_isTold_450 {p : Program} {l : Launch} (hl : l.stackTraces = false) {e : Env} {s : State} {m : MethodId} {args : Array Value} {below : List Frame} {meth : Method} {c : Code} {D : va_G} {E : Nat → ClassId} {sz : Nat} {μ0 : MP} {ν0 : NC} {a0 : AS} {Ad0 : Nat → Nat → Nat} {Q : Nat → Nat} {B : Nat × (Nat → Nat)} {w : Nat} {r0 : ((MP × NC) × AS) × Int32} (C : cx p s m args meth c D E (Aof (zS μ0 ν0 a0 Ad0) [] s.heap.size) cL_isTold 22 "TradeLineLaw") (hEv : eV (Ad0 30 0) (Ad0 31 0) B (Aof (zS μ0 ν0 a0 Ad0) [] s.heap.size) s s.heap) (hN : vN s) (hr : meth.sig.returnType = (some .boolean)) (hz : s.heap.size = sz) (hI0 : lwI ν0) (hQ0 : lwQ Ad0 Q) {μ : MP} {ν : NC} {a : AS} {Ad : Nat → Nat → Nat} (hm0 : mn ν0 ν) (hp0 : kp ν0 Ad0 Ad) {x1 : Int32} {x14 : Int32} {x15 : Int32} {x16 : Int32} {x18 : Int32} {s0 : Int32} {k216 : MP → NC → AS → Int32 → Int32 → Int32 → Option (((MP × NC) × AS) × Int32)} (hmk216 : ∀ (μ : MP) (ν : NC) (a : AS) (z1 : Int32) (z14 : Int32) (z15 : Int32), k216 μ ν a z1 z14 z15 = some r0 → mn ν r0.1.1.2) (hk216 : ∀ (μ : MP) (ν : NC) (a : AS) (Ad : Nat → Nat → Nat) (z1 : Int32) (z14 : Int32) (z15 : Int32), mn ν0 ν → kp ν0 Ad0 Ad → k216 μ ν a z1 z14 z15 = some r0 → G p l e ({ frames := 11, cells := kc r0.1.1.2 - kc ν0, slots := ks r0.1.1.2 - ks ν0, locals := 229 } : Room) s m args below meth c D E (Aof (zS μ0 ν0 a0 Ad0) [] s.heap.size) 22 (MQ below (cQ D E sz (zS μ0 ν0 a0 Ad0) [] (pI (fun r u => r = r0.2 ∧ ∃ A1, u = (zS r0.1.1.1 r0.1.1.2 r0.1.2 A1, []) ∧ kp ν0 Ad0 A1))) args s (kc r0.1.1.2 - kc ν0) (ks r0.1.1.2 - ks ν0) (Aof (zS μ0 ν0 a0 Ad0) [] s.heap.size)) (zS μ ν a Ad) [] (kc ν - kc ν0) (ks ν - ks ν0) 216 [(0, .ref (Q 0)), (1, .int z1), (2, .ref (Q 1)), (8, .ref (Q 9)), (9, .ref (Q 10)), (10, .ref (Q 11)), (11, .ref (Q 12)), (12, .ref (Q 13)), (13, .ref (Q 14)), (14, .int z14), (15, .int z15)] []) (h : b_L_isTold_450 k216 w μ ν a x1 x14 x15 x16 x18 s0 = some r0) : G p l e ({ frames := 11, cells := kc r0.1.1.2 - kc ν0, slots := ks r0.1.1.2 - ks ν0, locals := 229 } : Room) s m args below meth c D E (Aof (zS μ0 ν0 a0 Ad0) [] s.heap.size) 22 (MQ below (cQ D E sz (zS μ0 ν0 a0 Ad0) [] (pI (fun r u => r = r0.2 ∧ ∃ A1, u = (zS r0.1.1.1 r0.1.1.2 r0.1.2 A1, []) ∧ kp ν0 Ad0 A1))) args s (kc r0.1.1.2 - kc ν0) (ks r0.1.1.2 - ks ν0) (Aof (zS μ0 ν0 a0 Ad0) [] s.heap.size)) (zS μ ν a Ad) [] (kc ν - kc ν0) (ks ν - ks ν0) 450 [(0, .ref (Q 0)), (1, .int x1), (2, .ref (Q 1)), (8, .ref (Q 9)), (9, .ref (Q 10)), (10, .ref (Q 11)), (11, .ref (Q 12)), (12, .ref (Q 13)), (13, .ref (Q 14)), (14, .int x14), (15, .int x15), (16, .int x16), (18, .int x18)] [.int s0] := by
  have m0 := mb_L_isTold_450 hmk216 h
  have e1 := m0.2.1; have e2 := m0.2.2.1; have e3 := hm0.2.1; have e4 := hm0.2.2.1
  have hI := lwI_mn hI0 hm0; have hQ := lwQ_kp hI0 hp0 hQ0
  unfold b_L_isTold_450 at h
  refine g_iload C dL_isTold_450 12 rfl ?_
  refine g_icmp_ne (tgt := 500) C dL_isTold_452 (by decide) (fun c452 => ?_) (fun c452 => ?_)
  · replace h := (if_neg c452).symm.trans h
    refine g_iconst (v := (0 : Int32)) C dL_isTold_500 (by decide) ?_
    obtain rfl := Option.some.inj h
    exact g_iret C hr rfl hz ⟨(hm0.2.2.2 30 (by decide) (by decide)).1, (hm0.2.2.2 31 (by decide) (by decide)).1, hp0.2.1, hp0.2.2⟩ ⟨rfl, Ad, rfl, hp0⟩ (fun j x h => by simp at h) dL_isTold_501
  · replace h := (if_pos c452).symm.trans h
    refine g_aload_n C dL_isTold_455 rfl 0 rfl ?_
    refine g_iconst (v := (0 : Int32)) C dL_isTold_456 (by decide) ?_
    refine g_iload C dL_isTold_457 10 rfl ?_
    obtain ⟨v55, hv55, h⟩ := bind_of h
    have m2 := m_L_done hv55
    have m3 := mb_L_isTold_462 hmk216 h
    have a1 := hm0.2.1; have a2 := hm0.2.2.1; have b1 := m2.2.1; have b2 := m2.2.2.1; have d1 := m3.2.1; have d2 := m3.2.2.1
    refine g_cSh (n := 3) (exr := []) C hEv hN ⟨hp0.2.1 0, hp0.2.2 0⟩ [_, _, _] _ rfl rfl [] rfl rfl (fun sz => wc_L_done l hl B _ ν _ Ad Q hI hQ w _ _ _ hv55 D E sz) rfl gh_done gw_0 gw_1343 gw_1344 ⟨by decide +kernel, by decide +kernel, by decide +kernel⟩ ⟨rfl, rfl⟩ ⟨Nat.le_of_ble_eq_true rfl, Nat.le_of_ble_eq_true rfl⟩ (Nat.le_of_ble_eq_true rfl) dL_isTold_459 ⟨by show (kc ν - kc ν0) + (kc v55.1.2 - kc ν) ≤ kc r0.1.1.2 - kc ν0; omega, by show (ks ν - ks ν0) + (ks v55.1.2 - ks ν) ≤ ks r0.1.1.2 - ks ν0; omega⟩ (fun r u hp hx => ?_)
    obtain ⟨er, A1, rfl, hkp⟩ := hp
    rw [er]
    try dsimp only [List.append_nil]
    refine g_widen (k := kc v55.1.2 - kc ν0) (n := ks v55.1.2 - ks ν0) (by omega) (by omega) ?_
    refine g_lv [0, 1, 2, 3, 4, 5, 6, 7, 8, 9, 10, 11, 12] rfl ?_
    exact lb_L_isTold_462 hl C hEv hN hr hz hI0 hQ0 (mn_trans hm0 m2) (kp_trans hp0 hm0 hkp) hmk216 hk216 h
noncomputable def b_L_isTold_420 (k216 : MP → NC → AS → Int32 → Int32 → Int32 → Option (((MP × NC) × AS) × Int32)) (w : Nat) (μ : MP) (ν : NC) (a : AS) (x1 : Int32) (x14 : Int32) (x15 : Int32) (x16 : Int32) (x18 : Int32) (x19 : Int32) (s0 : Int32) : Option (((MP × NC) × AS) × Int32) := (if s0 = (((x19 &&& (1 : Int32)) + ((x19 >>> ((1 : Int32) &&& 31)) &&& (1 : Int32))) + ((x19 >>> ((2 : Int32) &&& 31)) &&& (1 : Int32))) then ((f_L_left w μ ν (0 : Int32) x15).bind (fun v54 => b_L_isTold_450 k216 w v54.1.1 v54.1.2 a x1 x14 x15 x16 x18 v54.2)) else (some (((μ, ν), a), (0 : Int32))))
theorem mb_L_isTold_420 {w : Nat} {μ : MP} {ν : NC} {a : AS} {x1 : Int32} {x14 : Int32} {x15 : Int32} {x16 : Int32} {x18 : Int32} {x19 : Int32} {s0 : Int32} {r0 : ((MP × NC) × AS) × Int32} {k216 : MP → NC → AS → Int32 → Int32 → Int32 → Option (((MP × NC) × AS) × Int32)} (hmk216 : ∀ (μ : MP) (ν : NC) (a : AS) (z1 : Int32) (z14 : Int32) (z15 : Int32), k216 μ ν a z1 z14 z15 = some r0 → mn ν r0.1.1.2) (h : b_L_isTold_420 k216 w μ ν a x1 x14 x15 x16 x18 x19 s0 = some r0) : mn ν r0.1.1.2 := by
  unfold b_L_isTold_420 at h
  by_cases c438 : s0 = (((x19 &&& (1 : Int32)) + ((x19 >>> ((1 : Int32) &&& 31)) &&& (1 : Int32))) + ((x19 >>> ((2 : Int32) &&& 31)) &&& (1 : Int32)))
  · replace h := (if_pos c438).symm.trans h
    obtain ⟨v54, hv54, h⟩ := bind_of h
    exact mn_trans (m_L_left hv54) (mb_L_isTold_450 hmk216 h)
  · replace h := (if_neg c438).symm.trans h
    obtain rfl := Option.some.inj h
    exact mn_rfl _
set_option maxHeartbeats 4000000 in
set_option maxRecDepth 100000 in
theorem lb_L_isTold_420 {p : Program} {l : Launch} (hl : l.stackTraces = false) {e : Env} {s : State} {m : MethodId} {args : Array Value} {below : List Frame} {meth : Method} {c : Code} {D : va_G} {E : Nat → ClassId} {sz : Nat} {μ0 : MP} {ν0 : NC} {a0 : AS} {Ad0 : Nat → Nat → Nat} {Q : Nat → Nat} {B : Nat × (Nat → Nat)} {w : Nat} {r0 : ((MP × NC) × AS) × Int32} (C : cx p s m args meth c D E (Aof (zS μ0 ν0 a0 Ad0) [] s.heap.size) cL_isTold 22 "TradeLineLaw") (hEv : eV (Ad0 30 0) (Ad0 31 0) B (Aof (zS μ0 ν0 a0 Ad0) [] s.heap.size) s s.heap) (hN : vN s) (hr : meth.sig.returnType = (some .boolean)) (hz : s.heap.size = sz) (hI0 : lwI ν0) (hQ0 : lwQ Ad0 Q) {μ : MP} {ν : NC} {a : AS} {Ad : Nat → Nat → Nat} (hm0 : mn ν0 ν) (hp0 : kp ν0 Ad0 Ad) {x1 : Int32} {x14 : Int32} {x15 : Int32} {x16 : Int32} {x18 : Int32} {x19 : Int32} {s0 : Int32} {k216 : MP → NC → AS → Int32 → Int32 → Int32 → Option (((MP × NC) × AS) × Int32)} (hmk216 : ∀ (μ : MP) (ν : NC) (a : AS) (z1 : Int32) (z14 : Int32) (z15 : Int32), k216 μ ν a z1 z14 z15 = some r0 → mn ν r0.1.1.2) (hk216 : ∀ (μ : MP) (ν : NC) (a : AS) (Ad : Nat → Nat → Nat) (z1 : Int32) (z14 : Int32) (z15 : Int32), mn ν0 ν → kp ν0 Ad0 Ad → k216 μ ν a z1 z14 z15 = some r0 → G p l e ({ frames := 11, cells := kc r0.1.1.2 - kc ν0, slots := ks r0.1.1.2 - ks ν0, locals := 229 } : Room) s m args below meth c D E (Aof (zS μ0 ν0 a0 Ad0) [] s.heap.size) 22 (MQ below (cQ D E sz (zS μ0 ν0 a0 Ad0) [] (pI (fun r u => r = r0.2 ∧ ∃ A1, u = (zS r0.1.1.1 r0.1.1.2 r0.1.2 A1, []) ∧ kp ν0 Ad0 A1))) args s (kc r0.1.1.2 - kc ν0) (ks r0.1.1.2 - ks ν0) (Aof (zS μ0 ν0 a0 Ad0) [] s.heap.size)) (zS μ ν a Ad) [] (kc ν - kc ν0) (ks ν - ks ν0) 216 [(0, .ref (Q 0)), (1, .int z1), (2, .ref (Q 1)), (8, .ref (Q 9)), (9, .ref (Q 10)), (10, .ref (Q 11)), (11, .ref (Q 12)), (12, .ref (Q 13)), (13, .ref (Q 14)), (14, .int z14), (15, .int z15)] []) (h : b_L_isTold_420 k216 w μ ν a x1 x14 x15 x16 x18 x19 s0 = some r0) : G p l e ({ frames := 11, cells := kc r0.1.1.2 - kc ν0, slots := ks r0.1.1.2 - ks ν0, locals := 229 } : Room) s m args below meth c D E (Aof (zS μ0 ν0 a0 Ad0) [] s.heap.size) 22 (MQ below (cQ D E sz (zS μ0 ν0 a0 Ad0) [] (pI (fun r u => r = r0.2 ∧ ∃ A1, u = (zS r0.1.1.1 r0.1.1.2 r0.1.2 A1, []) ∧ kp ν0 Ad0 A1))) args s (kc r0.1.1.2 - kc ν0) (ks r0.1.1.2 - ks ν0) (Aof (zS μ0 ν0 a0 Ad0) [] s.heap.size)) (zS μ ν a Ad) [] (kc ν - kc ν0) (ks ν - ks ν0) 420 [(0, .ref (Q 0)), (1, .int x1), (2, .ref (Q 1)), (8, .ref (Q 9)), (9, .ref (Q 10)), (10, .ref (Q 11)), (11, .ref (Q 12)), (12, .ref (Q 13)), (13, .ref (Q 14)), (14, .int x14), (15, .int x15), (16, .int x16), (18, .int x18), (19, .int x19)] [.int s0] := by
  have m0 := mb_L_isTold_420 hmk216 h
  have e1 := m0.2.1; have e2 := m0.2.2.1; have e3 := hm0.2.1; have e4 := hm0.2.2.1
  have hI := lwI_mn hI0 hm0; have hQ := lwQ_kp hI0 hp0 hQ0
  unfold b_L_isTold_420 at h
  refine g_iload C dL_isTold_420 13 rfl ?_
  refine g_iconst (v := (1 : Int32)) C dL_isTold_422 (by decide) ?_
  refine g_iand C dL_isTold_423 ?_
  refine g_iload C dL_isTold_424 13 rfl ?_
  refine g_iconst (v := (1 : Int32)) C dL_isTold_426 (by decide) ?_
  refine g_ishr C dL_isTold_427 ?_
  refine g_iconst (v := (1 : Int32)) C dL_isTold_428 (by decide) ?_
  refine g_iand C dL_isTold_429 ?_
  refine g_iadd C dL_isTold_430 ?_
  refine g_iload C dL_isTold_431 13 rfl ?_
  refine g_iconst (v := (2 : Int32)) C dL_isTold_433 (by decide) ?_
  refine g_ishr C dL_isTold_434 ?_
  refine g_iconst (v := (1 : Int32)) C dL_isTold_435 (by decide) ?_
  refine g_iand C dL_isTold_436 ?_
  refine g_iadd C dL_isTold_437 ?_
  refine g_icmp_eq (tgt := 443) C dL_isTold_438 (by decide) (fun c438 => ?_) (fun c438 => ?_)
  · replace h := (if_pos c438).symm.trans h
    refine g_aload_n C dL_isTold_443 rfl 0 rfl ?_
    refine g_iconst (v := (0 : Int32)) C dL_isTold_444 (by decide) ?_
    refine g_iload C dL_isTold_445 10 rfl ?_
    obtain ⟨v54, hv54, h⟩ := bind_of h
    have m2 := m_L_left hv54
    have m3 := mb_L_isTold_450 hmk216 h
    have a1 := hm0.2.1; have a2 := hm0.2.2.1; have b1 := m2.2.1; have b2 := m2.2.2.1; have d1 := m3.2.1; have d2 := m3.2.2.1
    refine g_cSh (n := 3) (exr := []) C hEv hN ⟨hp0.2.1 0, hp0.2.2 0⟩ [_, _, _] _ rfl rfl [] rfl rfl (fun sz => wc_L_left l hl B _ ν _ Ad Q hI hQ w _ _ _ hv54 D E sz) rfl gh_left gw_0 gw_1324 gw_1325 ⟨by decide +kernel, by decide +kernel, by decide +kernel⟩ ⟨rfl, rfl⟩ ⟨Nat.le_of_ble_eq_true rfl, Nat.le_of_ble_eq_true rfl⟩ (Nat.le_of_ble_eq_true rfl) dL_isTold_447 ⟨by show (kc ν - kc ν0) + (kc v54.1.2 - kc ν) ≤ kc r0.1.1.2 - kc ν0; omega, by show (ks ν - ks ν0) + (ks v54.1.2 - ks ν) ≤ ks r0.1.1.2 - ks ν0; omega⟩ (fun r u hp hx => ?_)
    obtain ⟨er, A1, rfl, hkp⟩ := hp
    rw [er]
    try dsimp only [List.append_nil]
    refine g_widen (k := kc v54.1.2 - kc ν0) (n := ks v54.1.2 - ks ν0) (by omega) (by omega) ?_
    refine g_lv [0, 1, 2, 3, 4, 5, 6, 7, 8, 9, 10, 11, 12] rfl ?_
    exact lb_L_isTold_450 hl C hEv hN hr hz hI0 hQ0 (mn_trans hm0 m2) (kp_trans hp0 hm0 hkp) hmk216 hk216 h
  · replace h := (if_neg c438).symm.trans h
    refine g_iconst (v := (0 : Int32)) C dL_isTold_441 (by decide) ?_
    obtain rfl := Option.some.inj h
    exact g_iret C hr rfl hz ⟨(hm0.2.2.2 30 (by decide) (by decide)).1, (hm0.2.2.2 31 (by decide) (by decide)).1, hp0.2.1, hp0.2.2⟩ ⟨rfl, Ad, rfl, hp0⟩ (fun j x h => by simp at h) dL_isTold_442
noncomputable def b_L_isTold_401 (k216 : MP → NC → AS → Int32 → Int32 → Int32 → Option (((MP × NC) × AS) × Int32)) (w : Nat) (μ : MP) (ν : NC) (a : AS) (x1 : Int32) (x14 : Int32) (x15 : Int32) (x16 : Int32) (x18 : Int32) (x19 : Int32) (s0 : Int32) : Option (((MP × NC) × AS) × Int32) := bif ixB x15 10 then (if s0 = (((a 12 x15.toNatClampNeg) >>> ((4 : Int32) &&& 31)) &&& (7 : Int32)) then ((f_L_venues w μ ν x15).bind (fun v53 => b_L_isTold_420 k216 w v53.1.1 v53.1.2 a x1 x14 x15 x16 x18 x19 v53.2)) else (some (((μ, ν), a), (0 : Int32)))) else none
theorem mb_L_isTold_401 {w : Nat} {μ : MP} {ν : NC} {a : AS} {x1 : Int32} {x14 : Int32} {x15 : Int32} {x16 : Int32} {x18 : Int32} {x19 : Int32} {s0 : Int32} {r0 : ((MP × NC) × AS) × Int32} {k216 : MP → NC → AS → Int32 → Int32 → Int32 → Option (((MP × NC) × AS) × Int32)} (hmk216 : ∀ (μ : MP) (ν : NC) (a : AS) (z1 : Int32) (z14 : Int32) (z15 : Int32), k216 μ ν a z1 z14 z15 = some r0 → mn ν r0.1.1.2) (h : b_L_isTold_401 k216 w μ ν a x1 x14 x15 x16 x18 x19 s0 = some r0) : mn ν r0.1.1.2 := by
  unfold b_L_isTold_401 at h
  replace h := (of_guard h).2
  by_cases c411 : s0 = (((a 12 x15.toNatClampNeg) >>> ((4 : Int32) &&& 31)) &&& (7 : Int32))
  · replace h := (if_pos c411).symm.trans h
    obtain ⟨v53, hv53, h⟩ := bind_of h
    exact mn_trans (m_L_venues hv53) (mb_L_isTold_420 hmk216 h)
  · replace h := (if_neg c411).symm.trans h
    obtain rfl := Option.some.inj h
    exact mn_rfl _
set_option maxHeartbeats 4000000 in
set_option maxRecDepth 100000 in
theorem lb_L_isTold_401 {p : Program} {l : Launch} (hl : l.stackTraces = false) {e : Env} {s : State} {m : MethodId} {args : Array Value} {below : List Frame} {meth : Method} {c : Code} {D : va_G} {E : Nat → ClassId} {sz : Nat} {μ0 : MP} {ν0 : NC} {a0 : AS} {Ad0 : Nat → Nat → Nat} {Q : Nat → Nat} {B : Nat × (Nat → Nat)} {w : Nat} {r0 : ((MP × NC) × AS) × Int32} (C : cx p s m args meth c D E (Aof (zS μ0 ν0 a0 Ad0) [] s.heap.size) cL_isTold 22 "TradeLineLaw") (hEv : eV (Ad0 30 0) (Ad0 31 0) B (Aof (zS μ0 ν0 a0 Ad0) [] s.heap.size) s s.heap) (hN : vN s) (hr : meth.sig.returnType = (some .boolean)) (hz : s.heap.size = sz) (hI0 : lwI ν0) (hQ0 : lwQ Ad0 Q) {μ : MP} {ν : NC} {a : AS} {Ad : Nat → Nat → Nat} (hm0 : mn ν0 ν) (hp0 : kp ν0 Ad0 Ad) {x1 : Int32} {x14 : Int32} {x15 : Int32} {x16 : Int32} {x18 : Int32} {x19 : Int32} {s0 : Int32} {k216 : MP → NC → AS → Int32 → Int32 → Int32 → Option (((MP × NC) × AS) × Int32)} (hmk216 : ∀ (μ : MP) (ν : NC) (a : AS) (z1 : Int32) (z14 : Int32) (z15 : Int32), k216 μ ν a z1 z14 z15 = some r0 → mn ν r0.1.1.2) (hk216 : ∀ (μ : MP) (ν : NC) (a : AS) (Ad : Nat → Nat → Nat) (z1 : Int32) (z14 : Int32) (z15 : Int32), mn ν0 ν → kp ν0 Ad0 Ad → k216 μ ν a z1 z14 z15 = some r0 → G p l e ({ frames := 11, cells := kc r0.1.1.2 - kc ν0, slots := ks r0.1.1.2 - ks ν0, locals := 229 } : Room) s m args below meth c D E (Aof (zS μ0 ν0 a0 Ad0) [] s.heap.size) 22 (MQ below (cQ D E sz (zS μ0 ν0 a0 Ad0) [] (pI (fun r u => r = r0.2 ∧ ∃ A1, u = (zS r0.1.1.1 r0.1.1.2 r0.1.2 A1, []) ∧ kp ν0 Ad0 A1))) args s (kc r0.1.1.2 - kc ν0) (ks r0.1.1.2 - ks ν0) (Aof (zS μ0 ν0 a0 Ad0) [] s.heap.size)) (zS μ ν a Ad) [] (kc ν - kc ν0) (ks ν - ks ν0) 216 [(0, .ref (Q 0)), (1, .int z1), (2, .ref (Q 1)), (8, .ref (Q 9)), (9, .ref (Q 10)), (10, .ref (Q 11)), (11, .ref (Q 12)), (12, .ref (Q 13)), (13, .ref (Q 14)), (14, .int z14), (15, .int z15)] []) (h : b_L_isTold_401 k216 w μ ν a x1 x14 x15 x16 x18 x19 s0 = some r0) : G p l e ({ frames := 11, cells := kc r0.1.1.2 - kc ν0, slots := ks r0.1.1.2 - ks ν0, locals := 229 } : Room) s m args below meth c D E (Aof (zS μ0 ν0 a0 Ad0) [] s.heap.size) 22 (MQ below (cQ D E sz (zS μ0 ν0 a0 Ad0) [] (pI (fun r u => r = r0.2 ∧ ∃ A1, u = (zS r0.1.1.1 r0.1.1.2 r0.1.2 A1, []) ∧ kp ν0 Ad0 A1))) args s (kc r0.1.1.2 - kc ν0) (ks r0.1.1.2 - ks ν0) (Aof (zS μ0 ν0 a0 Ad0) [] s.heap.size)) (zS μ ν a Ad) [] (kc ν - kc ν0) (ks ν - ks ν0) 401 [(0, .ref (Q 0)), (1, .int x1), (2, .ref (Q 1)), (8, .ref (Q 9)), (9, .ref (Q 10)), (10, .ref (Q 11)), (11, .ref (Q 12)), (12, .ref (Q 13)), (13, .ref (Q 14)), (14, .int x14), (15, .int x15), (16, .int x16), (18, .int x18), (19, .int x19)] [.int s0] := by
  have m0 := mb_L_isTold_401 hmk216 h
  have e1 := m0.2.1; have e2 := m0.2.2.1; have e3 := hm0.2.1; have e4 := hm0.2.2.1
  have hI := lwI_mn hI0 hm0; have hQ := lwQ_kp hI0 hp0 hQ0
  unfold b_L_isTold_401 at h
  refine g_aload C dL_isTold_401 6 rfl ?_
  refine g_iload C dL_isTold_403 10 rfl ?_
  obtain ⟨g52, h⟩ := of_guard h
  refine q_iald C (show rsh (ν.1, μ.2, ν.2, Ad) from hI.2) (j := 12) (N := 10) (by decide) (lwQ_i hQ (j := 12) (N := 10) (by decide)) g52 dL_isTold_405 ?_
  refine g_iconst (v := (4 : Int32)) C dL_isTold_406 (by decide) ?_
  refine g_ishr C dL_isTold_407 ?_
  refine g_bipush (v := (7 : Int32)) C dL_isTold_408 (by decide) ?_
  refine g_iand C dL_isTold_410 ?_
  refine g_icmp_ne (tgt := 441) C dL_isTold_411 (by decide) (fun c411 => ?_) (fun c411 => ?_)
  · replace h := (if_neg c411).symm.trans h
    refine g_iconst (v := (0 : Int32)) C dL_isTold_441 (by decide) ?_
    obtain rfl := Option.some.inj h
    exact g_iret C hr rfl hz ⟨(hm0.2.2.2 30 (by decide) (by decide)).1, (hm0.2.2.2 31 (by decide) (by decide)).1, hp0.2.1, hp0.2.2⟩ ⟨rfl, Ad, rfl, hp0⟩ (fun j x h => by simp at h) dL_isTold_442
  · replace h := (if_pos c411).symm.trans h
    refine g_aload_n C dL_isTold_414 rfl 0 rfl ?_
    refine g_iload C dL_isTold_415 10 rfl ?_
    obtain ⟨v53, hv53, h⟩ := bind_of h
    have m2 := m_L_venues hv53
    have m3 := mb_L_isTold_420 hmk216 h
    have a1 := hm0.2.1; have a2 := hm0.2.2.1; have b1 := m2.2.1; have b2 := m2.2.2.1; have d1 := m3.2.1; have d2 := m3.2.2.1
    refine g_cSh (n := 2) (exr := []) C hEv hN ⟨hp0.2.1 0, hp0.2.2 0⟩ [_, _] _ rfl rfl [] rfl rfl (fun sz => wc_L_venues l hl B _ ν _ Ad Q hI hQ w _ _ hv53 D E sz) rfl gh_venues gw_0 gw_1313 gw_1314 ⟨by decide +kernel, by decide +kernel, by decide +kernel⟩ ⟨rfl, rfl⟩ ⟨Nat.le_of_ble_eq_true rfl, Nat.le_of_ble_eq_true rfl⟩ (Nat.le_of_ble_eq_true rfl) dL_isTold_417 ⟨by show (kc ν - kc ν0) + (kc v53.1.2 - kc ν) ≤ kc r0.1.1.2 - kc ν0; omega, by show (ks ν - ks ν0) + (ks v53.1.2 - ks ν) ≤ ks r0.1.1.2 - ks ν0; omega⟩ (fun r u hp hx => ?_)
    obtain ⟨er, A1, rfl, hkp⟩ := hp
    rw [er]
    try dsimp only [List.append_nil]
    refine g_widen (k := kc v53.1.2 - kc ν0) (n := ks v53.1.2 - ks ν0) (by omega) (by omega) ?_
    refine g_lv [0, 1, 2, 3, 4, 5, 6, 7, 8, 9, 10, 11, 12, 13] rfl ?_
    exact lb_L_isTold_420 hl C hEv hN hr hz hI0 hQ0 (mn_trans hm0 m2) (kp_trans hp0 hm0 hkp) hmk216 hk216 h
noncomputable def b_L_isTold_392 (k216 : MP → NC → AS → Int32 → Int32 → Int32 → Option (((MP × NC) × AS) × Int32)) (w : Nat) (μ : MP) (ν : NC) (a : AS) (x1 : Int32) (x14 : Int32) (x15 : Int32) (x16 : Int32) (x18 : Int32) (x19 : Int32) (s0 : Int32) (s1 : Int32) : Option (((MP × NC) × AS) × Int32) := (if s1 = s0 then ((f_L_underWay w μ ν x15).bind (fun v51 => b_L_isTold_401 k216 w v51.1.1 v51.1.2 a x1 x14 x15 x16 x18 x19 v51.2)) else (some (((μ, ν), a), (0 : Int32))))
theorem mb_L_isTold_392 {w : Nat} {μ : MP} {ν : NC} {a : AS} {x1 : Int32} {x14 : Int32} {x15 : Int32} {x16 : Int32} {x18 : Int32} {x19 : Int32} {s0 : Int32} {s1 : Int32} {r0 : ((MP × NC) × AS) × Int32} {k216 : MP → NC → AS → Int32 → Int32 → Int32 → Option (((MP × NC) × AS) × Int32)} (hmk216 : ∀ (μ : MP) (ν : NC) (a : AS) (z1 : Int32) (z14 : Int32) (z15 : Int32), k216 μ ν a z1 z14 z15 = some r0 → mn ν r0.1.1.2) (h : b_L_isTold_392 k216 w μ ν a x1 x14 x15 x16 x18 x19 s0 s1 = some r0) : mn ν r0.1.1.2 := by
  unfold b_L_isTold_392 at h
  by_cases c392 : s1 = s0
  · replace h := (if_pos c392).symm.trans h
    obtain ⟨v51, hv51, h⟩ := bind_of h
    exact mn_trans (m_L_underWay hv51) (mb_L_isTold_401 hmk216 h)
  · replace h := (if_neg c392).symm.trans h
    obtain rfl := Option.some.inj h
    exact mn_rfl _
set_option maxHeartbeats 4000000 in
set_option maxRecDepth 100000 in
theorem lb_L_isTold_392 {p : Program} {l : Launch} (hl : l.stackTraces = false) {e : Env} {s : State} {m : MethodId} {args : Array Value} {below : List Frame} {meth : Method} {c : Code} {D : va_G} {E : Nat → ClassId} {sz : Nat} {μ0 : MP} {ν0 : NC} {a0 : AS} {Ad0 : Nat → Nat → Nat} {Q : Nat → Nat} {B : Nat × (Nat → Nat)} {w : Nat} {r0 : ((MP × NC) × AS) × Int32} (C : cx p s m args meth c D E (Aof (zS μ0 ν0 a0 Ad0) [] s.heap.size) cL_isTold 22 "TradeLineLaw") (hEv : eV (Ad0 30 0) (Ad0 31 0) B (Aof (zS μ0 ν0 a0 Ad0) [] s.heap.size) s s.heap) (hN : vN s) (hr : meth.sig.returnType = (some .boolean)) (hz : s.heap.size = sz) (hI0 : lwI ν0) (hQ0 : lwQ Ad0 Q) {μ : MP} {ν : NC} {a : AS} {Ad : Nat → Nat → Nat} (hm0 : mn ν0 ν) (hp0 : kp ν0 Ad0 Ad) {x1 : Int32} {x14 : Int32} {x15 : Int32} {x16 : Int32} {x18 : Int32} {x19 : Int32} {s0 : Int32} {s1 : Int32} {k216 : MP → NC → AS → Int32 → Int32 → Int32 → Option (((MP × NC) × AS) × Int32)} (hmk216 : ∀ (μ : MP) (ν : NC) (a : AS) (z1 : Int32) (z14 : Int32) (z15 : Int32), k216 μ ν a z1 z14 z15 = some r0 → mn ν r0.1.1.2) (hk216 : ∀ (μ : MP) (ν : NC) (a : AS) (Ad : Nat → Nat → Nat) (z1 : Int32) (z14 : Int32) (z15 : Int32), mn ν0 ν → kp ν0 Ad0 Ad → k216 μ ν a z1 z14 z15 = some r0 → G p l e ({ frames := 11, cells := kc r0.1.1.2 - kc ν0, slots := ks r0.1.1.2 - ks ν0, locals := 229 } : Room) s m args below meth c D E (Aof (zS μ0 ν0 a0 Ad0) [] s.heap.size) 22 (MQ below (cQ D E sz (zS μ0 ν0 a0 Ad0) [] (pI (fun r u => r = r0.2 ∧ ∃ A1, u = (zS r0.1.1.1 r0.1.1.2 r0.1.2 A1, []) ∧ kp ν0 Ad0 A1))) args s (kc r0.1.1.2 - kc ν0) (ks r0.1.1.2 - ks ν0) (Aof (zS μ0 ν0 a0 Ad0) [] s.heap.size)) (zS μ ν a Ad) [] (kc ν - kc ν0) (ks ν - ks ν0) 216 [(0, .ref (Q 0)), (1, .int z1), (2, .ref (Q 1)), (8, .ref (Q 9)), (9, .ref (Q 10)), (10, .ref (Q 11)), (11, .ref (Q 12)), (12, .ref (Q 13)), (13, .ref (Q 14)), (14, .int z14), (15, .int z15)] []) (h : b_L_isTold_392 k216 w μ ν a x1 x14 x15 x16 x18 x19 s0 s1 = some r0) : G p l e ({ frames := 11, cells := kc r0.1.1.2 - kc ν0, slots := ks r0.1.1.2 - ks ν0, locals := 229 } : Room) s m args below meth c D E (Aof (zS μ0 ν0 a0 Ad0) [] s.heap.size) 22 (MQ below (cQ D E sz (zS μ0 ν0 a0 Ad0) [] (pI (fun r u => r = r0.2 ∧ ∃ A1, u = (zS r0.1.1.1 r0.1.1.2 r0.1.2 A1, []) ∧ kp ν0 Ad0 A1))) args s (kc r0.1.1.2 - kc ν0) (ks r0.1.1.2 - ks ν0) (Aof (zS μ0 ν0 a0 Ad0) [] s.heap.size)) (zS μ ν a Ad) [] (kc ν - kc ν0) (ks ν - ks ν0) 392 [(0, .ref (Q 0)), (1, .int x1), (2, .ref (Q 1)), (8, .ref (Q 9)), (9, .ref (Q 10)), (10, .ref (Q 11)), (11, .ref (Q 12)), (12, .ref (Q 13)), (13, .ref (Q 14)), (14, .int x14), (15, .int x15), (16, .int x16), (18, .int x18), (19, .int x19)] [.int s0, .int s1] := by
  have m0 := mb_L_isTold_392 hmk216 h
  have e1 := m0.2.1; have e2 := m0.2.2.1; have e3 := hm0.2.1; have e4 := hm0.2.2.1
  have hI := lwI_mn hI0 hm0; have hQ := lwQ_kp hI0 hp0 hQ0
  unfold b_L_isTold_392 at h
  refine g_icmp_ne (tgt := 441) C dL_isTold_392 (by decide) (fun c392 => ?_) (fun c392 => ?_)
  · replace h := (if_neg c392).symm.trans h
    refine g_iconst (v := (0 : Int32)) C dL_isTold_441 (by decide) ?_
    obtain rfl := Option.some.inj h
    exact g_iret C hr rfl hz ⟨(hm0.2.2.2 30 (by decide) (by decide)).1, (hm0.2.2.2 31 (by decide) (by decide)).1, hp0.2.1, hp0.2.2⟩ ⟨rfl, Ad, rfl, hp0⟩ (fun j x h => by simp at h) dL_isTold_442
  · replace h := (if_pos c392).symm.trans h
    refine g_aload_n C dL_isTold_395 rfl 0 rfl ?_
    refine g_iload C dL_isTold_396 10 rfl ?_
    obtain ⟨v51, hv51, h⟩ := bind_of h
    have m2 := m_L_underWay hv51
    have m3 := mb_L_isTold_401 hmk216 h
    have a1 := hm0.2.1; have a2 := hm0.2.2.1; have b1 := m2.2.1; have b2 := m2.2.2.1; have d1 := m3.2.1; have d2 := m3.2.2.1
    refine g_cSh (n := 2) (exr := []) C hEv hN ⟨hp0.2.1 0, hp0.2.2 0⟩ [_, _] _ rfl rfl [] rfl rfl (fun sz => wc_L_underWay l hl B _ ν _ Ad Q hI hQ w _ _ hv51 D E sz) rfl gh_underWay gw_0 gw_1306 gw_1307 ⟨by decide +kernel, by decide +kernel, by decide +kernel⟩ ⟨rfl, rfl⟩ ⟨Nat.le_of_ble_eq_true rfl, Nat.le_of_ble_eq_true rfl⟩ (Nat.le_of_ble_eq_true rfl) dL_isTold_398 ⟨by show (kc ν - kc ν0) + (kc v51.1.2 - kc ν) ≤ kc r0.1.1.2 - kc ν0; omega, by show (ks ν - ks ν0) + (ks v51.1.2 - ks ν) ≤ ks r0.1.1.2 - ks ν0; omega⟩ (fun r u hp hx => ?_)
    obtain ⟨er, A1, rfl, hkp⟩ := hp
    rw [er]
    try dsimp only [List.append_nil]
    refine g_widen (k := kc v51.1.2 - kc ν0) (n := ks v51.1.2 - ks ν0) (by omega) (by omega) ?_
    refine g_lv [0, 1, 2, 3, 4, 5, 6, 7, 8, 9, 10, 11, 12, 13] rfl ?_
    exact lb_L_isTold_401 hl C hEv hN hr hz hI0 hQ0 (mn_trans hm0 m2) (kp_trans hp0 hm0 hkp) hmk216 hk216 h
noncomputable def b_L_isTold_391 (k216 : MP → NC → AS → Int32 → Int32 → Int32 → Option (((MP × NC) × AS) × Int32)) (w : Nat) (μ : MP) (ν : NC) (a : AS) (x1 : Int32) (x14 : Int32) (x15 : Int32) (x16 : Int32) (x18 : Int32) (x19 : Int32) (s0 : Int32) : Option (((MP × NC) × AS) × Int32) := b_L_isTold_392 k216 w μ ν a x1 x14 x15 x16 x18 x19 (0 : Int32) s0
theorem mb_L_isTold_391 {w : Nat} {μ : MP} {ν : NC} {a : AS} {x1 : Int32} {x14 : Int32} {x15 : Int32} {x16 : Int32} {x18 : Int32} {x19 : Int32} {s0 : Int32} {r0 : ((MP × NC) × AS) × Int32} {k216 : MP → NC → AS → Int32 → Int32 → Int32 → Option (((MP × NC) × AS) × Int32)} (hmk216 : ∀ (μ : MP) (ν : NC) (a : AS) (z1 : Int32) (z14 : Int32) (z15 : Int32), k216 μ ν a z1 z14 z15 = some r0 → mn ν r0.1.1.2) (h : b_L_isTold_391 k216 w μ ν a x1 x14 x15 x16 x18 x19 s0 = some r0) : mn ν r0.1.1.2 := by
  unfold b_L_isTold_391 at h
  exact mb_L_isTold_392 hmk216 h
set_option maxHeartbeats 4000000 in
set_option maxRecDepth 100000 in
theorem lb_L_isTold_391 {p : Program} {l : Launch} (hl : l.stackTraces = false) {e : Env} {s : State} {m : MethodId} {args : Array Value} {below : List Frame} {meth : Method} {c : Code} {D : va_G} {E : Nat → ClassId} {sz : Nat} {μ0 : MP} {ν0 : NC} {a0 : AS} {Ad0 : Nat → Nat → Nat} {Q : Nat → Nat} {B : Nat × (Nat → Nat)} {w : Nat} {r0 : ((MP × NC) × AS) × Int32} (C : cx p s m args meth c D E (Aof (zS μ0 ν0 a0 Ad0) [] s.heap.size) cL_isTold 22 "TradeLineLaw") (hEv : eV (Ad0 30 0) (Ad0 31 0) B (Aof (zS μ0 ν0 a0 Ad0) [] s.heap.size) s s.heap) (hN : vN s) (hr : meth.sig.returnType = (some .boolean)) (hz : s.heap.size = sz) (hI0 : lwI ν0) (hQ0 : lwQ Ad0 Q) {μ : MP} {ν : NC} {a : AS} {Ad : Nat → Nat → Nat} (hm0 : mn ν0 ν) (hp0 : kp ν0 Ad0 Ad) {x1 : Int32} {x14 : Int32} {x15 : Int32} {x16 : Int32} {x18 : Int32} {x19 : Int32} {s0 : Int32} {k216 : MP → NC → AS → Int32 → Int32 → Int32 → Option (((MP × NC) × AS) × Int32)} (hmk216 : ∀ (μ : MP) (ν : NC) (a : AS) (z1 : Int32) (z14 : Int32) (z15 : Int32), k216 μ ν a z1 z14 z15 = some r0 → mn ν r0.1.1.2) (hk216 : ∀ (μ : MP) (ν : NC) (a : AS) (Ad : Nat → Nat → Nat) (z1 : Int32) (z14 : Int32) (z15 : Int32), mn ν0 ν → kp ν0 Ad0 Ad → k216 μ ν a z1 z14 z15 = some r0 → G p l e ({ frames := 11, cells := kc r0.1.1.2 - kc ν0, slots := ks r0.1.1.2 - ks ν0, locals := 229 } : Room) s m args below meth c D E (Aof (zS μ0 ν0 a0 Ad0) [] s.heap.size) 22 (MQ below (cQ D E sz (zS μ0 ν0 a0 Ad0) [] (pI (fun r u => r = r0.2 ∧ ∃ A1, u = (zS r0.1.1.1 r0.1.1.2 r0.1.2 A1, []) ∧ kp ν0 Ad0 A1))) args s (kc r0.1.1.2 - kc ν0) (ks r0.1.1.2 - ks ν0) (Aof (zS μ0 ν0 a0 Ad0) [] s.heap.size)) (zS μ ν a Ad) [] (kc ν - kc ν0) (ks ν - ks ν0) 216 [(0, .ref (Q 0)), (1, .int z1), (2, .ref (Q 1)), (8, .ref (Q 9)), (9, .ref (Q 10)), (10, .ref (Q 11)), (11, .ref (Q 12)), (12, .ref (Q 13)), (13, .ref (Q 14)), (14, .int z14), (15, .int z15)] []) (h : b_L_isTold_391 k216 w μ ν a x1 x14 x15 x16 x18 x19 s0 = some r0) : G p l e ({ frames := 11, cells := kc r0.1.1.2 - kc ν0, slots := ks r0.1.1.2 - ks ν0, locals := 229 } : Room) s m args below meth c D E (Aof (zS μ0 ν0 a0 Ad0) [] s.heap.size) 22 (MQ below (cQ D E sz (zS μ0 ν0 a0 Ad0) [] (pI (fun r u => r = r0.2 ∧ ∃ A1, u = (zS r0.1.1.1 r0.1.1.2 r0.1.2 A1, []) ∧ kp ν0 Ad0 A1))) args s (kc r0.1.1.2 - kc ν0) (ks r0.1.1.2 - ks ν0) (Aof (zS μ0 ν0 a0 Ad0) [] s.heap.size)) (zS μ ν a Ad) [] (kc ν - kc ν0) (ks ν - ks ν0) 391 [(0, .ref (Q 0)), (1, .int x1), (2, .ref (Q 1)), (8, .ref (Q 9)), (9, .ref (Q 10)), (10, .ref (Q 11)), (11, .ref (Q 12)), (12, .ref (Q 13)), (13, .ref (Q 14)), (14, .int x14), (15, .int x15), (16, .int x16), (18, .int x18), (19, .int x19)] [.int s0] := by
  have m0 := mb_L_isTold_391 hmk216 h
  have e1 := m0.2.1; have e2 := m0.2.2.1; have e3 := hm0.2.1; have e4 := hm0.2.2.1
  have hI := lwI_mn hI0 hm0; have hQ := lwQ_kp hI0 hp0 hQ0
  unfold b_L_isTold_391 at h
  refine g_iconst (v := (0 : Int32)) C dL_isTold_391 (by decide) ?_
  refine g_lv [0, 1, 2, 3, 4, 5, 6, 7, 8, 9, 10, 11, 12, 13] rfl ?_
  exact lb_L_isTold_392 hl C hEv hN hr hz hI0 hQ0 hm0 hp0 hmk216 hk216 h
noncomputable def b_L_isTold_371 (k216 : MP → NC → AS → Int32 → Int32 → Int32 → Option (((MP × NC) × AS) × Int32)) (w : Nat) (μ : MP) (ν : NC) (a : AS) (x1 : Int32) (x14 : Int32) (x15 : Int32) (x16 : Int32) (x17 : Int32) (x18 : Int32) (x19 : Int32) (s0 : Int32) : Option (((MP × NC) × AS) × Int32) := (if x17 = (0 : Int32) then (b_L_isTold_391 k216 w μ ν a x1 x14 x15 x16 x18 x19 s0) else (bif ixB x15 10 then (if ((a 12 x15.toNatClampNeg) &&& (8 : Int32)) ≤ (0 : Int32) then (b_L_isTold_391 k216 w μ ν a x1 x14 x15 x16 x18 x19 s0) else (b_L_isTold_392 k216 w μ ν a x1 x14 x15 x16 x18 x19 (1 : Int32) s0)) else none))
theorem mb_L_isTold_371 {w : Nat} {μ : MP} {ν : NC} {a : AS} {x1 : Int32} {x14 : Int32} {x15 : Int32} {x16 : Int32} {x17 : Int32} {x18 : Int32} {x19 : Int32} {s0 : Int32} {r0 : ((MP × NC) × AS) × Int32} {k216 : MP → NC → AS → Int32 → Int32 → Int32 → Option (((MP × NC) × AS) × Int32)} (hmk216 : ∀ (μ : MP) (ν : NC) (a : AS) (z1 : Int32) (z14 : Int32) (z15 : Int32), k216 μ ν a z1 z14 z15 = some r0 → mn ν r0.1.1.2) (h : b_L_isTold_371 k216 w μ ν a x1 x14 x15 x16 x17 x18 x19 s0 = some r0) : mn ν r0.1.1.2 := by
  unfold b_L_isTold_371 at h
  by_cases c373 : x17 = (0 : Int32)
  · replace h := (if_pos c373).symm.trans h
    exact mb_L_isTold_391 hmk216 h
  · replace h := (if_neg c373).symm.trans h
    replace h := (of_guard h).2
    by_cases c384 : ((a 12 x15.toNatClampNeg) &&& (8 : Int32)) ≤ (0 : Int32)
    · replace h := (if_pos c384).symm.trans h
      exact mb_L_isTold_391 hmk216 h
    · replace h := (if_neg c384).symm.trans h
      exact mb_L_isTold_392 hmk216 h
set_option maxHeartbeats 4000000 in
set_option maxRecDepth 100000 in
theorem lb_L_isTold_371 {p : Program} {l : Launch} (hl : l.stackTraces = false) {e : Env} {s : State} {m : MethodId} {args : Array Value} {below : List Frame} {meth : Method} {c : Code} {D : va_G} {E : Nat → ClassId} {sz : Nat} {μ0 : MP} {ν0 : NC} {a0 : AS} {Ad0 : Nat → Nat → Nat} {Q : Nat → Nat} {B : Nat × (Nat → Nat)} {w : Nat} {r0 : ((MP × NC) × AS) × Int32} (C : cx p s m args meth c D E (Aof (zS μ0 ν0 a0 Ad0) [] s.heap.size) cL_isTold 22 "TradeLineLaw") (hEv : eV (Ad0 30 0) (Ad0 31 0) B (Aof (zS μ0 ν0 a0 Ad0) [] s.heap.size) s s.heap) (hN : vN s) (hr : meth.sig.returnType = (some .boolean)) (hz : s.heap.size = sz) (hI0 : lwI ν0) (hQ0 : lwQ Ad0 Q) {μ : MP} {ν : NC} {a : AS} {Ad : Nat → Nat → Nat} (hm0 : mn ν0 ν) (hp0 : kp ν0 Ad0 Ad) {x1 : Int32} {x14 : Int32} {x15 : Int32} {x16 : Int32} {x17 : Int32} {x18 : Int32} {x19 : Int32} {s0 : Int32} {k216 : MP → NC → AS → Int32 → Int32 → Int32 → Option (((MP × NC) × AS) × Int32)} (hmk216 : ∀ (μ : MP) (ν : NC) (a : AS) (z1 : Int32) (z14 : Int32) (z15 : Int32), k216 μ ν a z1 z14 z15 = some r0 → mn ν r0.1.1.2) (hk216 : ∀ (μ : MP) (ν : NC) (a : AS) (Ad : Nat → Nat → Nat) (z1 : Int32) (z14 : Int32) (z15 : Int32), mn ν0 ν → kp ν0 Ad0 Ad → k216 μ ν a z1 z14 z15 = some r0 → G p l e ({ frames := 11, cells := kc r0.1.1.2 - kc ν0, slots := ks r0.1.1.2 - ks ν0, locals := 229 } : Room) s m args below meth c D E (Aof (zS μ0 ν0 a0 Ad0) [] s.heap.size) 22 (MQ below (cQ D E sz (zS μ0 ν0 a0 Ad0) [] (pI (fun r u => r = r0.2 ∧ ∃ A1, u = (zS r0.1.1.1 r0.1.1.2 r0.1.2 A1, []) ∧ kp ν0 Ad0 A1))) args s (kc r0.1.1.2 - kc ν0) (ks r0.1.1.2 - ks ν0) (Aof (zS μ0 ν0 a0 Ad0) [] s.heap.size)) (zS μ ν a Ad) [] (kc ν - kc ν0) (ks ν - ks ν0) 216 [(0, .ref (Q 0)), (1, .int z1), (2, .ref (Q 1)), (8, .ref (Q 9)), (9, .ref (Q 10)), (10, .ref (Q 11)), (11, .ref (Q 12)), (12, .ref (Q 13)), (13, .ref (Q 14)), (14, .int z14), (15, .int z15)] []) (h : b_L_isTold_371 k216 w μ ν a x1 x14 x15 x16 x17 x18 x19 s0 = some r0) : G p l e ({ frames := 11, cells := kc r0.1.1.2 - kc ν0, slots := ks r0.1.1.2 - ks ν0, locals := 229 } : Room) s m args below meth c D E (Aof (zS μ0 ν0 a0 Ad0) [] s.heap.size) 22 (MQ below (cQ D E sz (zS μ0 ν0 a0 Ad0) [] (pI (fun r u => r = r0.2 ∧ ∃ A1, u = (zS r0.1.1.1 r0.1.1.2 r0.1.2 A1, []) ∧ kp ν0 Ad0 A1))) args s (kc r0.1.1.2 - kc ν0) (ks r0.1.1.2 - ks ν0) (Aof (zS μ0 ν0 a0 Ad0) [] s.heap.size)) (zS μ ν a Ad) [] (kc ν - kc ν0) (ks ν - ks ν0) 371 [(0, .ref (Q 0)), (1, .int x1), (2, .ref (Q 1)), (8, .ref (Q 9)), (9, .ref (Q 10)), (10, .ref (Q 11)), (11, .ref (Q 12)), (12, .ref (Q 13)), (13, .ref (Q 14)), (14, .int x14), (15, .int x15), (16, .int x16), (17, .int x17), (18, .int x18), (19, .int x19)] [.int s0] := by
  have m0 := mb_L_isTold_371 hmk216 h
  have e1 := m0.2.1; have e2 := m0.2.2.1; have e3 := hm0.2.1; have e4 := hm0.2.2.1
  have hI := lwI_mn hI0 hm0; have hQ := lwQ_kp hI0 hp0 hQ0
  unfold b_L_isTold_371 at h
  refine g_iload C dL_isTold_371 12 rfl ?_
  refine g_if_eq (tgt := 391) C dL_isTold_373 (by decide) (fun c373 => ?_) (fun c373 => ?_)
  · replace h := (if_pos c373).symm.trans h
    refine g_lv [0, 1, 2, 3, 4, 5, 6, 7, 8, 9, 10, 11, 13, 14] rfl ?_
    exact lb_L_isTold_391 hl C hEv hN hr hz hI0 hQ0 hm0 hp0 hmk216 hk216 h
  · replace h := (if_neg c373).symm.trans h
    refine g_aload C dL_isTold_376 6 rfl ?_
    refine g_iload C dL_isTold_378 10 rfl ?_
    obtain ⟨g74, h⟩ := of_guard h
    refine q_iald C (show rsh (ν.1, μ.2, ν.2, Ad) from hI.2) (j := 12) (N := 10) (by decide) (lwQ_i hQ (j := 12) (N := 10) (by decide)) g74 dL_isTold_380 ?_
    refine g_bipush (v := (8 : Int32)) C dL_isTold_381 (by decide) ?_
    refine g_iand C dL_isTold_383 ?_
    refine g_if_le (tgt := 391) C dL_isTold_384 (by decide) (fun c384 => ?_) (fun c384 => ?_)
    · replace h := (if_pos c384).symm.trans h
      refine g_lv [0, 1, 2, 3, 4, 5, 6, 7, 8, 9, 10, 11, 13, 14] rfl ?_
      exact lb_L_isTold_391 hl C hEv hN hr hz hI0 hQ0 hm0 hp0 hmk216 hk216 h
    · replace h := (if_neg c384).symm.trans h
      refine g_iconst (v := (1 : Int32)) C dL_isTold_387 (by decide) ?_
      refine g_goto (tgt := 392) C dL_isTold_388 (by decide) ?_
      refine g_lv [0, 1, 2, 3, 4, 5, 6, 7, 8, 9, 10, 11, 13, 14] rfl ?_
      exact lb_L_isTold_392 hl C hEv hN hr hz hI0 hQ0 hm0 hp0 hmk216 hk216 h
noncomputable def b_L_isTold_362 (k216 : MP → NC → AS → Int32 → Int32 → Int32 → Option (((MP × NC) × AS) × Int32)) (w : Nat) (μ : MP) (ν : NC) (a : AS) (x1 : Int32) (x14 : Int32) (x15 : Int32) (x16 : Int32) (x17 : Int32) (x18 : Int32) (x19 : Int32) (s0 : Int32) (s1 : Int32) : Option (((MP × NC) × AS) × Int32) := (if s1 = s0 then ((f_L_isLeftOut w μ ν x15).bind (fun v50 => b_L_isTold_371 k216 w v50.1.1 v50.1.2 a x1 x14 x15 x16 x17 x18 x19 v50.2)) else (some (((μ, ν), a), (0 : Int32))))
theorem mb_L_isTold_362 {w : Nat} {μ : MP} {ν : NC} {a : AS} {x1 : Int32} {x14 : Int32} {x15 : Int32} {x16 : Int32} {x17 : Int32} {x18 : Int32} {x19 : Int32} {s0 : Int32} {s1 : Int32} {r0 : ((MP × NC) × AS) × Int32} {k216 : MP → NC → AS → Int32 → Int32 → Int32 → Option (((MP × NC) × AS) × Int32)} (hmk216 : ∀ (μ : MP) (ν : NC) (a : AS) (z1 : Int32) (z14 : Int32) (z15 : Int32), k216 μ ν a z1 z14 z15 = some r0 → mn ν r0.1.1.2) (h : b_L_isTold_362 k216 w μ ν a x1 x14 x15 x16 x17 x18 x19 s0 s1 = some r0) : mn ν r0.1.1.2 := by
  unfold b_L_isTold_362 at h
  by_cases c362 : s1 = s0
  · replace h := (if_pos c362).symm.trans h
    obtain ⟨v50, hv50, h⟩ := bind_of h
    exact mn_trans (m_L_isLeftOut hv50) (mb_L_isTold_371 hmk216 h)
  · replace h := (if_neg c362).symm.trans h
    obtain rfl := Option.some.inj h
    exact mn_rfl _
set_option maxHeartbeats 4000000 in
set_option maxRecDepth 100000 in
theorem lb_L_isTold_362 {p : Program} {l : Launch} (hl : l.stackTraces = false) {e : Env} {s : State} {m : MethodId} {args : Array Value} {below : List Frame} {meth : Method} {c : Code} {D : va_G} {E : Nat → ClassId} {sz : Nat} {μ0 : MP} {ν0 : NC} {a0 : AS} {Ad0 : Nat → Nat → Nat} {Q : Nat → Nat} {B : Nat × (Nat → Nat)} {w : Nat} {r0 : ((MP × NC) × AS) × Int32} (C : cx p s m args meth c D E (Aof (zS μ0 ν0 a0 Ad0) [] s.heap.size) cL_isTold 22 "TradeLineLaw") (hEv : eV (Ad0 30 0) (Ad0 31 0) B (Aof (zS μ0 ν0 a0 Ad0) [] s.heap.size) s s.heap) (hN : vN s) (hr : meth.sig.returnType = (some .boolean)) (hz : s.heap.size = sz) (hI0 : lwI ν0) (hQ0 : lwQ Ad0 Q) {μ : MP} {ν : NC} {a : AS} {Ad : Nat → Nat → Nat} (hm0 : mn ν0 ν) (hp0 : kp ν0 Ad0 Ad) {x1 : Int32} {x14 : Int32} {x15 : Int32} {x16 : Int32} {x17 : Int32} {x18 : Int32} {x19 : Int32} {s0 : Int32} {s1 : Int32} {k216 : MP → NC → AS → Int32 → Int32 → Int32 → Option (((MP × NC) × AS) × Int32)} (hmk216 : ∀ (μ : MP) (ν : NC) (a : AS) (z1 : Int32) (z14 : Int32) (z15 : Int32), k216 μ ν a z1 z14 z15 = some r0 → mn ν r0.1.1.2) (hk216 : ∀ (μ : MP) (ν : NC) (a : AS) (Ad : Nat → Nat → Nat) (z1 : Int32) (z14 : Int32) (z15 : Int32), mn ν0 ν → kp ν0 Ad0 Ad → k216 μ ν a z1 z14 z15 = some r0 → G p l e ({ frames := 11, cells := kc r0.1.1.2 - kc ν0, slots := ks r0.1.1.2 - ks ν0, locals := 229 } : Room) s m args below meth c D E (Aof (zS μ0 ν0 a0 Ad0) [] s.heap.size) 22 (MQ below (cQ D E sz (zS μ0 ν0 a0 Ad0) [] (pI (fun r u => r = r0.2 ∧ ∃ A1, u = (zS r0.1.1.1 r0.1.1.2 r0.1.2 A1, []) ∧ kp ν0 Ad0 A1))) args s (kc r0.1.1.2 - kc ν0) (ks r0.1.1.2 - ks ν0) (Aof (zS μ0 ν0 a0 Ad0) [] s.heap.size)) (zS μ ν a Ad) [] (kc ν - kc ν0) (ks ν - ks ν0) 216 [(0, .ref (Q 0)), (1, .int z1), (2, .ref (Q 1)), (8, .ref (Q 9)), (9, .ref (Q 10)), (10, .ref (Q 11)), (11, .ref (Q 12)), (12, .ref (Q 13)), (13, .ref (Q 14)), (14, .int z14), (15, .int z15)] []) (h : b_L_isTold_362 k216 w μ ν a x1 x14 x15 x16 x17 x18 x19 s0 s1 = some r0) : G p l e ({ frames := 11, cells := kc r0.1.1.2 - kc ν0, slots := ks r0.1.1.2 - ks ν0, locals := 229 } : Room) s m args below meth c D E (Aof (zS μ0 ν0 a0 Ad0) [] s.heap.size) 22 (MQ below (cQ D E sz (zS μ0 ν0 a0 Ad0) [] (pI (fun r u => r = r0.2 ∧ ∃ A1, u = (zS r0.1.1.1 r0.1.1.2 r0.1.2 A1, []) ∧ kp ν0 Ad0 A1))) args s (kc r0.1.1.2 - kc ν0) (ks r0.1.1.2 - ks ν0) (Aof (zS μ0 ν0 a0 Ad0) [] s.heap.size)) (zS μ ν a Ad) [] (kc ν - kc ν0) (ks ν - ks ν0) 362 [(0, .ref (Q 0)), (1, .int x1), (2, .ref (Q 1)), (8, .ref (Q 9)), (9, .ref (Q 10)), (10, .ref (Q 11)), (11, .ref (Q 12)), (12, .ref (Q 13)), (13, .ref (Q 14)), (14, .int x14), (15, .int x15), (16, .int x16), (17, .int x17), (18, .int x18), (19, .int x19)] [.int s0, .int s1] := by
  have m0 := mb_L_isTold_362 hmk216 h
  have e1 := m0.2.1; have e2 := m0.2.2.1; have e3 := hm0.2.1; have e4 := hm0.2.2.1
  have hI := lwI_mn hI0 hm0; have hQ := lwQ_kp hI0 hp0 hQ0
  unfold b_L_isTold_362 at h
  refine g_icmp_ne (tgt := 441) C dL_isTold_362 (by decide) (fun c362 => ?_) (fun c362 => ?_)
  · replace h := (if_neg c362).symm.trans h
    refine g_iconst (v := (0 : Int32)) C dL_isTold_441 (by decide) ?_
    obtain rfl := Option.some.inj h
    exact g_iret C hr rfl hz ⟨(hm0.2.2.2 30 (by decide) (by decide)).1, (hm0.2.2.2 31 (by decide) (by decide)).1, hp0.2.1, hp0.2.2⟩ ⟨rfl, Ad, rfl, hp0⟩ (fun j x h => by simp at h) dL_isTold_442
  · replace h := (if_pos c362).symm.trans h
    refine g_aload_n C dL_isTold_365 rfl 0 rfl ?_
    refine g_iload C dL_isTold_366 10 rfl ?_
    obtain ⟨v50, hv50, h⟩ := bind_of h
    have m2 := m_L_isLeftOut hv50
    have m3 := mb_L_isTold_371 hmk216 h
    have a1 := hm0.2.1; have a2 := hm0.2.2.1; have b1 := m2.2.1; have b2 := m2.2.2.1; have d1 := m3.2.1; have d2 := m3.2.2.1
    refine g_cSh (n := 2) (exr := []) C hEv hN ⟨hp0.2.1 0, hp0.2.2 0⟩ [_, _] _ rfl rfl [] rfl rfl (fun sz => wc_L_isLeftOut l hl B _ ν _ Ad Q hI hQ w _ _ hv50 D E sz) rfl gh_isLeftOut gw_0 gw_1299 gw_1300 ⟨by decide +kernel, by decide +kernel, by decide +kernel⟩ ⟨rfl, rfl⟩ ⟨Nat.le_of_ble_eq_true rfl, Nat.le_of_ble_eq_true rfl⟩ (Nat.le_of_ble_eq_true rfl) dL_isTold_368 ⟨by show (kc ν - kc ν0) + (kc v50.1.2 - kc ν) ≤ kc r0.1.1.2 - kc ν0; omega, by show (ks ν - ks ν0) + (ks v50.1.2 - ks ν) ≤ ks r0.1.1.2 - ks ν0; omega⟩ (fun r u hp hx => ?_)
    obtain ⟨er, A1, rfl, hkp⟩ := hp
    rw [er]
    try dsimp only [List.append_nil]
    refine g_widen (k := kc v50.1.2 - kc ν0) (n := ks v50.1.2 - ks ν0) (by omega) (by omega) ?_
    refine g_lv [0, 1, 2, 3, 4, 5, 6, 7, 8, 9, 10, 11, 12, 13, 14] rfl ?_
    exact lb_L_isTold_371 hl C hEv hN hr hz hI0 hQ0 (mn_trans hm0 m2) (kp_trans hp0 hm0 hkp) hmk216 hk216 h
noncomputable def b_L_isTold_343 (k216 : MP → NC → AS → Int32 → Int32 → Int32 → Option (((MP × NC) × AS) × Int32)) (w : Nat) (μ : MP) (ν : NC) (a : AS) (x1 : Int32) (x14 : Int32) (x15 : Int32) (x16 : Int32) (x17 : Int32) (x18 : Int32) (x19 : Int32) (s0 : Int32) : Option (((MP × NC) × AS) × Int32) := (if x17 = (0 : Int32) then ((if x18 ≤ (0 : Int32) then (b_L_isTold_362 k216 w μ ν a x1 x14 x15 x16 x17 x18 x19 (2 : Int32) s0) else (b_L_isTold_362 k216 w μ ν a x1 x14 x15 x16 x17 x18 x19 (1 : Int32) s0))) else (b_L_isTold_362 k216 w μ ν a x1 x14 x15 x16 x17 x18 x19 (0 : Int32) s0))
theorem mb_L_isTold_343 {w : Nat} {μ : MP} {ν : NC} {a : AS} {x1 : Int32} {x14 : Int32} {x15 : Int32} {x16 : Int32} {x17 : Int32} {x18 : Int32} {x19 : Int32} {s0 : Int32} {r0 : ((MP × NC) × AS) × Int32} {k216 : MP → NC → AS → Int32 → Int32 → Int32 → Option (((MP × NC) × AS) × Int32)} (hmk216 : ∀ (μ : MP) (ν : NC) (a : AS) (z1 : Int32) (z14 : Int32) (z15 : Int32), k216 μ ν a z1 z14 z15 = some r0 → mn ν r0.1.1.2) (h : b_L_isTold_343 k216 w μ ν a x1 x14 x15 x16 x17 x18 x19 s0 = some r0) : mn ν r0.1.1.2 := by
  unfold b_L_isTold_343 at h
  by_cases c345 : x17 = (0 : Int32)
  · replace h := (if_pos c345).symm.trans h
    by_cases c354 : x18 ≤ (0 : Int32)
    · replace h := (if_pos c354).symm.trans h
      exact mb_L_isTold_362 hmk216 h
    · replace h := (if_neg c354).symm.trans h
      exact mb_L_isTold_362 hmk216 h
  · replace h := (if_neg c345).symm.trans h
    exact mb_L_isTold_362 hmk216 h
set_option maxHeartbeats 4000000 in
set_option maxRecDepth 100000 in
theorem lb_L_isTold_343 {p : Program} {l : Launch} (hl : l.stackTraces = false) {e : Env} {s : State} {m : MethodId} {args : Array Value} {below : List Frame} {meth : Method} {c : Code} {D : va_G} {E : Nat → ClassId} {sz : Nat} {μ0 : MP} {ν0 : NC} {a0 : AS} {Ad0 : Nat → Nat → Nat} {Q : Nat → Nat} {B : Nat × (Nat → Nat)} {w : Nat} {r0 : ((MP × NC) × AS) × Int32} (C : cx p s m args meth c D E (Aof (zS μ0 ν0 a0 Ad0) [] s.heap.size) cL_isTold 22 "TradeLineLaw") (hEv : eV (Ad0 30 0) (Ad0 31 0) B (Aof (zS μ0 ν0 a0 Ad0) [] s.heap.size) s s.heap) (hN : vN s) (hr : meth.sig.returnType = (some .boolean)) (hz : s.heap.size = sz) (hI0 : lwI ν0) (hQ0 : lwQ Ad0 Q) {μ : MP} {ν : NC} {a : AS} {Ad : Nat → Nat → Nat} (hm0 : mn ν0 ν) (hp0 : kp ν0 Ad0 Ad) {x1 : Int32} {x14 : Int32} {x15 : Int32} {x16 : Int32} {x17 : Int32} {x18 : Int32} {x19 : Int32} {s0 : Int32} {k216 : MP → NC → AS → Int32 → Int32 → Int32 → Option (((MP × NC) × AS) × Int32)} (hmk216 : ∀ (μ : MP) (ν : NC) (a : AS) (z1 : Int32) (z14 : Int32) (z15 : Int32), k216 μ ν a z1 z14 z15 = some r0 → mn ν r0.1.1.2) (hk216 : ∀ (μ : MP) (ν : NC) (a : AS) (Ad : Nat → Nat → Nat) (z1 : Int32) (z14 : Int32) (z15 : Int32), mn ν0 ν → kp ν0 Ad0 Ad → k216 μ ν a z1 z14 z15 = some r0 → G p l e ({ frames := 11, cells := kc r0.1.1.2 - kc ν0, slots := ks r0.1.1.2 - ks ν0, locals := 229 } : Room) s m args below meth c D E (Aof (zS μ0 ν0 a0 Ad0) [] s.heap.size) 22 (MQ below (cQ D E sz (zS μ0 ν0 a0 Ad0) [] (pI (fun r u => r = r0.2 ∧ ∃ A1, u = (zS r0.1.1.1 r0.1.1.2 r0.1.2 A1, []) ∧ kp ν0 Ad0 A1))) args s (kc r0.1.1.2 - kc ν0) (ks r0.1.1.2 - ks ν0) (Aof (zS μ0 ν0 a0 Ad0) [] s.heap.size)) (zS μ ν a Ad) [] (kc ν - kc ν0) (ks ν - ks ν0) 216 [(0, .ref (Q 0)), (1, .int z1), (2, .ref (Q 1)), (8, .ref (Q 9)), (9, .ref (Q 10)), (10, .ref (Q 11)), (11, .ref (Q 12)), (12, .ref (Q 13)), (13, .ref (Q 14)), (14, .int z14), (15, .int z15)] []) (h : b_L_isTold_343 k216 w μ ν a x1 x14 x15 x16 x17 x18 x19 s0 = some r0) : G p l e ({ frames := 11, cells := kc r0.1.1.2 - kc ν0, slots := ks r0.1.1.2 - ks ν0, locals := 229 } : Room) s m args below meth c D E (Aof (zS μ0 ν0 a0 Ad0) [] s.heap.size) 22 (MQ below (cQ D E sz (zS μ0 ν0 a0 Ad0) [] (pI (fun r u => r = r0.2 ∧ ∃ A1, u = (zS r0.1.1.1 r0.1.1.2 r0.1.2 A1, []) ∧ kp ν0 Ad0 A1))) args s (kc r0.1.1.2 - kc ν0) (ks r0.1.1.2 - ks ν0) (Aof (zS μ0 ν0 a0 Ad0) [] s.heap.size)) (zS μ ν a Ad) [] (kc ν - kc ν0) (ks ν - ks ν0) 343 [(0, .ref (Q 0)), (1, .int x1), (2, .ref (Q 1)), (8, .ref (Q 9)), (9, .ref (Q 10)), (10, .ref (Q 11)), (11, .ref (Q 12)), (12, .ref (Q 13)), (13, .ref (Q 14)), (14, .int x14), (15, .int x15), (16, .int x16), (17, .int x17), (18, .int x18), (19, .int x19)] [.int s0] := by
  have m0 := mb_L_isTold_343 hmk216 h
  have e1 := m0.2.1; have e2 := m0.2.2.1; have e3 := hm0.2.1; have e4 := hm0.2.2.1
  have hI := lwI_mn hI0 hm0; have hQ := lwQ_kp hI0 hp0 hQ0
  unfold b_L_isTold_343 at h
  refine g_iload C dL_isTold_343 12 rfl ?_
  refine g_if_eq (tgt := 352) C dL_isTold_345 (by decide) (fun c345 => ?_) (fun c345 => ?_)
  · replace h := (if_pos c345).symm.trans h
    refine g_iload C dL_isTold_352 13 rfl ?_
    refine g_if_le (tgt := 361) C dL_isTold_354 (by decide) (fun c354 => ?_) (fun c354 => ?_)
    · replace h := (if_pos c354).symm.trans h
      refine g_iconst (v := (2 : Int32)) C dL_isTold_361 (by decide) ?_
      refine g_lv [0, 1, 2, 3, 4, 5, 6, 7, 8, 9, 10, 11, 12, 13, 14] rfl ?_
      exact lb_L_isTold_362 hl C hEv hN hr hz hI0 hQ0 hm0 hp0 hmk216 hk216 h
    · replace h := (if_neg c354).symm.trans h
      refine g_iconst (v := (1 : Int32)) C dL_isTold_357 (by decide) ?_
      refine g_goto (tgt := 362) C dL_isTold_358 (by decide) ?_
      refine g_lv [0, 1, 2, 3, 4, 5, 6, 7, 8, 9, 10, 11, 12, 13, 14] rfl ?_
      exact lb_L_isTold_362 hl C hEv hN hr hz hI0 hQ0 hm0 hp0 hmk216 hk216 h
  · replace h := (if_neg c345).symm.trans h
    refine g_iconst (v := (0 : Int32)) C dL_isTold_348 (by decide) ?_
    refine g_goto (tgt := 362) C dL_isTold_349 (by decide) ?_
    refine g_lv [0, 1, 2, 3, 4, 5, 6, 7, 8, 9, 10, 11, 12, 13, 14] rfl ?_
    exact lb_L_isTold_362 hl C hEv hN hr hz hI0 hQ0 hm0 hp0 hmk216 hk216 h
noncomputable def b_L_isTold_331 (k216 : MP → NC → AS → Int32 → Int32 → Int32 → Option (((MP × NC) × AS) × Int32)) (k287 : MP → NC → AS → Int32 → Int32 → Int32 → Int32 → Int32 → Int32 → Int32 → Int32 → Option (((MP × NC) × AS) × Int32)) (w : Nat) (μ : MP) (ν : NC) (a : AS) (x1 : Int32) (x14 : Int32) (x15 : Int32) (x16 : Int32) (x17 : Int32) (x18 : Int32) (x19 : Int32) (x20 : Int32)  : Option (((MP × NC) × AS) × Int32) := yl (x20 + (1 : Int32)) (fun t76 => k287 μ ν a x1 x14 x15 x16 x17 x18 x19 t76)
theorem mb_L_isTold_331 {w : Nat} {μ : MP} {ν : NC} {a : AS} {x1 : Int32} {x14 : Int32} {x15 : Int32} {x16 : Int32} {x17 : Int32} {x18 : Int32} {x19 : Int32} {x20 : Int32}  {r0 : ((MP × NC) × AS) × Int32} {k216 : MP → NC → AS → Int32 → Int32 → Int32 → Option (((MP × NC) × AS) × Int32)} {k287 : MP → NC → AS → Int32 → Int32 → Int32 → Int32 → Int32 → Int32 → Int32 → Int32 → Option (((MP × NC) × AS) × Int32)} (hmk216 : ∀ (μ : MP) (ν : NC) (a : AS) (z1 : Int32) (z14 : Int32) (z15 : Int32), k216 μ ν a z1 z14 z15 = some r0 → mn ν r0.1.1.2) (hmk287 : ∀ (μ : MP) (ν : NC) (a : AS) (z1 : Int32) (z14 : Int32) (z15 : Int32) (z16 : Int32) (z17 : Int32) (z18 : Int32) (z19 : Int32) (z20 : Int32), k287 μ ν a z1 z14 z15 z16 z17 z18 z19 z20 = some r0 → mn ν r0.1.1.2) (h : b_L_isTold_331 k216 k287 w μ ν a x1 x14 x15 x16 x17 x18 x19 x20  = some r0) : mn ν r0.1.1.2 := by
  unfold b_L_isTold_331 at h
  obtain ⟨t76, et76⟩ : ∃ y, x20 + (1 : Int32) = y := ⟨_, rfl⟩
  replace h := yl_of h et76
  exact hmk287 _ _ _ _ _ _ _ _ _ _ _ h
set_option maxHeartbeats 4000000 in
set_option maxRecDepth 100000 in
theorem lb_L_isTold_331 {p : Program} {l : Launch} (hl : l.stackTraces = false) {e : Env} {s : State} {m : MethodId} {args : Array Value} {below : List Frame} {meth : Method} {c : Code} {D : va_G} {E : Nat → ClassId} {sz : Nat} {μ0 : MP} {ν0 : NC} {a0 : AS} {Ad0 : Nat → Nat → Nat} {Q : Nat → Nat} {B : Nat × (Nat → Nat)} {w : Nat} {r0 : ((MP × NC) × AS) × Int32} (C : cx p s m args meth c D E (Aof (zS μ0 ν0 a0 Ad0) [] s.heap.size) cL_isTold 22 "TradeLineLaw") (hEv : eV (Ad0 30 0) (Ad0 31 0) B (Aof (zS μ0 ν0 a0 Ad0) [] s.heap.size) s s.heap) (hN : vN s) (hr : meth.sig.returnType = (some .boolean)) (hz : s.heap.size = sz) (hI0 : lwI ν0) (hQ0 : lwQ Ad0 Q) {μ : MP} {ν : NC} {a : AS} {Ad : Nat → Nat → Nat} (hm0 : mn ν0 ν) (hp0 : kp ν0 Ad0 Ad) {x1 : Int32} {x14 : Int32} {x15 : Int32} {x16 : Int32} {x17 : Int32} {x18 : Int32} {x19 : Int32} {x20 : Int32}  {k216 : MP → NC → AS → Int32 → Int32 → Int32 → Option (((MP × NC) × AS) × Int32)} {k287 : MP → NC → AS → Int32 → Int32 → Int32 → Int32 → Int32 → Int32 → Int32 → Int32 → Option (((MP × NC) × AS) × Int32)} (hmk216 : ∀ (μ : MP) (ν : NC) (a : AS) (z1 : Int32) (z14 : Int32) (z15 : Int32), k216 μ ν a z1 z14 z15 = some r0 → mn ν r0.1.1.2) (hk216 : ∀ (μ : MP) (ν : NC) (a : AS) (Ad : Nat → Nat → Nat) (z1 : Int32) (z14 : Int32) (z15 : Int32), mn ν0 ν → kp ν0 Ad0 Ad → k216 μ ν a z1 z14 z15 = some r0 → G p l e ({ frames := 11, cells := kc r0.1.1.2 - kc ν0, slots := ks r0.1.1.2 - ks ν0, locals := 229 } : Room) s m args below meth c D E (Aof (zS μ0 ν0 a0 Ad0) [] s.heap.size) 22 (MQ below (cQ D E sz (zS μ0 ν0 a0 Ad0) [] (pI (fun r u => r = r0.2 ∧ ∃ A1, u = (zS r0.1.1.1 r0.1.1.2 r0.1.2 A1, []) ∧ kp ν0 Ad0 A1))) args s (kc r0.1.1.2 - kc ν0) (ks r0.1.1.2 - ks ν0) (Aof (zS μ0 ν0 a0 Ad0) [] s.heap.size)) (zS μ ν a Ad) [] (kc ν - kc ν0) (ks ν - ks ν0) 216 [(0, .ref (Q 0)), (1, .int z1), (2, .ref (Q 1)), (8, .ref (Q 9)), (9, .ref (Q 10)), (10, .ref (Q 11)), (11, .ref (Q 12)), (12, .ref (Q 13)), (13, .ref (Q 14)), (14, .int z14), (15, .int z15)] []) (hmk287 : ∀ (μ : MP) (ν : NC) (a : AS) (z1 : Int32) (z14 : Int32) (z15 : Int32) (z16 : Int32) (z17 : Int32) (z18 : Int32) (z19 : Int32) (z20 : Int32), k287 μ ν a z1 z14 z15 z16 z17 z18 z19 z20 = some r0 → mn ν r0.1.1.2) (hk287 : ∀ (μ : MP) (ν : NC) (a : AS) (Ad : Nat → Nat → Nat) (z1 : Int32) (z14 : Int32) (z15 : Int32) (z16 : Int32) (z17 : Int32) (z18 : Int32) (z19 : Int32) (z20 : Int32), mn ν0 ν → kp ν0 Ad0 Ad → k287 μ ν a z1 z14 z15 z16 z17 z18 z19 z20 = some r0 → G p l e ({ frames := 11, cells := kc r0.1.1.2 - kc ν0, slots := ks r0.1.1.2 - ks ν0, locals := 229 } : Room) s m args below meth c D E (Aof (zS μ0 ν0 a0 Ad0) [] s.heap.size) 22 (MQ below (cQ D E sz (zS μ0 ν0 a0 Ad0) [] (pI (fun r u => r = r0.2 ∧ ∃ A1, u = (zS r0.1.1.1 r0.1.1.2 r0.1.2 A1, []) ∧ kp ν0 Ad0 A1))) args s (kc r0.1.1.2 - kc ν0) (ks r0.1.1.2 - ks ν0) (Aof (zS μ0 ν0 a0 Ad0) [] s.heap.size)) (zS μ ν a Ad) [] (kc ν - kc ν0) (ks ν - ks ν0) 287 [(0, .ref (Q 0)), (1, .int z1), (2, .ref (Q 1)), (8, .ref (Q 9)), (9, .ref (Q 10)), (10, .ref (Q 11)), (11, .ref (Q 12)), (12, .ref (Q 13)), (13, .ref (Q 14)), (14, .int z14), (15, .int z15), (16, .int z16), (17, .int z17), (18, .int z18), (19, .int z19), (20, .int z20)] []) (h : b_L_isTold_331 k216 k287 w μ ν a x1 x14 x15 x16 x17 x18 x19 x20  = some r0) : G p l e ({ frames := 11, cells := kc r0.1.1.2 - kc ν0, slots := ks r0.1.1.2 - ks ν0, locals := 229 } : Room) s m args below meth c D E (Aof (zS μ0 ν0 a0 Ad0) [] s.heap.size) 22 (MQ below (cQ D E sz (zS μ0 ν0 a0 Ad0) [] (pI (fun r u => r = r0.2 ∧ ∃ A1, u = (zS r0.1.1.1 r0.1.1.2 r0.1.2 A1, []) ∧ kp ν0 Ad0 A1))) args s (kc r0.1.1.2 - kc ν0) (ks r0.1.1.2 - ks ν0) (Aof (zS μ0 ν0 a0 Ad0) [] s.heap.size)) (zS μ ν a Ad) [] (kc ν - kc ν0) (ks ν - ks ν0) 331 [(0, .ref (Q 0)), (1, .int x1), (2, .ref (Q 1)), (8, .ref (Q 9)), (9, .ref (Q 10)), (10, .ref (Q 11)), (11, .ref (Q 12)), (12, .ref (Q 13)), (13, .ref (Q 14)), (14, .int x14), (15, .int x15), (16, .int x16), (17, .int x17), (18, .int x18), (19, .int x19), (20, .int x20)] [] := by
  have m0 := mb_L_isTold_331 hmk216 hmk287 h
  have e1 := m0.2.1; have e2 := m0.2.2.1; have e3 := hm0.2.1; have e4 := hm0.2.2.1
  have hI := lwI_mn hI0 hm0; have hQ := lwQ_kp hI0 hp0 hQ0
  unfold b_L_isTold_331 at h
  obtain ⟨t76, et76⟩ : ∃ y : Int32, x20 + (1 : Int32) = y := ⟨_, rfl⟩
  replace h := yl_of h et76
  refine g_iinc (v := t76) (lv' := [(20, .int t76), (0, .ref (Q 0)), (1, .int x1), (2, .ref (Q 1)), (8, .ref (Q 9)), (9, .ref (Q 10)), (10, .ref (Q 11)), (11, .ref (Q 12)), (12, .ref (Q 13)), (13, .ref (Q 14)), (14, .int x14), (15, .int x15), (16, .int x16), (17, .int x17), (18, .int x18), (19, .int x19)]) C dL_isTold_331 15 rfl (by rw [← et76]; rfl) (by decide) rfl ?_
  refine g_goto (tgt := 287) C dL_isTold_334 (by decide) ?_
  refine g_lv [1, 2, 3, 4, 5, 6, 7, 8, 9, 10, 11, 12, 13, 14, 15, 0] rfl ?_
  exact hk287 _ _ _ _ _ _ _ _ _ _ _ _ hm0 hp0 h
noncomputable def b_L_isTold_287 (k216 : MP → NC → AS → Int32 → Int32 → Int32 → Option (((MP × NC) × AS) × Int32)) (k287 : MP → NC → AS → Int32 → Int32 → Int32 → Int32 → Int32 → Int32 → Int32 → Int32 → Option (((MP × NC) × AS) × Int32)) (w : Nat) (μ : MP) (ν : NC) (a : AS) (x1 : Int32) (x14 : Int32) (x15 : Int32) (x16 : Int32) (x17 : Int32) (x18 : Int32) (x19 : Int32) (x20 : Int32)  : Option (((MP × NC) × AS) × Int32) := bif ixB (19 : Int32) 22 then (if (a 1 (19 : Int32).toNatClampNeg) ≤ x20 then ((f_L_stateOf w μ ν x15).bind (fun v49 => b_L_isTold_343 k216 w v49.1.1 v49.1.2 a x1 x14 x15 x16 x17 x18 x19 v49.2)) else (bif ixB x20 60 then (if (lcv ((lgA a 13 x20.toNatClampNeg) &&& (15 : Int64)) (Int32.toInt64 x15)) = (0 : Int32) then (yl ((x19 ||| ((1 : Int32) <<< ((Int64.toInt32 (((lgA a 13 x20.toNatClampNeg) >>> (Int32.toInt64 (4 : Int32) &&& 63)) &&& (3 : Int64))) &&& 31)))) (fun t77 => b_L_isTold_331 k216 k287 w μ ν a x1 x14 x15 x16 x17 x18 t77 x20)) else (b_L_isTold_331 k216 k287 w μ ν a x1 x14 x15 x16 x17 x18 x19 x20)) else none)) else none
theorem mb_L_isTold_287 {w : Nat} {μ : MP} {ν : NC} {a : AS} {x1 : Int32} {x14 : Int32} {x15 : Int32} {x16 : Int32} {x17 : Int32} {x18 : Int32} {x19 : Int32} {x20 : Int32}  {r0 : ((MP × NC) × AS) × Int32} {k216 : MP → NC → AS → Int32 → Int32 → Int32 → Option (((MP × NC) × AS) × Int32)} {k287 : MP → NC → AS → Int32 → Int32 → Int32 → Int32 → Int32 → Int32 → Int32 → Int32 → Option (((MP × NC) × AS) × Int32)} (hmk216 : ∀ (μ : MP) (ν : NC) (a : AS) (z1 : Int32) (z14 : Int32) (z15 : Int32), k216 μ ν a z1 z14 z15 = some r0 → mn ν r0.1.1.2) (hmk287 : ∀ (μ : MP) (ν : NC) (a : AS) (z1 : Int32) (z14 : Int32) (z15 : Int32) (z16 : Int32) (z17 : Int32) (z18 : Int32) (z19 : Int32) (z20 : Int32), k287 μ ν a z1 z14 z15 z16 z17 z18 z19 z20 = some r0 → mn ν r0.1.1.2) (h : b_L_isTold_287 k216 k287 w μ ν a x1 x14 x15 x16 x17 x18 x19 x20  = some r0) : mn ν r0.1.1.2 := by
  unfold b_L_isTold_287 at h
  replace h := (of_guard h).2
  by_cases c293 : (a 1 (19 : Int32).toNatClampNeg) ≤ x20
  · replace h := (if_pos c293).symm.trans h
    obtain ⟨v49, hv49, h⟩ := bind_of h
    exact mn_trans (m_L_stateOf hv49) (mb_L_isTold_343 hmk216 h)
  · replace h := (if_neg c293).symm.trans h
    replace h := (of_guard h).2
    by_cases c309 : (lcv ((lgA a 13 x20.toNatClampNeg) &&& (15 : Int64)) (Int32.toInt64 x15)) = (0 : Int32)
    · replace h := (if_pos c309).symm.trans h
      obtain ⟨t77, et77⟩ : ∃ y, (x19 ||| ((1 : Int32) <<< ((Int64.toInt32 (((lgA a 13 x20.toNatClampNeg) >>> (Int32.toInt64 (4 : Int32) &&& 63)) &&& (3 : Int64))) &&& 31))) = y := ⟨_, rfl⟩
      replace h := yl_of h et77
      exact mb_L_isTold_331 hmk216 hmk287 h
    · replace h := (if_neg c309).symm.trans h
      exact mb_L_isTold_331 hmk216 hmk287 h
set_option maxHeartbeats 4000000 in
set_option maxRecDepth 100000 in
theorem lb_L_isTold_287 {p : Program} {l : Launch} (hl : l.stackTraces = false) {e : Env} {s : State} {m : MethodId} {args : Array Value} {below : List Frame} {meth : Method} {c : Code} {D : va_G} {E : Nat → ClassId} {sz : Nat} {μ0 : MP} {ν0 : NC} {a0 : AS} {Ad0 : Nat → Nat → Nat} {Q : Nat → Nat} {B : Nat × (Nat → Nat)} {w : Nat} {r0 : ((MP × NC) × AS) × Int32} (C : cx p s m args meth c D E (Aof (zS μ0 ν0 a0 Ad0) [] s.heap.size) cL_isTold 22 "TradeLineLaw") (hEv : eV (Ad0 30 0) (Ad0 31 0) B (Aof (zS μ0 ν0 a0 Ad0) [] s.heap.size) s s.heap) (hN : vN s) (hr : meth.sig.returnType = (some .boolean)) (hz : s.heap.size = sz) (hI0 : lwI ν0) (hQ0 : lwQ Ad0 Q) {μ : MP} {ν : NC} {a : AS} {Ad : Nat → Nat → Nat} (hm0 : mn ν0 ν) (hp0 : kp ν0 Ad0 Ad) {x1 : Int32} {x14 : Int32} {x15 : Int32} {x16 : Int32} {x17 : Int32} {x18 : Int32} {x19 : Int32} {x20 : Int32}  {k216 : MP → NC → AS → Int32 → Int32 → Int32 → Option (((MP × NC) × AS) × Int32)} {k287 : MP → NC → AS → Int32 → Int32 → Int32 → Int32 → Int32 → Int32 → Int32 → Int32 → Option (((MP × NC) × AS) × Int32)} (hmk216 : ∀ (μ : MP) (ν : NC) (a : AS) (z1 : Int32) (z14 : Int32) (z15 : Int32), k216 μ ν a z1 z14 z15 = some r0 → mn ν r0.1.1.2) (hk216 : ∀ (μ : MP) (ν : NC) (a : AS) (Ad : Nat → Nat → Nat) (z1 : Int32) (z14 : Int32) (z15 : Int32), mn ν0 ν → kp ν0 Ad0 Ad → k216 μ ν a z1 z14 z15 = some r0 → G p l e ({ frames := 11, cells := kc r0.1.1.2 - kc ν0, slots := ks r0.1.1.2 - ks ν0, locals := 229 } : Room) s m args below meth c D E (Aof (zS μ0 ν0 a0 Ad0) [] s.heap.size) 22 (MQ below (cQ D E sz (zS μ0 ν0 a0 Ad0) [] (pI (fun r u => r = r0.2 ∧ ∃ A1, u = (zS r0.1.1.1 r0.1.1.2 r0.1.2 A1, []) ∧ kp ν0 Ad0 A1))) args s (kc r0.1.1.2 - kc ν0) (ks r0.1.1.2 - ks ν0) (Aof (zS μ0 ν0 a0 Ad0) [] s.heap.size)) (zS μ ν a Ad) [] (kc ν - kc ν0) (ks ν - ks ν0) 216 [(0, .ref (Q 0)), (1, .int z1), (2, .ref (Q 1)), (8, .ref (Q 9)), (9, .ref (Q 10)), (10, .ref (Q 11)), (11, .ref (Q 12)), (12, .ref (Q 13)), (13, .ref (Q 14)), (14, .int z14), (15, .int z15)] []) (hmk287 : ∀ (μ : MP) (ν : NC) (a : AS) (z1 : Int32) (z14 : Int32) (z15 : Int32) (z16 : Int32) (z17 : Int32) (z18 : Int32) (z19 : Int32) (z20 : Int32), k287 μ ν a z1 z14 z15 z16 z17 z18 z19 z20 = some r0 → mn ν r0.1.1.2) (hk287 : ∀ (μ : MP) (ν : NC) (a : AS) (Ad : Nat → Nat → Nat) (z1 : Int32) (z14 : Int32) (z15 : Int32) (z16 : Int32) (z17 : Int32) (z18 : Int32) (z19 : Int32) (z20 : Int32), mn ν0 ν → kp ν0 Ad0 Ad → k287 μ ν a z1 z14 z15 z16 z17 z18 z19 z20 = some r0 → G p l e ({ frames := 11, cells := kc r0.1.1.2 - kc ν0, slots := ks r0.1.1.2 - ks ν0, locals := 229 } : Room) s m args below meth c D E (Aof (zS μ0 ν0 a0 Ad0) [] s.heap.size) 22 (MQ below (cQ D E sz (zS μ0 ν0 a0 Ad0) [] (pI (fun r u => r = r0.2 ∧ ∃ A1, u = (zS r0.1.1.1 r0.1.1.2 r0.1.2 A1, []) ∧ kp ν0 Ad0 A1))) args s (kc r0.1.1.2 - kc ν0) (ks r0.1.1.2 - ks ν0) (Aof (zS μ0 ν0 a0 Ad0) [] s.heap.size)) (zS μ ν a Ad) [] (kc ν - kc ν0) (ks ν - ks ν0) 287 [(0, .ref (Q 0)), (1, .int z1), (2, .ref (Q 1)), (8, .ref (Q 9)), (9, .ref (Q 10)), (10, .ref (Q 11)), (11, .ref (Q 12)), (12, .ref (Q 13)), (13, .ref (Q 14)), (14, .int z14), (15, .int z15), (16, .int z16), (17, .int z17), (18, .int z18), (19, .int z19), (20, .int z20)] []) (h : b_L_isTold_287 k216 k287 w μ ν a x1 x14 x15 x16 x17 x18 x19 x20  = some r0) : G p l e ({ frames := 11, cells := kc r0.1.1.2 - kc ν0, slots := ks r0.1.1.2 - ks ν0, locals := 229 } : Room) s m args below meth c D E (Aof (zS μ0 ν0 a0 Ad0) [] s.heap.size) 22 (MQ below (cQ D E sz (zS μ0 ν0 a0 Ad0) [] (pI (fun r u => r = r0.2 ∧ ∃ A1, u = (zS r0.1.1.1 r0.1.1.2 r0.1.2 A1, []) ∧ kp ν0 Ad0 A1))) args s (kc r0.1.1.2 - kc ν0) (ks r0.1.1.2 - ks ν0) (Aof (zS μ0 ν0 a0 Ad0) [] s.heap.size)) (zS μ ν a Ad) [] (kc ν - kc ν0) (ks ν - ks ν0) 287 [(0, .ref (Q 0)), (1, .int x1), (2, .ref (Q 1)), (8, .ref (Q 9)), (9, .ref (Q 10)), (10, .ref (Q 11)), (11, .ref (Q 12)), (12, .ref (Q 13)), (13, .ref (Q 14)), (14, .int x14), (15, .int x15), (16, .int x16), (17, .int x17), (18, .int x18), (19, .int x19), (20, .int x20)] [] := by
  have m0 := mb_L_isTold_287 hmk216 hmk287 h
  have e1 := m0.2.1; have e2 := m0.2.2.1; have e3 := hm0.2.1; have e4 := hm0.2.2.1
  have hI := lwI_mn hI0 hm0; have hQ := lwQ_kp hI0 hp0 hQ0
  unfold b_L_isTold_287 at h
  refine g_iload C dL_isTold_287 15 rfl ?_
  refine g_aload_n C dL_isTold_289 rfl 2 rfl ?_
  refine g_bipush (v := (19 : Int32)) C dL_isTold_290 (by decide) ?_
  obtain ⟨g48, h⟩ := of_guard h
  refine q_iald C (show rsh (ν.1, μ.2, ν.2, Ad) from hI.2) (j := 1) (N := 22) (by decide) (lwQ_i hQ (j := 1) (N := 22) (by decide)) g48 dL_isTold_292 ?_
  refine g_icmp_ge (tgt := 337) C dL_isTold_293 (by decide) (fun c293 => ?_) (fun c293 => ?_)
  · replace h := (if_pos c293).symm.trans h
    refine g_aload_n C dL_isTold_337 rfl 0 rfl ?_
    refine g_iload C dL_isTold_338 10 rfl ?_
    obtain ⟨v49, hv49, h⟩ := bind_of h
    have m2 := m_L_stateOf hv49
    have m3 := mb_L_isTold_343 hmk216 h
    have a1 := hm0.2.1; have a2 := hm0.2.2.1; have b1 := m2.2.1; have b2 := m2.2.2.1; have d1 := m3.2.1; have d2 := m3.2.2.1
    refine g_cSh (n := 2) (exr := []) C hEv hN ⟨hp0.2.1 0, hp0.2.2 0⟩ [_, _] _ rfl rfl [] rfl rfl (fun sz => wc_L_stateOf l hl B _ ν _ Ad Q hI hQ w _ _ hv49 D E sz) rfl gh_stateOf gw_0 gw_1292 gw_1293 ⟨by decide +kernel, by decide +kernel, by decide +kernel⟩ ⟨rfl, rfl⟩ ⟨Nat.le_of_ble_eq_true rfl, Nat.le_of_ble_eq_true rfl⟩ (Nat.le_of_ble_eq_true rfl) dL_isTold_340 ⟨by show (kc ν - kc ν0) + (kc v49.1.2 - kc ν) ≤ kc r0.1.1.2 - kc ν0; omega, by show (ks ν - ks ν0) + (ks v49.1.2 - ks ν) ≤ ks r0.1.1.2 - ks ν0; omega⟩ (fun r u hp hx => ?_)
    obtain ⟨er, A1, rfl, hkp⟩ := hp
    rw [er]
    try dsimp only [List.append_nil]
    refine g_widen (k := kc v49.1.2 - kc ν0) (n := ks v49.1.2 - ks ν0) (by omega) (by omega) ?_
    refine g_lv [0, 1, 2, 3, 4, 5, 6, 7, 8, 9, 10, 11, 12, 13, 14] rfl ?_
    exact lb_L_isTold_343 hl C hEv hN hr hz hI0 hQ0 (mn_trans hm0 m2) (kp_trans hp0 hm0 hkp) hmk216 hk216 h
  · replace h := (if_neg c293).symm.trans h
    refine g_aload C dL_isTold_296 7 rfl ?_
    refine g_iload C dL_isTold_298 15 rfl ?_
    obtain ⟨g75, h⟩ := of_guard h
    refine q_lald C (show rsh (ν.1, μ.2, ν.2, Ad) from hI.2) (j := 13) (N := 60) (by decide) (lwQ_l hQ (j := 13) (N := 60) (by decide)) g75 dL_isTold_300 ?_
    refine g_ldc2 (v := (15 : Int64)) C gw_999 dL_isTold_301 ?_
    refine g_land C dL_isTold_304 ?_
    refine g_iload C dL_isTold_305 10 rfl ?_
    refine g_i2l C dL_isTold_307 rfl ?_
    refine g_lcmp C dL_isTold_308 ?_
    refine g_if_ne (tgt := 331) C dL_isTold_309 (by decide) (fun c309 => ?_) (fun c309 => ?_)
    · replace h := (if_neg c309).symm.trans h
      refine g_lv [0, 1, 2, 3, 4, 5, 6, 7, 8, 9, 10, 11, 12, 13, 14, 15] rfl ?_
      exact lb_L_isTold_331 hl C hEv hN hr hz hI0 hQ0 hm0 hp0 hmk216 hk216 hmk287 hk287 h
    · replace h := (if_pos c309).symm.trans h
      refine g_iload C dL_isTold_312 14 rfl ?_
      refine g_iconst (v := (1 : Int32)) C dL_isTold_314 (by decide) ?_
      refine g_aload C dL_isTold_315 7 rfl ?_
      refine g_iload C dL_isTold_317 15 rfl ?_
      refine q_lald C (show rsh (ν.1, μ.2, ν.2, Ad) from hI.2) (j := 13) (N := 60) (by decide) (lwQ_l hQ (j := 13) (N := 60) (by decide)) g75 dL_isTold_319 ?_
      refine g_iconst (v := (4 : Int32)) C dL_isTold_320 (by decide) ?_
      refine g_lshr C dL_isTold_321 ?_
      refine g_ldc2 (v := (3 : Int64)) C gw_1291 dL_isTold_322 ?_
      refine g_land C dL_isTold_325 ?_
      refine g_l2i C dL_isTold_326 ?_
      refine g_ishl C dL_isTold_327 ?_
      refine g_ior C dL_isTold_328 ?_
      refine q_topi (fun t77 et77 => ?_)
      replace h := yl_of h et77
      refine g_istore (lv' := [(19, .int t77), (0, .ref (Q 0)), (1, .int x1), (2, .ref (Q 1)), (8, .ref (Q 9)), (9, .ref (Q 10)), (10, .ref (Q 11)), (11, .ref (Q 12)), (12, .ref (Q 13)), (13, .ref (Q 14)), (14, .int x14), (15, .int x15), (16, .int x16), (17, .int x17), (18, .int x18), (20, .int x20)]) C dL_isTold_329 (by decide) rfl ?_
      refine g_lv [1, 2, 3, 4, 5, 6, 7, 8, 9, 10, 11, 12, 13, 14, 0, 15] rfl ?_
      exact lb_L_isTold_331 hl C hEv hN hr hz hI0 hQ0 hm0 hp0 hmk216 hk216 hmk287 hk287 h
noncomputable def l_L_isTold_287 (k216 : MP → NC → AS → Int32 → Int32 → Int32 → Option (((MP × NC) × AS) × Int32)) (w : Nat) : Nat → MP → NC → AS → Int32 → Int32 → Int32 → Int32 → Int32 → Int32 → Int32 → Int32 → Option (((MP × NC) × AS) × Int32)
  | 0 => fun _ _ _ _ _ _ _ _ _ _ _ => none
  | n + 1 => fun μ ν a x1 x14 x15 x16 x17 x18 x19 x20 => b_L_isTold_287 k216 (l_L_isTold_287 k216 w n) w μ ν a x1 x14 x15 x16 x17 x18 x19 x20
theorem ml_L_isTold_287 {w : Nat} {r0 : ((MP × NC) × AS) × Int32} {k216 : MP → NC → AS → Int32 → Int32 → Int32 → Option (((MP × NC) × AS) × Int32)} (hmk216 : ∀ (μ : MP) (ν : NC) (a : AS) (z1 : Int32) (z14 : Int32) (z15 : Int32), k216 μ ν a z1 z14 z15 = some r0 → mn ν r0.1.1.2) : ∀ (n : Nat) (μ : MP) (ν : NC) (a : AS) (x1 : Int32) (x14 : Int32) (x15 : Int32) (x16 : Int32) (x17 : Int32) (x18 : Int32) (x19 : Int32) (x20 : Int32), l_L_isTold_287 k216 w n μ ν a x1 x14 x15 x16 x17 x18 x19 x20 = some r0 → mn ν r0.1.1.2 := by
  intro n
  induction n with
  | zero => exact fun μ ν a x1 x14 x15 x16 x17 x18 x19 x20 h => absurd (show (none : Option (((MP × NC) × AS) × Int32)) = some r0 from h) (by simp)
  | succ n ih => exact fun μ ν a x1 x14 x15 x16 x17 x18 x19 x20 h => mb_L_isTold_287 hmk216 ih h
theorem ll_L_isTold_287 {p : Program} {l : Launch} (hl : l.stackTraces = false) {e : Env} {s : State} {m : MethodId} {args : Array Value} {below : List Frame} {meth : Method} {c : Code} {D : va_G} {E : Nat → ClassId} {sz : Nat} {μ0 : MP} {ν0 : NC} {a0 : AS} {Ad0 : Nat → Nat → Nat} {Q : Nat → Nat} {B : Nat × (Nat → Nat)} {w : Nat} {r0 : ((MP × NC) × AS) × Int32} (C : cx p s m args meth c D E (Aof (zS μ0 ν0 a0 Ad0) [] s.heap.size) cL_isTold 22 "TradeLineLaw") (hEv : eV (Ad0 30 0) (Ad0 31 0) B (Aof (zS μ0 ν0 a0 Ad0) [] s.heap.size) s s.heap) (hN : vN s) (hr : meth.sig.returnType = (some .boolean)) (hz : s.heap.size = sz) (hI0 : lwI ν0) (hQ0 : lwQ Ad0 Q) {k216 : MP → NC → AS → Int32 → Int32 → Int32 → Option (((MP × NC) × AS) × Int32)} (hmk216 : ∀ (μ : MP) (ν : NC) (a : AS) (z1 : Int32) (z14 : Int32) (z15 : Int32), k216 μ ν a z1 z14 z15 = some r0 → mn ν r0.1.1.2) (hk216 : ∀ (μ : MP) (ν : NC) (a : AS) (Ad : Nat → Nat → Nat) (z1 : Int32) (z14 : Int32) (z15 : Int32), mn ν0 ν → kp ν0 Ad0 Ad → k216 μ ν a z1 z14 z15 = some r0 → G p l e ({ frames := 11, cells := kc r0.1.1.2 - kc ν0, slots := ks r0.1.1.2 - ks ν0, locals := 229 } : Room) s m args below meth c D E (Aof (zS μ0 ν0 a0 Ad0) [] s.heap.size) 22 (MQ below (cQ D E sz (zS μ0 ν0 a0 Ad0) [] (pI (fun r u => r = r0.2 ∧ ∃ A1, u = (zS r0.1.1.1 r0.1.1.2 r0.1.2 A1, []) ∧ kp ν0 Ad0 A1))) args s (kc r0.1.1.2 - kc ν0) (ks r0.1.1.2 - ks ν0) (Aof (zS μ0 ν0 a0 Ad0) [] s.heap.size)) (zS μ ν a Ad) [] (kc ν - kc ν0) (ks ν - ks ν0) 216 [(0, .ref (Q 0)), (1, .int z1), (2, .ref (Q 1)), (8, .ref (Q 9)), (9, .ref (Q 10)), (10, .ref (Q 11)), (11, .ref (Q 12)), (12, .ref (Q 13)), (13, .ref (Q 14)), (14, .int z14), (15, .int z15)] []) : ∀ (n : Nat) (μ : MP) (ν : NC) (a : AS) (Ad : Nat → Nat → Nat) (x1 : Int32) (x14 : Int32) (x15 : Int32) (x16 : Int32) (x17 : Int32) (x18 : Int32) (x19 : Int32) (x20 : Int32), mn ν0 ν → kp ν0 Ad0 Ad → l_L_isTold_287 k216 w n μ ν a x1 x14 x15 x16 x17 x18 x19 x20 = some r0 → G p l e ({ frames := 11, cells := kc r0.1.1.2 - kc ν0, slots := ks r0.1.1.2 - ks ν0, locals := 229 } : Room) s m args below meth c D E (Aof (zS μ0 ν0 a0 Ad0) [] s.heap.size) 22 (MQ below (cQ D E sz (zS μ0 ν0 a0 Ad0) [] (pI (fun r u => r = r0.2 ∧ ∃ A1, u = (zS r0.1.1.1 r0.1.1.2 r0.1.2 A1, []) ∧ kp ν0 Ad0 A1))) args s (kc r0.1.1.2 - kc ν0) (ks r0.1.1.2 - ks ν0) (Aof (zS μ0 ν0 a0 Ad0) [] s.heap.size)) (zS μ ν a Ad) [] (kc ν - kc ν0) (ks ν - ks ν0) 287 [(0, .ref (Q 0)), (1, .int x1), (2, .ref (Q 1)), (8, .ref (Q 9)), (9, .ref (Q 10)), (10, .ref (Q 11)), (11, .ref (Q 12)), (12, .ref (Q 13)), (13, .ref (Q 14)), (14, .int x14), (15, .int x15), (16, .int x16), (17, .int x17), (18, .int x18), (19, .int x19), (20, .int x20)] [] := by
  intro n
  induction n with
  | zero => exact fun μ ν a Ad x1 x14 x15 x16 x17 x18 x19 x20 hm0 hp0 h => absurd (show (none : Option (((MP × NC) × AS) × Int32)) = some r0 from h) (by simp)
  | succ n ih => exact fun μ ν a Ad x1 x14 x15 x16 x17 x18 x19 x20 hm0 hp0 h => lb_L_isTold_287 (w := w) hl C hEv hN hr hz hI0 hQ0 hm0 hp0 hmk216 hk216 (fun μ ν a x1 x14 x15 x16 x17 x18 x19 x20 h => ml_L_isTold_287 hmk216 n μ ν a x1 x14 x15 x16 x17 x18 x19 x20 h) ih h
noncomputable def b_L_isTold_279 (k216 : MP → NC → AS → Int32 → Int32 → Int32 → Option (((MP × NC) × AS) × Int32)) (w : Nat) (μ : MP) (ν : NC) (a : AS) (x1 : Int32) (x14 : Int32) (x15 : Int32) (x16 : Int32) (x17 : Int32) (s0 : Int32) : Option (((MP × NC) × AS) × Int32) := l_L_isTold_287 k216 w w μ ν a x1 x14 x15 x16 x17 s0 (0 : Int32) (0 : Int32)
theorem mb_L_isTold_279 {w : Nat} {μ : MP} {ν : NC} {a : AS} {x1 : Int32} {x14 : Int32} {x15 : Int32} {x16 : Int32} {x17 : Int32} {s0 : Int32} {r0 : ((MP × NC) × AS) × Int32} {k216 : MP → NC → AS → Int32 → Int32 → Int32 → Option (((MP × NC) × AS) × Int32)} (hmk216 : ∀ (μ : MP) (ν : NC) (a : AS) (z1 : Int32) (z14 : Int32) (z15 : Int32), k216 μ ν a z1 z14 z15 = some r0 → mn ν r0.1.1.2) (h : b_L_isTold_279 k216 w μ ν a x1 x14 x15 x16 x17 s0 = some r0) : mn ν r0.1.1.2 := by
  unfold b_L_isTold_279 at h
  exact ml_L_isTold_287 hmk216 _ _ _ _ _ _ _ _ _ _ _ _ h
set_option maxHeartbeats 4000000 in
set_option maxRecDepth 100000 in
theorem lb_L_isTold_279 {p : Program} {l : Launch} (hl : l.stackTraces = false) {e : Env} {s : State} {m : MethodId} {args : Array Value} {below : List Frame} {meth : Method} {c : Code} {D : va_G} {E : Nat → ClassId} {sz : Nat} {μ0 : MP} {ν0 : NC} {a0 : AS} {Ad0 : Nat → Nat → Nat} {Q : Nat → Nat} {B : Nat × (Nat → Nat)} {w : Nat} {r0 : ((MP × NC) × AS) × Int32} (C : cx p s m args meth c D E (Aof (zS μ0 ν0 a0 Ad0) [] s.heap.size) cL_isTold 22 "TradeLineLaw") (hEv : eV (Ad0 30 0) (Ad0 31 0) B (Aof (zS μ0 ν0 a0 Ad0) [] s.heap.size) s s.heap) (hN : vN s) (hr : meth.sig.returnType = (some .boolean)) (hz : s.heap.size = sz) (hI0 : lwI ν0) (hQ0 : lwQ Ad0 Q) {μ : MP} {ν : NC} {a : AS} {Ad : Nat → Nat → Nat} (hm0 : mn ν0 ν) (hp0 : kp ν0 Ad0 Ad) {x1 : Int32} {x14 : Int32} {x15 : Int32} {x16 : Int32} {x17 : Int32} {s0 : Int32} {k216 : MP → NC → AS → Int32 → Int32 → Int32 → Option (((MP × NC) × AS) × Int32)} (hmk216 : ∀ (μ : MP) (ν : NC) (a : AS) (z1 : Int32) (z14 : Int32) (z15 : Int32), k216 μ ν a z1 z14 z15 = some r0 → mn ν r0.1.1.2) (hk216 : ∀ (μ : MP) (ν : NC) (a : AS) (Ad : Nat → Nat → Nat) (z1 : Int32) (z14 : Int32) (z15 : Int32), mn ν0 ν → kp ν0 Ad0 Ad → k216 μ ν a z1 z14 z15 = some r0 → G p l e ({ frames := 11, cells := kc r0.1.1.2 - kc ν0, slots := ks r0.1.1.2 - ks ν0, locals := 229 } : Room) s m args below meth c D E (Aof (zS μ0 ν0 a0 Ad0) [] s.heap.size) 22 (MQ below (cQ D E sz (zS μ0 ν0 a0 Ad0) [] (pI (fun r u => r = r0.2 ∧ ∃ A1, u = (zS r0.1.1.1 r0.1.1.2 r0.1.2 A1, []) ∧ kp ν0 Ad0 A1))) args s (kc r0.1.1.2 - kc ν0) (ks r0.1.1.2 - ks ν0) (Aof (zS μ0 ν0 a0 Ad0) [] s.heap.size)) (zS μ ν a Ad) [] (kc ν - kc ν0) (ks ν - ks ν0) 216 [(0, .ref (Q 0)), (1, .int z1), (2, .ref (Q 1)), (8, .ref (Q 9)), (9, .ref (Q 10)), (10, .ref (Q 11)), (11, .ref (Q 12)), (12, .ref (Q 13)), (13, .ref (Q 14)), (14, .int z14), (15, .int z15)] []) (h : b_L_isTold_279 k216 w μ ν a x1 x14 x15 x16 x17 s0 = some r0) : G p l e ({ frames := 11, cells := kc r0.1.1.2 - kc ν0, slots := ks r0.1.1.2 - ks ν0, locals := 229 } : Room) s m args below meth c D E (Aof (zS μ0 ν0 a0 Ad0) [] s.heap.size) 22 (MQ below (cQ D E sz (zS μ0 ν0 a0 Ad0) [] (pI (fun r u => r = r0.2 ∧ ∃ A1, u = (zS r0.1.1.1 r0.1.1.2 r0.1.2 A1, []) ∧ kp ν0 Ad0 A1))) args s (kc r0.1.1.2 - kc ν0) (ks r0.1.1.2 - ks ν0) (Aof (zS μ0 ν0 a0 Ad0) [] s.heap.size)) (zS μ ν a Ad) [] (kc ν - kc ν0) (ks ν - ks ν0) 279 [(0, .ref (Q 0)), (1, .int x1), (2, .ref (Q 1)), (8, .ref (Q 9)), (9, .ref (Q 10)), (10, .ref (Q 11)), (11, .ref (Q 12)), (12, .ref (Q 13)), (13, .ref (Q 14)), (14, .int x14), (15, .int x15), (16, .int x16), (17, .int x17)] [.int s0] := by
  have m0 := mb_L_isTold_279 hmk216 h
  have e1 := m0.2.1; have e2 := m0.2.2.1; have e3 := hm0.2.1; have e4 := hm0.2.2.1
  have hI := lwI_mn hI0 hm0; have hQ := lwQ_kp hI0 hp0 hQ0
  unfold b_L_isTold_279 at h
  refine g_istore (lv' := [(18, .int s0), (0, .ref (Q 0)), (1, .int x1), (2, .ref (Q 1)), (8, .ref (Q 9)), (9, .ref (Q 10)), (10, .ref (Q 11)), (11, .ref (Q 12)), (12, .ref (Q 13)), (13, .ref (Q 14)), (14, .int x14), (15, .int x15), (16, .int x16), (17, .int x17)]) C dL_isTold_279 (by decide) rfl ?_
  refine g_iconst (v := (0 : Int32)) C dL_isTold_281 (by decide) ?_
  refine g_istore (lv' := [(19, .int (0 : Int32)), (18, .int s0), (0, .ref (Q 0)), (1, .int x1), (2, .ref (Q 1)), (8, .ref (Q 9)), (9, .ref (Q 10)), (10, .ref (Q 11)), (11, .ref (Q 12)), (12, .ref (Q 13)), (13, .ref (Q 14)), (14, .int x14), (15, .int x15), (16, .int x16), (17, .int x17)]) C dL_isTold_282 (by decide) rfl ?_
  refine g_iconst (v := (0 : Int32)) C dL_isTold_284 (by decide) ?_
  refine g_istore (lv' := [(20, .int (0 : Int32)), (19, .int (0 : Int32)), (18, .int s0), (0, .ref (Q 0)), (1, .int x1), (2, .ref (Q 1)), (8, .ref (Q 9)), (9, .ref (Q 10)), (10, .ref (Q 11)), (11, .ref (Q 12)), (12, .ref (Q 13)), (13, .ref (Q 14)), (14, .int x14), (15, .int x15), (16, .int x16), (17, .int x17)]) C dL_isTold_285 (by decide) rfl ?_
  refine g_lv [3, 4, 5, 6, 7, 8, 9, 10, 11, 12, 13, 14, 15, 2, 1, 0] rfl ?_
  exact ll_L_isTold_287 hl C hEv hN hr hz hI0 hQ0 hmk216 hk216 w _ _ _ _ _ _ _ _ _ _ _ _ hm0 hp0 h
noncomputable def b_L_isTold_257 (k216 : MP → NC → AS → Int32 → Int32 → Int32 → Option (((MP × NC) × AS) × Int32)) (w : Nat) (μ : MP) (ν : NC) (a : AS) (x1 : Int32) (x14 : Int32) (x15 : Int32) (x16 : Int32) (s0 : Int32) : Option (((MP × NC) × AS) × Int32) := (if s0 = (0 : Int32) then ((f_L_rest w a x15).bind (fun v47 => b_L_isTold_279 k216 w μ ν a x1 x14 x15 x16 s0 v47)) else (b_L_isTold_279 k216 w μ ν a x1 x14 x15 x16 s0 (0 : Int32)))
theorem mb_L_isTold_257 {w : Nat} {μ : MP} {ν : NC} {a : AS} {x1 : Int32} {x14 : Int32} {x15 : Int32} {x16 : Int32} {s0 : Int32} {r0 : ((MP × NC) × AS) × Int32} {k216 : MP → NC → AS → Int32 → Int32 → Int32 → Option (((MP × NC) × AS) × Int32)} (hmk216 : ∀ (μ : MP) (ν : NC) (a : AS) (z1 : Int32) (z14 : Int32) (z15 : Int32), k216 μ ν a z1 z14 z15 = some r0 → mn ν r0.1.1.2) (h : b_L_isTold_257 k216 w μ ν a x1 x14 x15 x16 s0 = some r0) : mn ν r0.1.1.2 := by
  unfold b_L_isTold_257 at h
  by_cases c261 : s0 = (0 : Int32)
  · replace h := (if_pos c261).symm.trans h
    obtain ⟨v47, hv47, h⟩ := bind_of h
    exact mb_L_isTold_279 hmk216 h
  · replace h := (if_neg c261).symm.trans h
    exact mb_L_isTold_279 hmk216 h
set_option maxHeartbeats 4000000 in
set_option maxRecDepth 100000 in
theorem lb_L_isTold_257 {p : Program} {l : Launch} (hl : l.stackTraces = false) {e : Env} {s : State} {m : MethodId} {args : Array Value} {below : List Frame} {meth : Method} {c : Code} {D : va_G} {E : Nat → ClassId} {sz : Nat} {μ0 : MP} {ν0 : NC} {a0 : AS} {Ad0 : Nat → Nat → Nat} {Q : Nat → Nat} {B : Nat × (Nat → Nat)} {w : Nat} {r0 : ((MP × NC) × AS) × Int32} (C : cx p s m args meth c D E (Aof (zS μ0 ν0 a0 Ad0) [] s.heap.size) cL_isTold 22 "TradeLineLaw") (hEv : eV (Ad0 30 0) (Ad0 31 0) B (Aof (zS μ0 ν0 a0 Ad0) [] s.heap.size) s s.heap) (hN : vN s) (hr : meth.sig.returnType = (some .boolean)) (hz : s.heap.size = sz) (hI0 : lwI ν0) (hQ0 : lwQ Ad0 Q) {μ : MP} {ν : NC} {a : AS} {Ad : Nat → Nat → Nat} (hm0 : mn ν0 ν) (hp0 : kp ν0 Ad0 Ad) {x1 : Int32} {x14 : Int32} {x15 : Int32} {x16 : Int32} {s0 : Int32} {k216 : MP → NC → AS → Int32 → Int32 → Int32 → Option (((MP × NC) × AS) × Int32)} (hmk216 : ∀ (μ : MP) (ν : NC) (a : AS) (z1 : Int32) (z14 : Int32) (z15 : Int32), k216 μ ν a z1 z14 z15 = some r0 → mn ν r0.1.1.2) (hk216 : ∀ (μ : MP) (ν : NC) (a : AS) (Ad : Nat → Nat → Nat) (z1 : Int32) (z14 : Int32) (z15 : Int32), mn ν0 ν → kp ν0 Ad0 Ad → k216 μ ν a z1 z14 z15 = some r0 → G p l e ({ frames := 11, cells := kc r0.1.1.2 - kc ν0, slots := ks r0.1.1.2 - ks ν0, locals := 229 } : Room) s m args below meth c D E (Aof (zS μ0 ν0 a0 Ad0) [] s.heap.size) 22 (MQ below (cQ D E sz (zS μ0 ν0 a0 Ad0) [] (pI (fun r u => r = r0.2 ∧ ∃ A1, u = (zS r0.1.1.1 r0.1.1.2 r0.1.2 A1, []) ∧ kp ν0 Ad0 A1))) args s (kc r0.1.1.2 - kc ν0) (ks r0.1.1.2 - ks ν0) (Aof (zS μ0 ν0 a0 Ad0) [] s.heap.size)) (zS μ ν a Ad) [] (kc ν - kc ν0) (ks ν - ks ν0) 216 [(0, .ref (Q 0)), (1, .int z1), (2, .ref (Q 1)), (8, .ref (Q 9)), (9, .ref (Q 10)), (10, .ref (Q 11)), (11, .ref (Q 12)), (12, .ref (Q 13)), (13, .ref (Q 14)), (14, .int z14), (15, .int z15)] []) (h : b_L_isTold_257 k216 w μ ν a x1 x14 x15 x16 s0 = some r0) : G p l e ({ frames := 11, cells := kc r0.1.1.2 - kc ν0, slots := ks r0.1.1.2 - ks ν0, locals := 229 } : Room) s m args below meth c D E (Aof (zS μ0 ν0 a0 Ad0) [] s.heap.size) 22 (MQ below (cQ D E sz (zS μ0 ν0 a0 Ad0) [] (pI (fun r u => r = r0.2 ∧ ∃ A1, u = (zS r0.1.1.1 r0.1.1.2 r0.1.2 A1, []) ∧ kp ν0 Ad0 A1))) args s (kc r0.1.1.2 - kc ν0) (ks r0.1.1.2 - ks ν0) (Aof (zS μ0 ν0 a0 Ad0) [] s.heap.size)) (zS μ ν a Ad) [] (kc ν - kc ν0) (ks ν - ks ν0) 257 [(0, .ref (Q 0)), (1, .int x1), (2, .ref (Q 1)), (8, .ref (Q 9)), (9, .ref (Q 10)), (10, .ref (Q 11)), (11, .ref (Q 12)), (12, .ref (Q 13)), (13, .ref (Q 14)), (14, .int x14), (15, .int x15), (16, .int x16)] [.int s0] := by
  have m0 := mb_L_isTold_257 hmk216 h
  have e1 := m0.2.1; have e2 := m0.2.2.1; have e3 := hm0.2.1; have e4 := hm0.2.2.1
  have hI := lwI_mn hI0 hm0; have hQ := lwQ_kp hI0 hp0 hQ0
  unfold b_L_isTold_257 at h
  refine g_istore (lv' := [(17, .int s0), (0, .ref (Q 0)), (1, .int x1), (2, .ref (Q 1)), (8, .ref (Q 9)), (9, .ref (Q 10)), (10, .ref (Q 11)), (11, .ref (Q 12)), (12, .ref (Q 13)), (13, .ref (Q 14)), (14, .int x14), (15, .int x15), (16, .int x16)]) C dL_isTold_257 (by decide) rfl ?_
  refine g_iload C dL_isTold_259 0 rfl ?_
  refine g_if_eq (tgt := 268) C dL_isTold_261 (by decide) (fun c261 => ?_) (fun c261 => ?_)
  · replace h := (if_pos c261).symm.trans h
    refine g_aload C dL_isTold_268 4 rfl ?_
    refine g_aload C dL_isTold_270 5 rfl ?_
    refine g_aload C dL_isTold_272 6 rfl ?_
    refine g_iload C dL_isTold_274 11 rfl ?_
    obtain ⟨v47, hv47, h⟩ := bind_of h
    refine g_cSi (n := 4) (exc := []) (exr := []) C [_, _, _, _] _ rfl rfl [] [] rfl rfl rfl rfl (fun _ h => absurd h (by simp)) (fun _ h => absurd h (by simp)) (fun _ h => absurd h (by simp)) (fun sz => wk_L_rest l _ ν _ Ad Q hI hQ w _  _ hv47 D E sz) rfl gw_1035 gw_0 gw_1033 gw_1034 ⟨by decide +kernel, by decide +kernel, by decide +kernel⟩ ⟨rfl, rfl⟩ ⟨Nat.le_of_ble_eq_true rfl, Nat.le_of_ble_eq_true rfl⟩ (Nat.le_of_ble_eq_true rfl) dL_isTold_276 ⟨by show (kc ν - kc ν0) + 0 ≤ kc r0.1.1.2 - kc ν0; omega, by show (ks ν - ks ν0) + 0 ≤ ks r0.1.1.2 - ks ν0; omega⟩ (fun r u hp hx => ?_)
    obtain ⟨er, rfl⟩ := hp
    rw [er]
    try dsimp only [List.append_nil]
    refine g_lv [1, 2, 3, 4, 5, 6, 7, 8, 9, 10, 11, 12, 0] rfl ?_
    exact lb_L_isTold_279 hl C hEv hN hr hz hI0 hQ0 hm0 hp0 hmk216 hk216 h
  · replace h := (if_neg c261).symm.trans h
    refine g_iconst (v := (0 : Int32)) C dL_isTold_264 (by decide) ?_
    refine g_goto (tgt := 279) C dL_isTold_265 (by decide) ?_
    refine g_lv [1, 2, 3, 4, 5, 6, 7, 8, 9, 10, 11, 12, 0] rfl ?_
    exact lb_L_isTold_279 hl C hEv hN hr hz hI0 hQ0 hm0 hp0 hmk216 hk216 h
noncomputable def b_L_isTold_240 (k216 : MP → NC → AS → Int32 → Int32 → Int32 → Option (((MP × NC) × AS) × Int32)) (w : Nat) (μ : MP) (ν : NC) (a : AS) (x1 : Int32) (x14 : Int32) (x15 : Int32) (s0 : Int32) : Option (((MP × NC) × AS) × Int32) := bif ixB x15 10 then (if ((a 12 x15.toNatClampNeg) &&& (2 : Int32)) = (0 : Int32) then (b_L_isTold_257 k216 w μ ν a x1 x14 x15 s0 (1 : Int32)) else (b_L_isTold_257 k216 w μ ν a x1 x14 x15 s0 (0 : Int32))) else none
theorem mb_L_isTold_240 {w : Nat} {μ : MP} {ν : NC} {a : AS} {x1 : Int32} {x14 : Int32} {x15 : Int32} {s0 : Int32} {r0 : ((MP × NC) × AS) × Int32} {k216 : MP → NC → AS → Int32 → Int32 → Int32 → Option (((MP × NC) × AS) × Int32)} (hmk216 : ∀ (μ : MP) (ν : NC) (a : AS) (z1 : Int32) (z14 : Int32) (z15 : Int32), k216 μ ν a z1 z14 z15 = some r0 → mn ν r0.1.1.2) (h : b_L_isTold_240 k216 w μ ν a x1 x14 x15 s0 = some r0) : mn ν r0.1.1.2 := by
  unfold b_L_isTold_240 at h
  replace h := (of_guard h).2
  by_cases c249 : ((a 12 x15.toNatClampNeg) &&& (2 : Int32)) = (0 : Int32)
  · replace h := (if_pos c249).symm.trans h
    exact mb_L_isTold_257 hmk216 h
  · replace h := (if_neg c249).symm.trans h
    exact mb_L_isTold_257 hmk216 h
set_option maxHeartbeats 4000000 in
set_option maxRecDepth 100000 in
theorem lb_L_isTold_240 {p : Program} {l : Launch} (hl : l.stackTraces = false) {e : Env} {s : State} {m : MethodId} {args : Array Value} {below : List Frame} {meth : Method} {c : Code} {D : va_G} {E : Nat → ClassId} {sz : Nat} {μ0 : MP} {ν0 : NC} {a0 : AS} {Ad0 : Nat → Nat → Nat} {Q : Nat → Nat} {B : Nat × (Nat → Nat)} {w : Nat} {r0 : ((MP × NC) × AS) × Int32} (C : cx p s m args meth c D E (Aof (zS μ0 ν0 a0 Ad0) [] s.heap.size) cL_isTold 22 "TradeLineLaw") (hEv : eV (Ad0 30 0) (Ad0 31 0) B (Aof (zS μ0 ν0 a0 Ad0) [] s.heap.size) s s.heap) (hN : vN s) (hr : meth.sig.returnType = (some .boolean)) (hz : s.heap.size = sz) (hI0 : lwI ν0) (hQ0 : lwQ Ad0 Q) {μ : MP} {ν : NC} {a : AS} {Ad : Nat → Nat → Nat} (hm0 : mn ν0 ν) (hp0 : kp ν0 Ad0 Ad) {x1 : Int32} {x14 : Int32} {x15 : Int32} {s0 : Int32} {k216 : MP → NC → AS → Int32 → Int32 → Int32 → Option (((MP × NC) × AS) × Int32)} (hmk216 : ∀ (μ : MP) (ν : NC) (a : AS) (z1 : Int32) (z14 : Int32) (z15 : Int32), k216 μ ν a z1 z14 z15 = some r0 → mn ν r0.1.1.2) (hk216 : ∀ (μ : MP) (ν : NC) (a : AS) (Ad : Nat → Nat → Nat) (z1 : Int32) (z14 : Int32) (z15 : Int32), mn ν0 ν → kp ν0 Ad0 Ad → k216 μ ν a z1 z14 z15 = some r0 → G p l e ({ frames := 11, cells := kc r0.1.1.2 - kc ν0, slots := ks r0.1.1.2 - ks ν0, locals := 229 } : Room) s m args below meth c D E (Aof (zS μ0 ν0 a0 Ad0) [] s.heap.size) 22 (MQ below (cQ D E sz (zS μ0 ν0 a0 Ad0) [] (pI (fun r u => r = r0.2 ∧ ∃ A1, u = (zS r0.1.1.1 r0.1.1.2 r0.1.2 A1, []) ∧ kp ν0 Ad0 A1))) args s (kc r0.1.1.2 - kc ν0) (ks r0.1.1.2 - ks ν0) (Aof (zS μ0 ν0 a0 Ad0) [] s.heap.size)) (zS μ ν a Ad) [] (kc ν - kc ν0) (ks ν - ks ν0) 216 [(0, .ref (Q 0)), (1, .int z1), (2, .ref (Q 1)), (8, .ref (Q 9)), (9, .ref (Q 10)), (10, .ref (Q 11)), (11, .ref (Q 12)), (12, .ref (Q 13)), (13, .ref (Q 14)), (14, .int z14), (15, .int z15)] []) (h : b_L_isTold_240 k216 w μ ν a x1 x14 x15 s0 = some r0) : G p l e ({ frames := 11, cells := kc r0.1.1.2 - kc ν0, slots := ks r0.1.1.2 - ks ν0, locals := 229 } : Room) s m args below meth c D E (Aof (zS μ0 ν0 a0 Ad0) [] s.heap.size) 22 (MQ below (cQ D E sz (zS μ0 ν0 a0 Ad0) [] (pI (fun r u => r = r0.2 ∧ ∃ A1, u = (zS r0.1.1.1 r0.1.1.2 r0.1.2 A1, []) ∧ kp ν0 Ad0 A1))) args s (kc r0.1.1.2 - kc ν0) (ks r0.1.1.2 - ks ν0) (Aof (zS μ0 ν0 a0 Ad0) [] s.heap.size)) (zS μ ν a Ad) [] (kc ν - kc ν0) (ks ν - ks ν0) 240 [(0, .ref (Q 0)), (1, .int x1), (2, .ref (Q 1)), (8, .ref (Q 9)), (9, .ref (Q 10)), (10, .ref (Q 11)), (11, .ref (Q 12)), (12, .ref (Q 13)), (13, .ref (Q 14)), (14, .int x14), (15, .int x15)] [.int s0] := by
  have m0 := mb_L_isTold_240 hmk216 h
  have e1 := m0.2.1; have e2 := m0.2.2.1; have e3 := hm0.2.1; have e4 := hm0.2.2.1
  have hI := lwI_mn hI0 hm0; have hQ := lwQ_kp hI0 hp0 hQ0
  unfold b_L_isTold_240 at h
  refine g_istore (lv' := [(16, .int s0), (0, .ref (Q 0)), (1, .int x1), (2, .ref (Q 1)), (8, .ref (Q 9)), (9, .ref (Q 10)), (10, .ref (Q 11)), (11, .ref (Q 12)), (12, .ref (Q 13)), (13, .ref (Q 14)), (14, .int x14), (15, .int x15)]) C dL_isTold_240 (by decide) rfl ?_
  refine g_aload C dL_isTold_242 7 rfl ?_
  refine g_iload C dL_isTold_244 11 rfl ?_
  obtain ⟨g46, h⟩ := of_guard h
  refine q_iald C (show rsh (ν.1, μ.2, ν.2, Ad) from hI.2) (j := 12) (N := 10) (by decide) (lwQ_i hQ (j := 12) (N := 10) (by decide)) g46 dL_isTold_246 ?_
  refine g_iconst (v := (2 : Int32)) C dL_isTold_247 (by decide) ?_
  refine g_iand C dL_isTold_248 ?_
  refine g_if_ne (tgt := 256) C dL_isTold_249 (by decide) (fun c249 => ?_) (fun c249 => ?_)
  · replace h := (if_neg c249).symm.trans h
    refine g_iconst (v := (0 : Int32)) C dL_isTold_256 (by decide) ?_
    refine g_lv [1, 2, 3, 4, 5, 6, 7, 8, 9, 10, 11, 0] rfl ?_
    exact lb_L_isTold_257 hl C hEv hN hr hz hI0 hQ0 hm0 hp0 hmk216 hk216 h
  · replace h := (if_pos c249).symm.trans h
    refine g_iconst (v := (1 : Int32)) C dL_isTold_252 (by decide) ?_
    refine g_goto (tgt := 257) C dL_isTold_253 (by decide) ?_
    refine g_lv [1, 2, 3, 4, 5, 6, 7, 8, 9, 10, 11, 0] rfl ?_
    exact lb_L_isTold_257 hl C hEv hN hr hz hI0 hQ0 hm0 hp0 hmk216 hk216 h
noncomputable def b_L_isTold_216 (k216 : MP → NC → AS → Int32 → Int32 → Int32 → Option (((MP × NC) × AS) × Int32)) (w : Nat) (μ : MP) (ν : NC) (a : AS) (x1 : Int32) (x14 : Int32) (x15 : Int32)  : Option (((MP × NC) × AS) × Int32) := bif ixB (18 : Int32) 22 then (if (a 1 (18 : Int32).toNatClampNeg) ≤ x15 then (l_L_isTold_693  w w μ ν a x1 x14 (0 : Int32)) else (bif ixB x15 10 then (if ((a 12 x15.toNatClampNeg) &&& (4 : Int32)) ≤ (0 : Int32) then (b_L_isTold_240 k216 w μ ν a x1 x14 x15 (0 : Int32)) else (b_L_isTold_240 k216 w μ ν a x1 x14 x15 (1 : Int32))) else none)) else none
theorem mb_L_isTold_216 {w : Nat} {μ : MP} {ν : NC} {a : AS} {x1 : Int32} {x14 : Int32} {x15 : Int32}  {r0 : ((MP × NC) × AS) × Int32} {k216 : MP → NC → AS → Int32 → Int32 → Int32 → Option (((MP × NC) × AS) × Int32)} (hmk216 : ∀ (μ : MP) (ν : NC) (a : AS) (z1 : Int32) (z14 : Int32) (z15 : Int32), k216 μ ν a z1 z14 z15 = some r0 → mn ν r0.1.1.2) (h : b_L_isTold_216 k216 w μ ν a x1 x14 x15  = some r0) : mn ν r0.1.1.2 := by
  unfold b_L_isTold_216 at h
  replace h := (of_guard h).2
  by_cases c222 : (a 1 (18 : Int32).toNatClampNeg) ≤ x15
  · replace h := (if_pos c222).symm.trans h
    exact ml_L_isTold_693  _ _ _ _ _ _ _ h
  · replace h := (if_neg c222).symm.trans h
    replace h := (of_guard h).2
    by_cases c232 : ((a 12 x15.toNatClampNeg) &&& (4 : Int32)) ≤ (0 : Int32)
    · replace h := (if_pos c232).symm.trans h
      exact mb_L_isTold_240 hmk216 h
    · replace h := (if_neg c232).symm.trans h
      exact mb_L_isTold_240 hmk216 h
set_option maxHeartbeats 4000000 in
set_option maxRecDepth 100000 in
theorem lb_L_isTold_216 {p : Program} {l : Launch} (hl : l.stackTraces = false) {e : Env} {s : State} {m : MethodId} {args : Array Value} {below : List Frame} {meth : Method} {c : Code} {D : va_G} {E : Nat → ClassId} {sz : Nat} {μ0 : MP} {ν0 : NC} {a0 : AS} {Ad0 : Nat → Nat → Nat} {Q : Nat → Nat} {B : Nat × (Nat → Nat)} {w : Nat} {r0 : ((MP × NC) × AS) × Int32} (C : cx p s m args meth c D E (Aof (zS μ0 ν0 a0 Ad0) [] s.heap.size) cL_isTold 22 "TradeLineLaw") (hEv : eV (Ad0 30 0) (Ad0 31 0) B (Aof (zS μ0 ν0 a0 Ad0) [] s.heap.size) s s.heap) (hN : vN s) (hr : meth.sig.returnType = (some .boolean)) (hz : s.heap.size = sz) (hI0 : lwI ν0) (hQ0 : lwQ Ad0 Q) {μ : MP} {ν : NC} {a : AS} {Ad : Nat → Nat → Nat} (hm0 : mn ν0 ν) (hp0 : kp ν0 Ad0 Ad) {x1 : Int32} {x14 : Int32} {x15 : Int32}  {k216 : MP → NC → AS → Int32 → Int32 → Int32 → Option (((MP × NC) × AS) × Int32)} (hmk216 : ∀ (μ : MP) (ν : NC) (a : AS) (z1 : Int32) (z14 : Int32) (z15 : Int32), k216 μ ν a z1 z14 z15 = some r0 → mn ν r0.1.1.2) (hk216 : ∀ (μ : MP) (ν : NC) (a : AS) (Ad : Nat → Nat → Nat) (z1 : Int32) (z14 : Int32) (z15 : Int32), mn ν0 ν → kp ν0 Ad0 Ad → k216 μ ν a z1 z14 z15 = some r0 → G p l e ({ frames := 11, cells := kc r0.1.1.2 - kc ν0, slots := ks r0.1.1.2 - ks ν0, locals := 229 } : Room) s m args below meth c D E (Aof (zS μ0 ν0 a0 Ad0) [] s.heap.size) 22 (MQ below (cQ D E sz (zS μ0 ν0 a0 Ad0) [] (pI (fun r u => r = r0.2 ∧ ∃ A1, u = (zS r0.1.1.1 r0.1.1.2 r0.1.2 A1, []) ∧ kp ν0 Ad0 A1))) args s (kc r0.1.1.2 - kc ν0) (ks r0.1.1.2 - ks ν0) (Aof (zS μ0 ν0 a0 Ad0) [] s.heap.size)) (zS μ ν a Ad) [] (kc ν - kc ν0) (ks ν - ks ν0) 216 [(0, .ref (Q 0)), (1, .int z1), (2, .ref (Q 1)), (8, .ref (Q 9)), (9, .ref (Q 10)), (10, .ref (Q 11)), (11, .ref (Q 12)), (12, .ref (Q 13)), (13, .ref (Q 14)), (14, .int z14), (15, .int z15)] []) (h : b_L_isTold_216 k216 w μ ν a x1 x14 x15  = some r0) : G p l e ({ frames := 11, cells := kc r0.1.1.2 - kc ν0, slots := ks r0.1.1.2 - ks ν0, locals := 229 } : Room) s m args below meth c D E (Aof (zS μ0 ν0 a0 Ad0) [] s.heap.size) 22 (MQ below (cQ D E sz (zS μ0 ν0 a0 Ad0) [] (pI (fun r u => r = r0.2 ∧ ∃ A1, u = (zS r0.1.1.1 r0.1.1.2 r0.1.2 A1, []) ∧ kp ν0 Ad0 A1))) args s (kc r0.1.1.2 - kc ν0) (ks r0.1.1.2 - ks ν0) (Aof (zS μ0 ν0 a0 Ad0) [] s.heap.size)) (zS μ ν a Ad) [] (kc ν - kc ν0) (ks ν - ks ν0) 216 [(0, .ref (Q 0)), (1, .int x1), (2, .ref (Q 1)), (8, .ref (Q 9)), (9, .ref (Q 10)), (10, .ref (Q 11)), (11, .ref (Q 12)), (12, .ref (Q 13)), (13, .ref (Q 14)), (14, .int x14), (15, .int x15)] [] := by
  have m0 := mb_L_isTold_216 hmk216 h
  have e1 := m0.2.1; have e2 := m0.2.2.1; have e3 := hm0.2.1; have e4 := hm0.2.2.1
  have hI := lwI_mn hI0 hm0; have hQ := lwQ_kp hI0 hp0 hQ0
  unfold b_L_isTold_216 at h
  refine g_iload C dL_isTold_216 10 rfl ?_
  refine g_aload_n C dL_isTold_218 rfl 2 rfl ?_
  refine g_bipush (v := (18 : Int32)) C dL_isTold_219 (by decide) ?_
  obtain ⟨g1, h⟩ := of_guard h
  refine q_iald C (show rsh (ν.1, μ.2, ν.2, Ad) from hI.2) (j := 1) (N := 22) (by decide) (lwQ_i hQ (j := 1) (N := 22) (by decide)) g1 dL_isTold_221 ?_
  refine g_icmp_ge (tgt := 690) C dL_isTold_222 (by decide) (fun c222 => ?_) (fun c222 => ?_)
  · replace h := (if_pos c222).symm.trans h
    refine g_iconst (v := (0 : Int32)) C dL_isTold_690 (by decide) ?_
    refine g_istore (lv' := [(15, .int (0 : Int32)), (0, .ref (Q 0)), (1, .int x1), (2, .ref (Q 1)), (8, .ref (Q 9)), (9, .ref (Q 10)), (10, .ref (Q 11)), (11, .ref (Q 12)), (12, .ref (Q 13)), (13, .ref (Q 14)), (14, .int x14)]) C dL_isTold_691 (by decide) rfl ?_
    refine g_lv [1, 2, 3, 7, 8, 9, 10, 0] rfl ?_
    exact ll_L_isTold_693 hl C hEv hN hr hz hI0 hQ0  w _ _ _ _ _ _ _ hm0 hp0 h
  · replace h := (if_neg c222).symm.trans h
    refine g_aload C dL_isTold_225 6 rfl ?_
    refine g_iload C dL_isTold_227 10 rfl ?_
    obtain ⟨g45, h⟩ := of_guard h
    refine q_iald C (show rsh (ν.1, μ.2, ν.2, Ad) from hI.2) (j := 12) (N := 10) (by decide) (lwQ_i hQ (j := 12) (N := 10) (by decide)) g45 dL_isTold_229 ?_
    refine g_iconst (v := (4 : Int32)) C dL_isTold_230 (by decide) ?_
    refine g_iand C dL_isTold_231 ?_
    refine g_if_le (tgt := 239) C dL_isTold_232 (by decide) (fun c232 => ?_) (fun c232 => ?_)
    · replace h := (if_pos c232).symm.trans h
      refine g_iconst (v := (0 : Int32)) C dL_isTold_239 (by decide) ?_
      refine g_lv [0, 1, 2, 3, 4, 5, 6, 7, 8, 9, 10] rfl ?_
      exact lb_L_isTold_240 hl C hEv hN hr hz hI0 hQ0 hm0 hp0 hmk216 hk216 h
    · replace h := (if_neg c232).symm.trans h
      refine g_iconst (v := (1 : Int32)) C dL_isTold_235 (by decide) ?_
      refine g_goto (tgt := 240) C dL_isTold_236 (by decide) ?_
      refine g_lv [0, 1, 2, 3, 4, 5, 6, 7, 8, 9, 10] rfl ?_
      exact lb_L_isTold_240 hl C hEv hN hr hz hI0 hQ0 hm0 hp0 hmk216 hk216 h
noncomputable def l_L_isTold_216  (w : Nat) : Nat → MP → NC → AS → Int32 → Int32 → Int32 → Option (((MP × NC) × AS) × Int32)
  | 0 => fun _ _ _ _ _ _ => none
  | n + 1 => fun μ ν a x1 x14 x15 => b_L_isTold_216  (l_L_isTold_216  w n) w μ ν a x1 x14 x15
theorem ml_L_isTold_216 {w : Nat} {r0 : ((MP × NC) × AS) × Int32}   : ∀ (n : Nat) (μ : MP) (ν : NC) (a : AS) (x1 : Int32) (x14 : Int32) (x15 : Int32), l_L_isTold_216  w n μ ν a x1 x14 x15 = some r0 → mn ν r0.1.1.2 := by
  intro n
  induction n with
  | zero => exact fun μ ν a x1 x14 x15 h => absurd (show (none : Option (((MP × NC) × AS) × Int32)) = some r0 from h) (by simp)
  | succ n ih => exact fun μ ν a x1 x14 x15 h => mb_L_isTold_216  ih h
theorem ll_L_isTold_216 {p : Program} {l : Launch} (hl : l.stackTraces = false) {e : Env} {s : State} {m : MethodId} {args : Array Value} {below : List Frame} {meth : Method} {c : Code} {D : va_G} {E : Nat → ClassId} {sz : Nat} {μ0 : MP} {ν0 : NC} {a0 : AS} {Ad0 : Nat → Nat → Nat} {Q : Nat → Nat} {B : Nat × (Nat → Nat)} {w : Nat} {r0 : ((MP × NC) × AS) × Int32} (C : cx p s m args meth c D E (Aof (zS μ0 ν0 a0 Ad0) [] s.heap.size) cL_isTold 22 "TradeLineLaw") (hEv : eV (Ad0 30 0) (Ad0 31 0) B (Aof (zS μ0 ν0 a0 Ad0) [] s.heap.size) s s.heap) (hN : vN s) (hr : meth.sig.returnType = (some .boolean)) (hz : s.heap.size = sz) (hI0 : lwI ν0) (hQ0 : lwQ Ad0 Q)   : ∀ (n : Nat) (μ : MP) (ν : NC) (a : AS) (Ad : Nat → Nat → Nat) (x1 : Int32) (x14 : Int32) (x15 : Int32), mn ν0 ν → kp ν0 Ad0 Ad → l_L_isTold_216  w n μ ν a x1 x14 x15 = some r0 → G p l e ({ frames := 11, cells := kc r0.1.1.2 - kc ν0, slots := ks r0.1.1.2 - ks ν0, locals := 229 } : Room) s m args below meth c D E (Aof (zS μ0 ν0 a0 Ad0) [] s.heap.size) 22 (MQ below (cQ D E sz (zS μ0 ν0 a0 Ad0) [] (pI (fun r u => r = r0.2 ∧ ∃ A1, u = (zS r0.1.1.1 r0.1.1.2 r0.1.2 A1, []) ∧ kp ν0 Ad0 A1))) args s (kc r0.1.1.2 - kc ν0) (ks r0.1.1.2 - ks ν0) (Aof (zS μ0 ν0 a0 Ad0) [] s.heap.size)) (zS μ ν a Ad) [] (kc ν - kc ν0) (ks ν - ks ν0) 216 [(0, .ref (Q 0)), (1, .int x1), (2, .ref (Q 1)), (8, .ref (Q 9)), (9, .ref (Q 10)), (10, .ref (Q 11)), (11, .ref (Q 12)), (12, .ref (Q 13)), (13, .ref (Q 14)), (14, .int x14), (15, .int x15)] [] := by
  intro n
  induction n with
  | zero => exact fun μ ν a Ad x1 x14 x15 hm0 hp0 h => absurd (show (none : Option (((MP × NC) × AS) × Int32)) = some r0 from h) (by simp)
  | succ n ih => exact fun μ ν a Ad x1 x14 x15 hm0 hp0 h => lb_L_isTold_216 (w := w) hl C hEv hN hr hz hI0 hQ0 hm0 hp0  (fun μ ν a x1 x14 x15 h => ml_L_isTold_216  n μ ν a x1 x14 x15 h) ih h
noncomputable def b_L_isTold_204 (k3 : MP → NC → AS → Int32 → Int32 → Option (((MP × NC) × AS) × Int32)) (w : Nat) (μ : MP) (ν : NC) (a : AS) (x1 : Int32) (x14 : Int32)  : Option (((MP × NC) × AS) × Int32) := yl (x14 + (1 : Int32)) (fun t91 => k3 μ ν a x1 t91)
theorem mb_L_isTold_204 {w : Nat} {μ : MP} {ν : NC} {a : AS} {x1 : Int32} {x14 : Int32}  {r0 : ((MP × NC) × AS) × Int32} {k3 : MP → NC → AS → Int32 → Int32 → Option (((MP × NC) × AS) × Int32)} (hmk3 : ∀ (μ : MP) (ν : NC) (a : AS) (z1 : Int32) (z14 : Int32), k3 μ ν a z1 z14 = some r0 → mn ν r0.1.1.2) (h : b_L_isTold_204 k3 w μ ν a x1 x14  = some r0) : mn ν r0.1.1.2 := by
  unfold b_L_isTold_204 at h
  obtain ⟨t91, et91⟩ : ∃ y, x14 + (1 : Int32) = y := ⟨_, rfl⟩
  replace h := yl_of h et91
  exact hmk3 _ _ _ _ _ h
set_option maxHeartbeats 4000000 in
set_option maxRecDepth 100000 in
theorem lb_L_isTold_204 {p : Program} {l : Launch} (hl : l.stackTraces = false) {e : Env} {s : State} {m : MethodId} {args : Array Value} {below : List Frame} {meth : Method} {c : Code} {D : va_G} {E : Nat → ClassId} {sz : Nat} {μ0 : MP} {ν0 : NC} {a0 : AS} {Ad0 : Nat → Nat → Nat} {Q : Nat → Nat} {B : Nat × (Nat → Nat)} {w : Nat} {r0 : ((MP × NC) × AS) × Int32} (C : cx p s m args meth c D E (Aof (zS μ0 ν0 a0 Ad0) [] s.heap.size) cL_isTold 22 "TradeLineLaw") (hEv : eV (Ad0 30 0) (Ad0 31 0) B (Aof (zS μ0 ν0 a0 Ad0) [] s.heap.size) s s.heap) (hN : vN s) (hr : meth.sig.returnType = (some .boolean)) (hz : s.heap.size = sz) (hI0 : lwI ν0) (hQ0 : lwQ Ad0 Q) {μ : MP} {ν : NC} {a : AS} {Ad : Nat → Nat → Nat} (hm0 : mn ν0 ν) (hp0 : kp ν0 Ad0 Ad) {x1 : Int32} {x14 : Int32}  {k3 : MP → NC → AS → Int32 → Int32 → Option (((MP × NC) × AS) × Int32)} (hmk3 : ∀ (μ : MP) (ν : NC) (a : AS) (z1 : Int32) (z14 : Int32), k3 μ ν a z1 z14 = some r0 → mn ν r0.1.1.2) (hk3 : ∀ (μ : MP) (ν : NC) (a : AS) (Ad : Nat → Nat → Nat) (z1 : Int32) (z14 : Int32), mn ν0 ν → kp ν0 Ad0 Ad → k3 μ ν a z1 z14 = some r0 → G p l e ({ frames := 11, cells := kc r0.1.1.2 - kc ν0, slots := ks r0.1.1.2 - ks ν0, locals := 229 } : Room) s m args below meth c D E (Aof (zS μ0 ν0 a0 Ad0) [] s.heap.size) 22 (MQ below (cQ D E sz (zS μ0 ν0 a0 Ad0) [] (pI (fun r u => r = r0.2 ∧ ∃ A1, u = (zS r0.1.1.1 r0.1.1.2 r0.1.2 A1, []) ∧ kp ν0 Ad0 A1))) args s (kc r0.1.1.2 - kc ν0) (ks r0.1.1.2 - ks ν0) (Aof (zS μ0 ν0 a0 Ad0) [] s.heap.size)) (zS μ ν a Ad) [] (kc ν - kc ν0) (ks ν - ks ν0) 3 [(0, .ref (Q 0)), (1, .int z1), (2, .ref (Q 1)), (3, .ref (Q 4)), (4, .ref (Q 5)), (5, .ref (Q 6)), (6, .ref (Q 7)), (8, .ref (Q 9)), (9, .ref (Q 10)), (10, .ref (Q 11)), (11, .ref (Q 12)), (12, .ref (Q 13)), (13, .ref (Q 14)), (14, .int z14)] []) (h : b_L_isTold_204 k3 w μ ν a x1 x14  = some r0) : G p l e ({ frames := 11, cells := kc r0.1.1.2 - kc ν0, slots := ks r0.1.1.2 - ks ν0, locals := 229 } : Room) s m args below meth c D E (Aof (zS μ0 ν0 a0 Ad0) [] s.heap.size) 22 (MQ below (cQ D E sz (zS μ0 ν0 a0 Ad0) [] (pI (fun r u => r = r0.2 ∧ ∃ A1, u = (zS r0.1.1.1 r0.1.1.2 r0.1.2 A1, []) ∧ kp ν0 Ad0 A1))) args s (kc r0.1.1.2 - kc ν0) (ks r0.1.1.2 - ks ν0) (Aof (zS μ0 ν0 a0 Ad0) [] s.heap.size)) (zS μ ν a Ad) [] (kc ν - kc ν0) (ks ν - ks ν0) 204 [(0, .ref (Q 0)), (1, .int x1), (2, .ref (Q 1)), (3, .ref (Q 4)), (4, .ref (Q 5)), (5, .ref (Q 6)), (6, .ref (Q 7)), (8, .ref (Q 9)), (9, .ref (Q 10)), (10, .ref (Q 11)), (11, .ref (Q 12)), (12, .ref (Q 13)), (13, .ref (Q 14)), (14, .int x14)] [] := by
  have m0 := mb_L_isTold_204 hmk3 h
  have e1 := m0.2.1; have e2 := m0.2.2.1; have e3 := hm0.2.1; have e4 := hm0.2.2.1
  have hI := lwI_mn hI0 hm0; have hQ := lwQ_kp hI0 hp0 hQ0
  unfold b_L_isTold_204 at h
  obtain ⟨t91, et91⟩ : ∃ y : Int32, x14 + (1 : Int32) = y := ⟨_, rfl⟩
  replace h := yl_of h et91
  refine g_iinc (v := t91) (lv' := [(14, .int t91), (0, .ref (Q 0)), (1, .int x1), (2, .ref (Q 1)), (3, .ref (Q 4)), (4, .ref (Q 5)), (5, .ref (Q 6)), (6, .ref (Q 7)), (8, .ref (Q 9)), (9, .ref (Q 10)), (10, .ref (Q 11)), (11, .ref (Q 12)), (12, .ref (Q 13)), (13, .ref (Q 14))]) C dL_isTold_204 13 rfl (by rw [← et91]; rfl) (by decide) rfl ?_
  refine g_goto (tgt := 3) C dL_isTold_207 (by decide) ?_
  refine g_lv [1, 2, 3, 4, 5, 6, 7, 8, 9, 10, 11, 12, 13, 0] rfl ?_
  exact hk3 _ _ _ _ _ _ hm0 hp0 h
noncomputable def b_L_isTold_199 (k3 : MP → NC → AS → Int32 → Int32 → Option (((MP × NC) × AS) × Int32)) (w : Nat) (μ : MP) (ν : NC) (a : AS) (x1 : Int32) (x14 : Int32) (s0 : Int32) : Option (((MP × NC) × AS) × Int32) := (if s0 = (0 : Int32) then (some (((μ, ν), a), (0 : Int32))) else (b_L_isTold_204 k3 w μ ν a x1 x14))
theorem mb_L_isTold_199 {w : Nat} {μ : MP} {ν : NC} {a : AS} {x1 : Int32} {x14 : Int32} {s0 : Int32} {r0 : ((MP × NC) × AS) × Int32} {k3 : MP → NC → AS → Int32 → Int32 → Option (((MP × NC) × AS) × Int32)} (hmk3 : ∀ (μ : MP) (ν : NC) (a : AS) (z1 : Int32) (z14 : Int32), k3 μ ν a z1 z14 = some r0 → mn ν r0.1.1.2) (h : b_L_isTold_199 k3 w μ ν a x1 x14 s0 = some r0) : mn ν r0.1.1.2 := by
  unfold b_L_isTold_199 at h
  by_cases c199 : s0 = (0 : Int32)
  · replace h := (if_pos c199).symm.trans h
    obtain rfl := Option.some.inj h
    exact mn_rfl _
  · replace h := (if_neg c199).symm.trans h
    exact mb_L_isTold_204 hmk3 h
set_option maxHeartbeats 4000000 in
set_option maxRecDepth 100000 in
theorem lb_L_isTold_199 {p : Program} {l : Launch} (hl : l.stackTraces = false) {e : Env} {s : State} {m : MethodId} {args : Array Value} {below : List Frame} {meth : Method} {c : Code} {D : va_G} {E : Nat → ClassId} {sz : Nat} {μ0 : MP} {ν0 : NC} {a0 : AS} {Ad0 : Nat → Nat → Nat} {Q : Nat → Nat} {B : Nat × (Nat → Nat)} {w : Nat} {r0 : ((MP × NC) × AS) × Int32} (C : cx p s m args meth c D E (Aof (zS μ0 ν0 a0 Ad0) [] s.heap.size) cL_isTold 22 "TradeLineLaw") (hEv : eV (Ad0 30 0) (Ad0 31 0) B (Aof (zS μ0 ν0 a0 Ad0) [] s.heap.size) s s.heap) (hN : vN s) (hr : meth.sig.returnType = (some .boolean)) (hz : s.heap.size = sz) (hI0 : lwI ν0) (hQ0 : lwQ Ad0 Q) {μ : MP} {ν : NC} {a : AS} {Ad : Nat → Nat → Nat} (hm0 : mn ν0 ν) (hp0 : kp ν0 Ad0 Ad) {x1 : Int32} {x14 : Int32} {s0 : Int32} {k3 : MP → NC → AS → Int32 → Int32 → Option (((MP × NC) × AS) × Int32)} (hmk3 : ∀ (μ : MP) (ν : NC) (a : AS) (z1 : Int32) (z14 : Int32), k3 μ ν a z1 z14 = some r0 → mn ν r0.1.1.2) (hk3 : ∀ (μ : MP) (ν : NC) (a : AS) (Ad : Nat → Nat → Nat) (z1 : Int32) (z14 : Int32), mn ν0 ν → kp ν0 Ad0 Ad → k3 μ ν a z1 z14 = some r0 → G p l e ({ frames := 11, cells := kc r0.1.1.2 - kc ν0, slots := ks r0.1.1.2 - ks ν0, locals := 229 } : Room) s m args below meth c D E (Aof (zS μ0 ν0 a0 Ad0) [] s.heap.size) 22 (MQ below (cQ D E sz (zS μ0 ν0 a0 Ad0) [] (pI (fun r u => r = r0.2 ∧ ∃ A1, u = (zS r0.1.1.1 r0.1.1.2 r0.1.2 A1, []) ∧ kp ν0 Ad0 A1))) args s (kc r0.1.1.2 - kc ν0) (ks r0.1.1.2 - ks ν0) (Aof (zS μ0 ν0 a0 Ad0) [] s.heap.size)) (zS μ ν a Ad) [] (kc ν - kc ν0) (ks ν - ks ν0) 3 [(0, .ref (Q 0)), (1, .int z1), (2, .ref (Q 1)), (3, .ref (Q 4)), (4, .ref (Q 5)), (5, .ref (Q 6)), (6, .ref (Q 7)), (8, .ref (Q 9)), (9, .ref (Q 10)), (10, .ref (Q 11)), (11, .ref (Q 12)), (12, .ref (Q 13)), (13, .ref (Q 14)), (14, .int z14)] []) (h : b_L_isTold_199 k3 w μ ν a x1 x14 s0 = some r0) : G p l e ({ frames := 11, cells := kc r0.1.1.2 - kc ν0, slots := ks r0.1.1.2 - ks ν0, locals := 229 } : Room) s m args below meth c D E (Aof (zS μ0 ν0 a0 Ad0) [] s.heap.size) 22 (MQ below (cQ D E sz (zS μ0 ν0 a0 Ad0) [] (pI (fun r u => r = r0.2 ∧ ∃ A1, u = (zS r0.1.1.1 r0.1.1.2 r0.1.2 A1, []) ∧ kp ν0 Ad0 A1))) args s (kc r0.1.1.2 - kc ν0) (ks r0.1.1.2 - ks ν0) (Aof (zS μ0 ν0 a0 Ad0) [] s.heap.size)) (zS μ ν a Ad) [] (kc ν - kc ν0) (ks ν - ks ν0) 199 [(0, .ref (Q 0)), (1, .int x1), (2, .ref (Q 1)), (3, .ref (Q 4)), (4, .ref (Q 5)), (5, .ref (Q 6)), (6, .ref (Q 7)), (8, .ref (Q 9)), (9, .ref (Q 10)), (10, .ref (Q 11)), (11, .ref (Q 12)), (12, .ref (Q 13)), (13, .ref (Q 14)), (14, .int x14)] [.int s0] := by
  have m0 := mb_L_isTold_199 hmk3 h
  have e1 := m0.2.1; have e2 := m0.2.2.1; have e3 := hm0.2.1; have e4 := hm0.2.2.1
  have hI := lwI_mn hI0 hm0; have hQ := lwQ_kp hI0 hp0 hQ0
  unfold b_L_isTold_199 at h
  refine g_if_ne (tgt := 204) C dL_isTold_199 (by decide) (fun c199 => ?_) (fun c199 => ?_)
  · replace h := (if_neg c199).symm.trans h
    refine g_lv [0, 1, 2, 3, 4, 5, 6, 7, 8, 9, 10, 11, 12, 13] rfl ?_
    exact lb_L_isTold_204 hl C hEv hN hr hz hI0 hQ0 hm0 hp0 hmk3 hk3 h
  · replace h := (if_pos c199).symm.trans h
    refine g_iconst (v := (0 : Int32)) C dL_isTold_202 (by decide) ?_
    obtain rfl := Option.some.inj h
    exact g_iret C hr rfl hz ⟨(hm0.2.2.2 30 (by decide) (by decide)).1, (hm0.2.2.2 31 (by decide) (by decide)).1, hp0.2.1, hp0.2.2⟩ ⟨rfl, Ad, rfl, hp0⟩ (fun j x h => by simp at h) dL_isTold_203
noncomputable def b_L_isTold_156 (k3 : MP → NC → AS → Int32 → Int32 → Option (((MP × NC) × AS) × Int32)) (w : Nat) (μ : MP) (ν : NC) (a : AS) (x1 : Int32) (x14 : Int32) (s0 : Int32) : Option (((MP × NC) × AS) × Int32) := (if s0 = (-7100 : Int32) then (bif ixB ((4 : Int32) + x14) 22 then (if (a 1 ((4 : Int32) + x14).toNatClampNeg) ≤ (0 : Int32) then (b_L_isTold_204 k3 w μ ν a x1 x14) else ((f_L_low w a (x1 >>> (x14 &&& 31)) (a 1 ((4 : Int32) + x14).toNatClampNeg)).bind (fun v92 => (f_L_isMessage w μ ν a x14 ((1 : Int32) + v92)).bind (fun v93 => b_L_isTold_199 k3 w v93.1.1.1 v93.1.1.2 v93.1.2 x1 x14 v93.2)))) else none) else (some (((μ, ν), a), (0 : Int32))))
theorem mb_L_isTold_156 {w : Nat} {μ : MP} {ν : NC} {a : AS} {x1 : Int32} {x14 : Int32} {s0 : Int32} {r0 : ((MP × NC) × AS) × Int32} {k3 : MP → NC → AS → Int32 → Int32 → Option (((MP × NC) × AS) × Int32)} (hmk3 : ∀ (μ : MP) (ν : NC) (a : AS) (z1 : Int32) (z14 : Int32), k3 μ ν a z1 z14 = some r0 → mn ν r0.1.1.2) (h : b_L_isTold_156 k3 w μ ν a x1 x14 s0 = some r0) : mn ν r0.1.1.2 := by
  unfold b_L_isTold_156 at h
  by_cases c159 : s0 = (-7100 : Int32)
  · replace h := (if_pos c159).symm.trans h
    replace h := (of_guard h).2
    by_cases c170 : (a 1 ((4 : Int32) + x14).toNatClampNeg) ≤ (0 : Int32)
    · replace h := (if_pos c170).symm.trans h
      exact mb_L_isTold_204 hmk3 h
    · replace h := (if_neg c170).symm.trans h
      obtain ⟨v92, hv92, h⟩ := bind_of h
      obtain ⟨v93, hv93, h⟩ := bind_of h
      exact mn_trans (m_L_isMessage hv93) (mb_L_isTold_199 hmk3 h)
  · replace h := (if_neg c159).symm.trans h
    obtain rfl := Option.some.inj h
    exact mn_rfl _
set_option maxHeartbeats 4000000 in
set_option maxRecDepth 100000 in
theorem lb_L_isTold_156 {p : Program} {l : Launch} (hl : l.stackTraces = false) {e : Env} {s : State} {m : MethodId} {args : Array Value} {below : List Frame} {meth : Method} {c : Code} {D : va_G} {E : Nat → ClassId} {sz : Nat} {μ0 : MP} {ν0 : NC} {a0 : AS} {Ad0 : Nat → Nat → Nat} {Q : Nat → Nat} {B : Nat × (Nat → Nat)} {w : Nat} {r0 : ((MP × NC) × AS) × Int32} (C : cx p s m args meth c D E (Aof (zS μ0 ν0 a0 Ad0) [] s.heap.size) cL_isTold 22 "TradeLineLaw") (hEv : eV (Ad0 30 0) (Ad0 31 0) B (Aof (zS μ0 ν0 a0 Ad0) [] s.heap.size) s s.heap) (hN : vN s) (hr : meth.sig.returnType = (some .boolean)) (hz : s.heap.size = sz) (hI0 : lwI ν0) (hQ0 : lwQ Ad0 Q) {μ : MP} {ν : NC} {a : AS} {Ad : Nat → Nat → Nat} (hm0 : mn ν0 ν) (hp0 : kp ν0 Ad0 Ad) {x1 : Int32} {x14 : Int32} {s0 : Int32} {k3 : MP → NC → AS → Int32 → Int32 → Option (((MP × NC) × AS) × Int32)} (hmk3 : ∀ (μ : MP) (ν : NC) (a : AS) (z1 : Int32) (z14 : Int32), k3 μ ν a z1 z14 = some r0 → mn ν r0.1.1.2) (hk3 : ∀ (μ : MP) (ν : NC) (a : AS) (Ad : Nat → Nat → Nat) (z1 : Int32) (z14 : Int32), mn ν0 ν → kp ν0 Ad0 Ad → k3 μ ν a z1 z14 = some r0 → G p l e ({ frames := 11, cells := kc r0.1.1.2 - kc ν0, slots := ks r0.1.1.2 - ks ν0, locals := 229 } : Room) s m args below meth c D E (Aof (zS μ0 ν0 a0 Ad0) [] s.heap.size) 22 (MQ below (cQ D E sz (zS μ0 ν0 a0 Ad0) [] (pI (fun r u => r = r0.2 ∧ ∃ A1, u = (zS r0.1.1.1 r0.1.1.2 r0.1.2 A1, []) ∧ kp ν0 Ad0 A1))) args s (kc r0.1.1.2 - kc ν0) (ks r0.1.1.2 - ks ν0) (Aof (zS μ0 ν0 a0 Ad0) [] s.heap.size)) (zS μ ν a Ad) [] (kc ν - kc ν0) (ks ν - ks ν0) 3 [(0, .ref (Q 0)), (1, .int z1), (2, .ref (Q 1)), (3, .ref (Q 4)), (4, .ref (Q 5)), (5, .ref (Q 6)), (6, .ref (Q 7)), (8, .ref (Q 9)), (9, .ref (Q 10)), (10, .ref (Q 11)), (11, .ref (Q 12)), (12, .ref (Q 13)), (13, .ref (Q 14)), (14, .int z14)] []) (h : b_L_isTold_156 k3 w μ ν a x1 x14 s0 = some r0) : G p l e ({ frames := 11, cells := kc r0.1.1.2 - kc ν0, slots := ks r0.1.1.2 - ks ν0, locals := 229 } : Room) s m args below meth c D E (Aof (zS μ0 ν0 a0 Ad0) [] s.heap.size) 22 (MQ below (cQ D E sz (zS μ0 ν0 a0 Ad0) [] (pI (fun r u => r = r0.2 ∧ ∃ A1, u = (zS r0.1.1.1 r0.1.1.2 r0.1.2 A1, []) ∧ kp ν0 Ad0 A1))) args s (kc r0.1.1.2 - kc ν0) (ks r0.1.1.2 - ks ν0) (Aof (zS μ0 ν0 a0 Ad0) [] s.heap.size)) (zS μ ν a Ad) [] (kc ν - kc ν0) (ks ν - ks ν0) 156 [(0, .ref (Q 0)), (1, .int x1), (2, .ref (Q 1)), (3, .ref (Q 4)), (4, .ref (Q 5)), (5, .ref (Q 6)), (6, .ref (Q 7)), (8, .ref (Q 9)), (9, .ref (Q 10)), (10, .ref (Q 11)), (11, .ref (Q 12)), (12, .ref (Q 13)), (13, .ref (Q 14)), (14, .int x14)] [.int s0] := by
  have m0 := mb_L_isTold_156 hmk3 h
  have e1 := m0.2.1; have e2 := m0.2.2.1; have e3 := hm0.2.1; have e4 := hm0.2.2.1
  have hI := lwI_mn hI0 hm0; have hQ := lwQ_kp hI0 hp0 hQ0
  unfold b_L_isTold_156 at h
  refine g_sipush (v := (-7100 : Int32)) C dL_isTold_156 (by decide) ?_
  refine g_icmp_eq (tgt := 164) C dL_isTold_159 (by decide) (fun c159 => ?_) (fun c159 => ?_)
  · replace h := (if_pos c159).symm.trans h
    refine g_aload_n C dL_isTold_164 rfl 2 rfl ?_
    refine g_iconst (v := (4 : Int32)) C dL_isTold_165 (by decide) ?_
    refine g_iload C dL_isTold_166 13 rfl ?_
    refine g_iadd C dL_isTold_168 ?_
    obtain ⟨g90, h⟩ := of_guard h
    refine q_iald C (show rsh (ν.1, μ.2, ν.2, Ad) from hI.2) (j := 1) (N := 22) (by decide) (lwQ_i hQ (j := 1) (N := 22) (by decide)) g90 dL_isTold_169 ?_
    refine g_if_le (tgt := 204) C dL_isTold_170 (by decide) (fun c170 => ?_) (fun c170 => ?_)
    · replace h := (if_pos c170).symm.trans h
      refine g_lv [0, 1, 2, 3, 4, 5, 6, 7, 8, 9, 10, 11, 12, 13] rfl ?_
      exact lb_L_isTold_204 hl C hEv hN hr hz hI0 hQ0 hm0 hp0 hmk3 hk3 h
    · replace h := (if_neg c170).symm.trans h
      refine g_aload_n C dL_isTold_173 rfl 0 rfl ?_
      refine g_iload C dL_isTold_174 13 rfl ?_
      refine g_iconst (v := (1 : Int32)) C dL_isTold_176 (by decide) ?_
      refine g_iload_n C dL_isTold_177 rfl 1 rfl ?_
      refine g_iload C dL_isTold_178 13 rfl ?_
      refine g_ishr C dL_isTold_180 ?_
      refine g_aload_n C dL_isTold_181 rfl 2 rfl ?_
      refine g_iconst (v := (4 : Int32)) C dL_isTold_182 (by decide) ?_
      refine g_iload C dL_isTold_183 13 rfl ?_
      refine g_iadd C dL_isTold_185 ?_
      refine q_iald C (show rsh (ν.1, μ.2, ν.2, Ad) from hI.2) (j := 1) (N := 22) (by decide) (lwQ_i hQ (j := 1) (N := 22) (by decide)) g90 dL_isTold_186 ?_
      obtain ⟨v92, hv92, h⟩ := bind_of h
      refine g_cSi (n := 2) (exc := []) (exr := []) C [_, _] _ rfl rfl [] [] rfl rfl rfl rfl (fun _ h => absurd h (by simp)) (fun _ h => absurd h (by simp)) (fun _ h => absurd h (by simp)) (fun sz => wk_L_low l _ ν _ Ad Q hI hQ w _ _  _ hv92 D E sz) rfl gw_210 gw_0 gw_208 gw_209 ⟨by decide +kernel, by decide +kernel, by decide +kernel⟩ ⟨rfl, rfl⟩ ⟨Nat.le_of_ble_eq_true rfl, Nat.le_of_ble_eq_true rfl⟩ (Nat.le_of_ble_eq_true rfl) dL_isTold_187 ⟨by show (kc ν - kc ν0) + 0 ≤ kc r0.1.1.2 - kc ν0; omega, by show (ks ν - ks ν0) + 0 ≤ ks r0.1.1.2 - ks ν0; omega⟩ (fun r u hp hx => ?_)
      obtain ⟨er, rfl⟩ := hp
      rw [er]
      try dsimp only [List.append_nil]
      refine g_iadd C dL_isTold_190 ?_
      refine g_aload_n C dL_isTold_191 rfl 3 rfl ?_
      refine g_aload C dL_isTold_192 4 rfl ?_
      refine g_aload C dL_isTold_194 11 rfl ?_
      obtain ⟨v93, hv93, h⟩ := bind_of h
      have m2 := m_L_isMessage hv93
      have m3 := mb_L_isTold_199 hmk3 h
      have a1 := hm0.2.1; have a2 := hm0.2.2.1; have b1 := m2.2.1; have b2 := m2.2.2.1; have d1 := m3.2.1; have d2 := m3.2.2.1
      refine g_cSN (n := 6) (exr := []) C hEv hN ⟨hp0.2.1 0, hp0.2.2 0⟩ [_, _, _, _, _, _] _ rfl rfl [] rfl rfl (fun sz => c_L_isMessage l hl B _ ν _ Ad Q hI hQ w _ _ _ hv93 D E sz) rfl gw_1270 gw_0 gw_1268 gw_1269 ⟨by decide +kernel, by decide +kernel, by decide +kernel⟩ ⟨rfl, rfl⟩ ⟨Nat.le_of_ble_eq_true rfl, Nat.le_of_ble_eq_true rfl⟩ (Nat.le_of_ble_eq_true rfl) dL_isTold_196 ⟨by show (kc ν - kc ν0) + (kc v93.1.1.2 - kc ν) ≤ kc r0.1.1.2 - kc ν0; omega, by show (ks ν - ks ν0) + (ks v93.1.1.2 - ks ν) ≤ ks r0.1.1.2 - ks ν0; omega⟩ (fun r u hp hx => ?_)
      obtain ⟨er, A1, rfl, hkp⟩ := hp
      rw [er]
      try dsimp only [List.append_nil]
      refine g_widen (k := kc v93.1.1.2 - kc ν0) (n := ks v93.1.1.2 - ks ν0) (by omega) (by omega) ?_
      refine g_lv [0, 1, 2, 3, 4, 5, 6, 7, 8, 9, 10, 11, 12, 13] rfl ?_
      exact lb_L_isTold_199 hl C hEv hN hr hz hI0 hQ0 (mn_trans hm0 m2) (kp_trans hp0 hm0 hkp) hmk3 hk3 h
  · replace h := (if_neg c159).symm.trans h
    refine g_iconst (v := (0 : Int32)) C dL_isTold_162 (by decide) ?_
    obtain rfl := Option.some.inj h
    exact g_iret C hr rfl hz ⟨(hm0.2.2.2 30 (by decide) (by decide)).1, (hm0.2.2.2 31 (by decide) (by decide)).1, hp0.2.1, hp0.2.2⟩ ⟨rfl, Ad, rfl, hp0⟩ (fun j x h => by simp at h) dL_isTold_163
noncomputable def b_L_isTold_136 (k3 : MP → NC → AS → Int32 → Int32 → Option (((MP × NC) × AS) × Int32)) (w : Nat) (μ : MP) (ν : NC) (a : AS) (x1 : Int32) (x14 : Int32) (s0 : Int32) : Option (((MP × NC) × AS) × Int32) := (if s0 = (-7100 : Int32) then (bif ixB ((4 : Int32) + x14) 22 then (f_L_fields w μ ν x14 ((a 1 ((4 : Int32) + x14).toNatClampNeg) + (1 : Int32))).bind (fun v89 => b_L_isTold_156 k3 w v89.1.1 v89.1.2 a x1 x14 v89.2) else none) else (some (((μ, ν), a), (0 : Int32))))
theorem mb_L_isTold_136 {w : Nat} {μ : MP} {ν : NC} {a : AS} {x1 : Int32} {x14 : Int32} {s0 : Int32} {r0 : ((MP × NC) × AS) × Int32} {k3 : MP → NC → AS → Int32 → Int32 → Option (((MP × NC) × AS) × Int32)} (hmk3 : ∀ (μ : MP) (ν : NC) (a : AS) (z1 : Int32) (z14 : Int32), k3 μ ν a z1 z14 = some r0 → mn ν r0.1.1.2) (h : b_L_isTold_136 k3 w μ ν a x1 x14 s0 = some r0) : mn ν r0.1.1.2 := by
  unfold b_L_isTold_136 at h
  by_cases c139 : s0 = (-7100 : Int32)
  · replace h := (if_pos c139).symm.trans h
    replace h := (of_guard h).2
    obtain ⟨v89, hv89, h⟩ := bind_of h
    exact mn_trans (m_L_fields hv89) (mb_L_isTold_156 hmk3 h)
  · replace h := (if_neg c139).symm.trans h
    obtain rfl := Option.some.inj h
    exact mn_rfl _
set_option maxHeartbeats 4000000 in
set_option maxRecDepth 100000 in
theorem lb_L_isTold_136 {p : Program} {l : Launch} (hl : l.stackTraces = false) {e : Env} {s : State} {m : MethodId} {args : Array Value} {below : List Frame} {meth : Method} {c : Code} {D : va_G} {E : Nat → ClassId} {sz : Nat} {μ0 : MP} {ν0 : NC} {a0 : AS} {Ad0 : Nat → Nat → Nat} {Q : Nat → Nat} {B : Nat × (Nat → Nat)} {w : Nat} {r0 : ((MP × NC) × AS) × Int32} (C : cx p s m args meth c D E (Aof (zS μ0 ν0 a0 Ad0) [] s.heap.size) cL_isTold 22 "TradeLineLaw") (hEv : eV (Ad0 30 0) (Ad0 31 0) B (Aof (zS μ0 ν0 a0 Ad0) [] s.heap.size) s s.heap) (hN : vN s) (hr : meth.sig.returnType = (some .boolean)) (hz : s.heap.size = sz) (hI0 : lwI ν0) (hQ0 : lwQ Ad0 Q) {μ : MP} {ν : NC} {a : AS} {Ad : Nat → Nat → Nat} (hm0 : mn ν0 ν) (hp0 : kp ν0 Ad0 Ad) {x1 : Int32} {x14 : Int32} {s0 : Int32} {k3 : MP → NC → AS → Int32 → Int32 → Option (((MP × NC) × AS) × Int32)} (hmk3 : ∀ (μ : MP) (ν : NC) (a : AS) (z1 : Int32) (z14 : Int32), k3 μ ν a z1 z14 = some r0 → mn ν r0.1.1.2) (hk3 : ∀ (μ : MP) (ν : NC) (a : AS) (Ad : Nat → Nat → Nat) (z1 : Int32) (z14 : Int32), mn ν0 ν → kp ν0 Ad0 Ad → k3 μ ν a z1 z14 = some r0 → G p l e ({ frames := 11, cells := kc r0.1.1.2 - kc ν0, slots := ks r0.1.1.2 - ks ν0, locals := 229 } : Room) s m args below meth c D E (Aof (zS μ0 ν0 a0 Ad0) [] s.heap.size) 22 (MQ below (cQ D E sz (zS μ0 ν0 a0 Ad0) [] (pI (fun r u => r = r0.2 ∧ ∃ A1, u = (zS r0.1.1.1 r0.1.1.2 r0.1.2 A1, []) ∧ kp ν0 Ad0 A1))) args s (kc r0.1.1.2 - kc ν0) (ks r0.1.1.2 - ks ν0) (Aof (zS μ0 ν0 a0 Ad0) [] s.heap.size)) (zS μ ν a Ad) [] (kc ν - kc ν0) (ks ν - ks ν0) 3 [(0, .ref (Q 0)), (1, .int z1), (2, .ref (Q 1)), (3, .ref (Q 4)), (4, .ref (Q 5)), (5, .ref (Q 6)), (6, .ref (Q 7)), (8, .ref (Q 9)), (9, .ref (Q 10)), (10, .ref (Q 11)), (11, .ref (Q 12)), (12, .ref (Q 13)), (13, .ref (Q 14)), (14, .int z14)] []) (h : b_L_isTold_136 k3 w μ ν a x1 x14 s0 = some r0) : G p l e ({ frames := 11, cells := kc r0.1.1.2 - kc ν0, slots := ks r0.1.1.2 - ks ν0, locals := 229 } : Room) s m args below meth c D E (Aof (zS μ0 ν0 a0 Ad0) [] s.heap.size) 22 (MQ below (cQ D E sz (zS μ0 ν0 a0 Ad0) [] (pI (fun r u => r = r0.2 ∧ ∃ A1, u = (zS r0.1.1.1 r0.1.1.2 r0.1.2 A1, []) ∧ kp ν0 Ad0 A1))) args s (kc r0.1.1.2 - kc ν0) (ks r0.1.1.2 - ks ν0) (Aof (zS μ0 ν0 a0 Ad0) [] s.heap.size)) (zS μ ν a Ad) [] (kc ν - kc ν0) (ks ν - ks ν0) 136 [(0, .ref (Q 0)), (1, .int x1), (2, .ref (Q 1)), (3, .ref (Q 4)), (4, .ref (Q 5)), (5, .ref (Q 6)), (6, .ref (Q 7)), (8, .ref (Q 9)), (9, .ref (Q 10)), (10, .ref (Q 11)), (11, .ref (Q 12)), (12, .ref (Q 13)), (13, .ref (Q 14)), (14, .int x14)] [.int s0] := by
  have m0 := mb_L_isTold_136 hmk3 h
  have e1 := m0.2.1; have e2 := m0.2.2.1; have e3 := hm0.2.1; have e4 := hm0.2.2.1
  have hI := lwI_mn hI0 hm0; have hQ := lwQ_kp hI0 hp0 hQ0
  unfold b_L_isTold_136 at h
  refine g_sipush (v := (-7100 : Int32)) C dL_isTold_136 (by decide) ?_
  refine g_icmp_ne (tgt := 162) C dL_isTold_139 (by decide) (fun c139 => ?_) (fun c139 => ?_)
  · replace h := (if_neg c139).symm.trans h
    refine g_iconst (v := (0 : Int32)) C dL_isTold_162 (by decide) ?_
    obtain rfl := Option.some.inj h
    exact g_iret C hr rfl hz ⟨(hm0.2.2.2 30 (by decide) (by decide)).1, (hm0.2.2.2 31 (by decide) (by decide)).1, hp0.2.1, hp0.2.2⟩ ⟨rfl, Ad, rfl, hp0⟩ (fun j x h => by simp at h) dL_isTold_163
  · replace h := (if_pos c139).symm.trans h
    refine g_aload_n C dL_isTold_142 rfl 0 rfl ?_
    refine g_iload C dL_isTold_143 13 rfl ?_
    refine g_aload_n C dL_isTold_145 rfl 2 rfl ?_
    refine g_iconst (v := (4 : Int32)) C dL_isTold_146 (by decide) ?_
    refine g_iload C dL_isTold_147 13 rfl ?_
    refine g_iadd C dL_isTold_149 ?_
    obtain ⟨g88, h⟩ := of_guard h
    refine q_iald C (show rsh (ν.1, μ.2, ν.2, Ad) from hI.2) (j := 1) (N := 22) (by decide) (lwQ_i hQ (j := 1) (N := 22) (by decide)) g88 dL_isTold_150 ?_
    refine g_iconst (v := (1 : Int32)) C dL_isTold_151 (by decide) ?_
    refine g_iadd C dL_isTold_152 ?_
    obtain ⟨v89, hv89, h⟩ := bind_of h
    have m2 := m_L_fields hv89
    have m3 := mb_L_isTold_156 hmk3 h
    have a1 := hm0.2.1; have a2 := hm0.2.2.1; have b1 := m2.2.1; have b2 := m2.2.2.1; have d1 := m3.2.1; have d2 := m3.2.2.1
    refine g_cSh (n := 3) (exr := []) C hEv hN ⟨hp0.2.1 0, hp0.2.2 0⟩ [_, _, _] _ rfl rfl [] rfl rfl (fun sz => wc_L_fields l hl B _ ν _ Ad Q hI hQ w _ _ _ hv89 D E sz) rfl gh_fields gw_0 gw_1252 gw_1253 ⟨by decide +kernel, by decide +kernel, by decide +kernel⟩ ⟨rfl, rfl⟩ ⟨Nat.le_of_ble_eq_true rfl, Nat.le_of_ble_eq_true rfl⟩ (Nat.le_of_ble_eq_true rfl) dL_isTold_153 ⟨by show (kc ν - kc ν0) + (kc v89.1.2 - kc ν) ≤ kc r0.1.1.2 - kc ν0; omega, by show (ks ν - ks ν0) + (ks v89.1.2 - ks ν) ≤ ks r0.1.1.2 - ks ν0; omega⟩ (fun r u hp hx => ?_)
    obtain ⟨er, A1, rfl, hkp⟩ := hp
    rw [er]
    try dsimp only [List.append_nil]
    refine g_widen (k := kc v89.1.2 - kc ν0) (n := ks v89.1.2 - ks ν0) (by omega) (by omega) ?_
    refine g_lv [0, 1, 2, 3, 4, 5, 6, 7, 8, 9, 10, 11, 12, 13] rfl ?_
    exact lb_L_isTold_156 hl C hEv hN hr hz hI0 hQ0 (mn_trans hm0 m2) (kp_trans hp0 hm0 hkp) hmk3 hk3 h
noncomputable def b_L_isTold_124 (k3 : MP → NC → AS → Int32 → Int32 → Option (((MP × NC) × AS) × Int32)) (w : Nat) (μ : MP) (ν : NC) (a : AS) (x1 : Int32) (x14 : Int32) (x15 : Int32) (s0 : Int32) : Option (((MP × NC) × AS) × Int32) := (if s0 = x15 then ((f_L_fields w μ ν x14 (0 : Int32)).bind (fun v87 => b_L_isTold_136 k3 w v87.1.1 v87.1.2 a x1 x14 v87.2)) else (some (((μ, ν), a), (0 : Int32))))
theorem mb_L_isTold_124 {w : Nat} {μ : MP} {ν : NC} {a : AS} {x1 : Int32} {x14 : Int32} {x15 : Int32} {s0 : Int32} {r0 : ((MP × NC) × AS) × Int32} {k3 : MP → NC → AS → Int32 → Int32 → Option (((MP × NC) × AS) × Int32)} (hmk3 : ∀ (μ : MP) (ν : NC) (a : AS) (z1 : Int32) (z14 : Int32), k3 μ ν a z1 z14 = some r0 → mn ν r0.1.1.2) (h : b_L_isTold_124 k3 w μ ν a x1 x14 x15 s0 = some r0) : mn ν r0.1.1.2 := by
  unfold b_L_isTold_124 at h
  by_cases c126 : s0 = x15
  · replace h := (if_pos c126).symm.trans h
    obtain ⟨v87, hv87, h⟩ := bind_of h
    exact mn_trans (m_L_fields hv87) (mb_L_isTold_136 hmk3 h)
  · replace h := (if_neg c126).symm.trans h
    obtain rfl := Option.some.inj h
    exact mn_rfl _
set_option maxHeartbeats 4000000 in
set_option maxRecDepth 100000 in
theorem lb_L_isTold_124 {p : Program} {l : Launch} (hl : l.stackTraces = false) {e : Env} {s : State} {m : MethodId} {args : Array Value} {below : List Frame} {meth : Method} {c : Code} {D : va_G} {E : Nat → ClassId} {sz : Nat} {μ0 : MP} {ν0 : NC} {a0 : AS} {Ad0 : Nat → Nat → Nat} {Q : Nat → Nat} {B : Nat × (Nat → Nat)} {w : Nat} {r0 : ((MP × NC) × AS) × Int32} (C : cx p s m args meth c D E (Aof (zS μ0 ν0 a0 Ad0) [] s.heap.size) cL_isTold 22 "TradeLineLaw") (hEv : eV (Ad0 30 0) (Ad0 31 0) B (Aof (zS μ0 ν0 a0 Ad0) [] s.heap.size) s s.heap) (hN : vN s) (hr : meth.sig.returnType = (some .boolean)) (hz : s.heap.size = sz) (hI0 : lwI ν0) (hQ0 : lwQ Ad0 Q) {μ : MP} {ν : NC} {a : AS} {Ad : Nat → Nat → Nat} (hm0 : mn ν0 ν) (hp0 : kp ν0 Ad0 Ad) {x1 : Int32} {x14 : Int32} {x15 : Int32} {s0 : Int32} {k3 : MP → NC → AS → Int32 → Int32 → Option (((MP × NC) × AS) × Int32)} (hmk3 : ∀ (μ : MP) (ν : NC) (a : AS) (z1 : Int32) (z14 : Int32), k3 μ ν a z1 z14 = some r0 → mn ν r0.1.1.2) (hk3 : ∀ (μ : MP) (ν : NC) (a : AS) (Ad : Nat → Nat → Nat) (z1 : Int32) (z14 : Int32), mn ν0 ν → kp ν0 Ad0 Ad → k3 μ ν a z1 z14 = some r0 → G p l e ({ frames := 11, cells := kc r0.1.1.2 - kc ν0, slots := ks r0.1.1.2 - ks ν0, locals := 229 } : Room) s m args below meth c D E (Aof (zS μ0 ν0 a0 Ad0) [] s.heap.size) 22 (MQ below (cQ D E sz (zS μ0 ν0 a0 Ad0) [] (pI (fun r u => r = r0.2 ∧ ∃ A1, u = (zS r0.1.1.1 r0.1.1.2 r0.1.2 A1, []) ∧ kp ν0 Ad0 A1))) args s (kc r0.1.1.2 - kc ν0) (ks r0.1.1.2 - ks ν0) (Aof (zS μ0 ν0 a0 Ad0) [] s.heap.size)) (zS μ ν a Ad) [] (kc ν - kc ν0) (ks ν - ks ν0) 3 [(0, .ref (Q 0)), (1, .int z1), (2, .ref (Q 1)), (3, .ref (Q 4)), (4, .ref (Q 5)), (5, .ref (Q 6)), (6, .ref (Q 7)), (8, .ref (Q 9)), (9, .ref (Q 10)), (10, .ref (Q 11)), (11, .ref (Q 12)), (12, .ref (Q 13)), (13, .ref (Q 14)), (14, .int z14)] []) (h : b_L_isTold_124 k3 w μ ν a x1 x14 x15 s0 = some r0) : G p l e ({ frames := 11, cells := kc r0.1.1.2 - kc ν0, slots := ks r0.1.1.2 - ks ν0, locals := 229 } : Room) s m args below meth c D E (Aof (zS μ0 ν0 a0 Ad0) [] s.heap.size) 22 (MQ below (cQ D E sz (zS μ0 ν0 a0 Ad0) [] (pI (fun r u => r = r0.2 ∧ ∃ A1, u = (zS r0.1.1.1 r0.1.1.2 r0.1.2 A1, []) ∧ kp ν0 Ad0 A1))) args s (kc r0.1.1.2 - kc ν0) (ks r0.1.1.2 - ks ν0) (Aof (zS μ0 ν0 a0 Ad0) [] s.heap.size)) (zS μ ν a Ad) [] (kc ν - kc ν0) (ks ν - ks ν0) 124 [(0, .ref (Q 0)), (1, .int x1), (2, .ref (Q 1)), (3, .ref (Q 4)), (4, .ref (Q 5)), (5, .ref (Q 6)), (6, .ref (Q 7)), (8, .ref (Q 9)), (9, .ref (Q 10)), (10, .ref (Q 11)), (11, .ref (Q 12)), (12, .ref (Q 13)), (13, .ref (Q 14)), (14, .int x14), (15, .int x15)] [.int s0] := by
  have m0 := mb_L_isTold_124 hmk3 h
  have e1 := m0.2.1; have e2 := m0.2.2.1; have e3 := hm0.2.1; have e4 := hm0.2.2.1
  have hI := lwI_mn hI0 hm0; have hQ := lwQ_kp hI0 hp0 hQ0
  unfold b_L_isTold_124 at h
  refine g_iload C dL_isTold_124 14 rfl ?_
  refine g_icmp_ne (tgt := 162) C dL_isTold_126 (by decide) (fun c126 => ?_) (fun c126 => ?_)
  · replace h := (if_neg c126).symm.trans h
    refine g_iconst (v := (0 : Int32)) C dL_isTold_162 (by decide) ?_
    obtain rfl := Option.some.inj h
    exact g_iret C hr rfl hz ⟨(hm0.2.2.2 30 (by decide) (by decide)).1, (hm0.2.2.2 31 (by decide) (by decide)).1, hp0.2.1, hp0.2.2⟩ ⟨rfl, Ad, rfl, hp0⟩ (fun j x h => by simp at h) dL_isTold_163
  · replace h := (if_pos c126).symm.trans h
    refine g_aload_n C dL_isTold_129 rfl 0 rfl ?_
    refine g_iload C dL_isTold_130 13 rfl ?_
    refine g_iconst (v := (0 : Int32)) C dL_isTold_132 (by decide) ?_
    obtain ⟨v87, hv87, h⟩ := bind_of h
    have m2 := m_L_fields hv87
    have m3 := mb_L_isTold_136 hmk3 h
    have a1 := hm0.2.1; have a2 := hm0.2.2.1; have b1 := m2.2.1; have b2 := m2.2.2.1; have d1 := m3.2.1; have d2 := m3.2.2.1
    refine g_cSh (n := 3) (exr := []) C hEv hN ⟨hp0.2.1 0, hp0.2.2 0⟩ [_, _, _] _ rfl rfl [] rfl rfl (fun sz => wc_L_fields l hl B _ ν _ Ad Q hI hQ w _ _ _ hv87 D E sz) rfl gh_fields gw_0 gw_1252 gw_1253 ⟨by decide +kernel, by decide +kernel, by decide +kernel⟩ ⟨rfl, rfl⟩ ⟨Nat.le_of_ble_eq_true rfl, Nat.le_of_ble_eq_true rfl⟩ (Nat.le_of_ble_eq_true rfl) dL_isTold_133 ⟨by show (kc ν - kc ν0) + (kc v87.1.2 - kc ν) ≤ kc r0.1.1.2 - kc ν0; omega, by show (ks ν - ks ν0) + (ks v87.1.2 - ks ν) ≤ ks r0.1.1.2 - ks ν0; omega⟩ (fun r u hp hx => ?_)
    obtain ⟨er, A1, rfl, hkp⟩ := hp
    rw [er]
    try dsimp only [List.append_nil]
    refine g_widen (k := kc v87.1.2 - kc ν0) (n := ks v87.1.2 - ks ν0) (by omega) (by omega) ?_
    refine g_lv [0, 1, 2, 3, 4, 5, 6, 7, 8, 9, 10, 11, 12, 13] rfl ?_
    exact lb_L_isTold_136 hl C hEv hN hr hz hI0 hQ0 (mn_trans hm0 m2) (kp_trans hp0 hm0 hkp) hmk3 hk3 h
noncomputable def b_L_isTold_108 (k3 : MP → NC → AS → Int32 → Int32 → Option (((MP × NC) × AS) × Int32)) (w : Nat) (μ : MP) (ν : NC) (a : AS) (x1 : Int32) (x14 : Int32) (x15 : Int32) (s0 : Int32) : Option (((MP × NC) × AS) × Int32) := bif ixB ((16 : Int32) + x14) 22 then (if s0 = (a 1 ((16 : Int32) + x14).toNatClampNeg) then ((f_L_held w μ ν x14).bind (fun v86 => b_L_isTold_124 k3 w v86.1.1 v86.1.2 a x1 x14 x15 v86.2)) else (some (((μ, ν), a), (0 : Int32)))) else none
theorem mb_L_isTold_108 {w : Nat} {μ : MP} {ν : NC} {a : AS} {x1 : Int32} {x14 : Int32} {x15 : Int32} {s0 : Int32} {r0 : ((MP × NC) × AS) × Int32} {k3 : MP → NC → AS → Int32 → Int32 → Option (((MP × NC) × AS) × Int32)} (hmk3 : ∀ (μ : MP) (ν : NC) (a : AS) (z1 : Int32) (z14 : Int32), k3 μ ν a z1 z14 = some r0 → mn ν r0.1.1.2) (h : b_L_isTold_108 k3 w μ ν a x1 x14 x15 s0 = some r0) : mn ν r0.1.1.2 := by
  unfold b_L_isTold_108 at h
  replace h := (of_guard h).2
  by_cases c115 : s0 = (a 1 ((16 : Int32) + x14).toNatClampNeg)
  · replace h := (if_pos c115).symm.trans h
    obtain ⟨v86, hv86, h⟩ := bind_of h
    exact mn_trans (m_L_held hv86) (mb_L_isTold_124 hmk3 h)
  · replace h := (if_neg c115).symm.trans h
    obtain rfl := Option.some.inj h
    exact mn_rfl _
set_option maxHeartbeats 4000000 in
set_option maxRecDepth 100000 in
theorem lb_L_isTold_108 {p : Program} {l : Launch} (hl : l.stackTraces = false) {e : Env} {s : State} {m : MethodId} {args : Array Value} {below : List Frame} {meth : Method} {c : Code} {D : va_G} {E : Nat → ClassId} {sz : Nat} {μ0 : MP} {ν0 : NC} {a0 : AS} {Ad0 : Nat → Nat → Nat} {Q : Nat → Nat} {B : Nat × (Nat → Nat)} {w : Nat} {r0 : ((MP × NC) × AS) × Int32} (C : cx p s m args meth c D E (Aof (zS μ0 ν0 a0 Ad0) [] s.heap.size) cL_isTold 22 "TradeLineLaw") (hEv : eV (Ad0 30 0) (Ad0 31 0) B (Aof (zS μ0 ν0 a0 Ad0) [] s.heap.size) s s.heap) (hN : vN s) (hr : meth.sig.returnType = (some .boolean)) (hz : s.heap.size = sz) (hI0 : lwI ν0) (hQ0 : lwQ Ad0 Q) {μ : MP} {ν : NC} {a : AS} {Ad : Nat → Nat → Nat} (hm0 : mn ν0 ν) (hp0 : kp ν0 Ad0 Ad) {x1 : Int32} {x14 : Int32} {x15 : Int32} {s0 : Int32} {k3 : MP → NC → AS → Int32 → Int32 → Option (((MP × NC) × AS) × Int32)} (hmk3 : ∀ (μ : MP) (ν : NC) (a : AS) (z1 : Int32) (z14 : Int32), k3 μ ν a z1 z14 = some r0 → mn ν r0.1.1.2) (hk3 : ∀ (μ : MP) (ν : NC) (a : AS) (Ad : Nat → Nat → Nat) (z1 : Int32) (z14 : Int32), mn ν0 ν → kp ν0 Ad0 Ad → k3 μ ν a z1 z14 = some r0 → G p l e ({ frames := 11, cells := kc r0.1.1.2 - kc ν0, slots := ks r0.1.1.2 - ks ν0, locals := 229 } : Room) s m args below meth c D E (Aof (zS μ0 ν0 a0 Ad0) [] s.heap.size) 22 (MQ below (cQ D E sz (zS μ0 ν0 a0 Ad0) [] (pI (fun r u => r = r0.2 ∧ ∃ A1, u = (zS r0.1.1.1 r0.1.1.2 r0.1.2 A1, []) ∧ kp ν0 Ad0 A1))) args s (kc r0.1.1.2 - kc ν0) (ks r0.1.1.2 - ks ν0) (Aof (zS μ0 ν0 a0 Ad0) [] s.heap.size)) (zS μ ν a Ad) [] (kc ν - kc ν0) (ks ν - ks ν0) 3 [(0, .ref (Q 0)), (1, .int z1), (2, .ref (Q 1)), (3, .ref (Q 4)), (4, .ref (Q 5)), (5, .ref (Q 6)), (6, .ref (Q 7)), (8, .ref (Q 9)), (9, .ref (Q 10)), (10, .ref (Q 11)), (11, .ref (Q 12)), (12, .ref (Q 13)), (13, .ref (Q 14)), (14, .int z14)] []) (h : b_L_isTold_108 k3 w μ ν a x1 x14 x15 s0 = some r0) : G p l e ({ frames := 11, cells := kc r0.1.1.2 - kc ν0, slots := ks r0.1.1.2 - ks ν0, locals := 229 } : Room) s m args below meth c D E (Aof (zS μ0 ν0 a0 Ad0) [] s.heap.size) 22 (MQ below (cQ D E sz (zS μ0 ν0 a0 Ad0) [] (pI (fun r u => r = r0.2 ∧ ∃ A1, u = (zS r0.1.1.1 r0.1.1.2 r0.1.2 A1, []) ∧ kp ν0 Ad0 A1))) args s (kc r0.1.1.2 - kc ν0) (ks r0.1.1.2 - ks ν0) (Aof (zS μ0 ν0 a0 Ad0) [] s.heap.size)) (zS μ ν a Ad) [] (kc ν - kc ν0) (ks ν - ks ν0) 108 [(0, .ref (Q 0)), (1, .int x1), (2, .ref (Q 1)), (3, .ref (Q 4)), (4, .ref (Q 5)), (5, .ref (Q 6)), (6, .ref (Q 7)), (8, .ref (Q 9)), (9, .ref (Q 10)), (10, .ref (Q 11)), (11, .ref (Q 12)), (12, .ref (Q 13)), (13, .ref (Q 14)), (14, .int x14), (15, .int x15)] [.int s0] := by
  have m0 := mb_L_isTold_108 hmk3 h
  have e1 := m0.2.1; have e2 := m0.2.2.1; have e3 := hm0.2.1; have e4 := hm0.2.2.1
  have hI := lwI_mn hI0 hm0; have hQ := lwQ_kp hI0 hp0 hQ0
  unfold b_L_isTold_108 at h
  refine g_aload_n C dL_isTold_108 rfl 2 rfl ?_
  refine g_bipush (v := (16 : Int32)) C dL_isTold_109 (by decide) ?_
  refine g_iload C dL_isTold_111 13 rfl ?_
  refine g_iadd C dL_isTold_113 ?_
  obtain ⟨g85, h⟩ := of_guard h
  refine q_iald C (show rsh (ν.1, μ.2, ν.2, Ad) from hI.2) (j := 1) (N := 22) (by decide) (lwQ_i hQ (j := 1) (N := 22) (by decide)) g85 dL_isTold_114 ?_
  refine g_icmp_ne (tgt := 162) C dL_isTold_115 (by decide) (fun c115 => ?_) (fun c115 => ?_)
  · replace h := (if_neg c115).symm.trans h
    refine g_iconst (v := (0 : Int32)) C dL_isTold_162 (by decide) ?_
    obtain rfl := Option.some.inj h
    exact g_iret C hr rfl hz ⟨(hm0.2.2.2 30 (by decide) (by decide)).1, (hm0.2.2.2 31 (by decide) (by decide)).1, hp0.2.1, hp0.2.2⟩ ⟨rfl, Ad, rfl, hp0⟩ (fun j x h => by simp at h) dL_isTold_163
  · replace h := (if_pos c115).symm.trans h
    refine g_aload_n C dL_isTold_118 rfl 0 rfl ?_
    refine g_iload C dL_isTold_119 13 rfl ?_
    obtain ⟨v86, hv86, h⟩ := bind_of h
    have m2 := m_L_held hv86
    have m3 := mb_L_isTold_124 hmk3 h
    have a1 := hm0.2.1; have a2 := hm0.2.2.1; have b1 := m2.2.1; have b2 := m2.2.2.1; have d1 := m3.2.1; have d2 := m3.2.2.1
    refine g_cSh (n := 2) (exr := []) C hEv hN ⟨hp0.2.1 0, hp0.2.2 0⟩ [_, _] _ rfl rfl [] rfl rfl (fun sz => wc_L_held l hl B _ ν _ Ad Q hI hQ w _ _ hv86 D E sz) rfl gh_held gw_0 gw_1245 gw_1246 ⟨by decide +kernel, by decide +kernel, by decide +kernel⟩ ⟨rfl, rfl⟩ ⟨Nat.le_of_ble_eq_true rfl, Nat.le_of_ble_eq_true rfl⟩ (Nat.le_of_ble_eq_true rfl) dL_isTold_121 ⟨by show (kc ν - kc ν0) + (kc v86.1.2 - kc ν) ≤ kc r0.1.1.2 - kc ν0; omega, by show (ks ν - ks ν0) + (ks v86.1.2 - ks ν) ≤ ks r0.1.1.2 - ks ν0; omega⟩ (fun r u hp hx => ?_)
    obtain ⟨er, A1, rfl, hkp⟩ := hp
    rw [er]
    try dsimp only [List.append_nil]
    refine g_widen (k := kc v86.1.2 - kc ν0) (n := ks v86.1.2 - ks ν0) (by omega) (by omega) ?_
    refine g_lv [0, 1, 2, 3, 4, 5, 6, 7, 8, 9, 10, 11, 12, 13, 14] rfl ?_
    exact lb_L_isTold_124 hl C hEv hN hr hz hI0 hQ0 (mn_trans hm0 m2) (kp_trans hp0 hm0 hkp) hmk3 hk3 h
noncomputable def b_L_isTold_92 (k3 : MP → NC → AS → Int32 → Int32 → Option (((MP × NC) × AS) × Int32)) (w : Nat) (μ : MP) (ν : NC) (a : AS) (x1 : Int32) (x14 : Int32) (x15 : Int32) (s0 : Int32) : Option (((MP × NC) × AS) × Int32) := bif ixB ((6 : Int32) + x14) 22 then (if s0 = (a 1 ((6 : Int32) + x14).toNatClampNeg) then ((f_L_onWay w μ ν x14).bind (fun v84 => b_L_isTold_108 k3 w v84.1.1 v84.1.2 a x1 x14 x15 v84.2)) else (some (((μ, ν), a), (0 : Int32)))) else none
theorem mb_L_isTold_92 {w : Nat} {μ : MP} {ν : NC} {a : AS} {x1 : Int32} {x14 : Int32} {x15 : Int32} {s0 : Int32} {r0 : ((MP × NC) × AS) × Int32} {k3 : MP → NC → AS → Int32 → Int32 → Option (((MP × NC) × AS) × Int32)} (hmk3 : ∀ (μ : MP) (ν : NC) (a : AS) (z1 : Int32) (z14 : Int32), k3 μ ν a z1 z14 = some r0 → mn ν r0.1.1.2) (h : b_L_isTold_92 k3 w μ ν a x1 x14 x15 s0 = some r0) : mn ν r0.1.1.2 := by
  unfold b_L_isTold_92 at h
  replace h := (of_guard h).2
  by_cases c99 : s0 = (a 1 ((6 : Int32) + x14).toNatClampNeg)
  · replace h := (if_pos c99).symm.trans h
    obtain ⟨v84, hv84, h⟩ := bind_of h
    exact mn_trans (m_L_onWay hv84) (mb_L_isTold_108 hmk3 h)
  · replace h := (if_neg c99).symm.trans h
    obtain rfl := Option.some.inj h
    exact mn_rfl _
set_option maxHeartbeats 4000000 in
set_option maxRecDepth 100000 in
theorem lb_L_isTold_92 {p : Program} {l : Launch} (hl : l.stackTraces = false) {e : Env} {s : State} {m : MethodId} {args : Array Value} {below : List Frame} {meth : Method} {c : Code} {D : va_G} {E : Nat → ClassId} {sz : Nat} {μ0 : MP} {ν0 : NC} {a0 : AS} {Ad0 : Nat → Nat → Nat} {Q : Nat → Nat} {B : Nat × (Nat → Nat)} {w : Nat} {r0 : ((MP × NC) × AS) × Int32} (C : cx p s m args meth c D E (Aof (zS μ0 ν0 a0 Ad0) [] s.heap.size) cL_isTold 22 "TradeLineLaw") (hEv : eV (Ad0 30 0) (Ad0 31 0) B (Aof (zS μ0 ν0 a0 Ad0) [] s.heap.size) s s.heap) (hN : vN s) (hr : meth.sig.returnType = (some .boolean)) (hz : s.heap.size = sz) (hI0 : lwI ν0) (hQ0 : lwQ Ad0 Q) {μ : MP} {ν : NC} {a : AS} {Ad : Nat → Nat → Nat} (hm0 : mn ν0 ν) (hp0 : kp ν0 Ad0 Ad) {x1 : Int32} {x14 : Int32} {x15 : Int32} {s0 : Int32} {k3 : MP → NC → AS → Int32 → Int32 → Option (((MP × NC) × AS) × Int32)} (hmk3 : ∀ (μ : MP) (ν : NC) (a : AS) (z1 : Int32) (z14 : Int32), k3 μ ν a z1 z14 = some r0 → mn ν r0.1.1.2) (hk3 : ∀ (μ : MP) (ν : NC) (a : AS) (Ad : Nat → Nat → Nat) (z1 : Int32) (z14 : Int32), mn ν0 ν → kp ν0 Ad0 Ad → k3 μ ν a z1 z14 = some r0 → G p l e ({ frames := 11, cells := kc r0.1.1.2 - kc ν0, slots := ks r0.1.1.2 - ks ν0, locals := 229 } : Room) s m args below meth c D E (Aof (zS μ0 ν0 a0 Ad0) [] s.heap.size) 22 (MQ below (cQ D E sz (zS μ0 ν0 a0 Ad0) [] (pI (fun r u => r = r0.2 ∧ ∃ A1, u = (zS r0.1.1.1 r0.1.1.2 r0.1.2 A1, []) ∧ kp ν0 Ad0 A1))) args s (kc r0.1.1.2 - kc ν0) (ks r0.1.1.2 - ks ν0) (Aof (zS μ0 ν0 a0 Ad0) [] s.heap.size)) (zS μ ν a Ad) [] (kc ν - kc ν0) (ks ν - ks ν0) 3 [(0, .ref (Q 0)), (1, .int z1), (2, .ref (Q 1)), (3, .ref (Q 4)), (4, .ref (Q 5)), (5, .ref (Q 6)), (6, .ref (Q 7)), (8, .ref (Q 9)), (9, .ref (Q 10)), (10, .ref (Q 11)), (11, .ref (Q 12)), (12, .ref (Q 13)), (13, .ref (Q 14)), (14, .int z14)] []) (h : b_L_isTold_92 k3 w μ ν a x1 x14 x15 s0 = some r0) : G p l e ({ frames := 11, cells := kc r0.1.1.2 - kc ν0, slots := ks r0.1.1.2 - ks ν0, locals := 229 } : Room) s m args below meth c D E (Aof (zS μ0 ν0 a0 Ad0) [] s.heap.size) 22 (MQ below (cQ D E sz (zS μ0 ν0 a0 Ad0) [] (pI (fun r u => r = r0.2 ∧ ∃ A1, u = (zS r0.1.1.1 r0.1.1.2 r0.1.2 A1, []) ∧ kp ν0 Ad0 A1))) args s (kc r0.1.1.2 - kc ν0) (ks r0.1.1.2 - ks ν0) (Aof (zS μ0 ν0 a0 Ad0) [] s.heap.size)) (zS μ ν a Ad) [] (kc ν - kc ν0) (ks ν - ks ν0) 92 [(0, .ref (Q 0)), (1, .int x1), (2, .ref (Q 1)), (3, .ref (Q 4)), (4, .ref (Q 5)), (5, .ref (Q 6)), (6, .ref (Q 7)), (8, .ref (Q 9)), (9, .ref (Q 10)), (10, .ref (Q 11)), (11, .ref (Q 12)), (12, .ref (Q 13)), (13, .ref (Q 14)), (14, .int x14), (15, .int x15)] [.int s0] := by
  have m0 := mb_L_isTold_92 hmk3 h
  have e1 := m0.2.1; have e2 := m0.2.2.1; have e3 := hm0.2.1; have e4 := hm0.2.2.1
  have hI := lwI_mn hI0 hm0; have hQ := lwQ_kp hI0 hp0 hQ0
  unfold b_L_isTold_92 at h
  refine g_aload_n C dL_isTold_92 rfl 2 rfl ?_
  refine g_bipush (v := (6 : Int32)) C dL_isTold_93 (by decide) ?_
  refine g_iload C dL_isTold_95 13 rfl ?_
  refine g_iadd C dL_isTold_97 ?_
  obtain ⟨g83, h⟩ := of_guard h
  refine q_iald C (show rsh (ν.1, μ.2, ν.2, Ad) from hI.2) (j := 1) (N := 22) (by decide) (lwQ_i hQ (j := 1) (N := 22) (by decide)) g83 dL_isTold_98 ?_
  refine g_icmp_ne (tgt := 162) C dL_isTold_99 (by decide) (fun c99 => ?_) (fun c99 => ?_)
  · replace h := (if_neg c99).symm.trans h
    refine g_iconst (v := (0 : Int32)) C dL_isTold_162 (by decide) ?_
    obtain rfl := Option.some.inj h
    exact g_iret C hr rfl hz ⟨(hm0.2.2.2 30 (by decide) (by decide)).1, (hm0.2.2.2 31 (by decide) (by decide)).1, hp0.2.1, hp0.2.2⟩ ⟨rfl, Ad, rfl, hp0⟩ (fun j x h => by simp at h) dL_isTold_163
  · replace h := (if_pos c99).symm.trans h
    refine g_aload_n C dL_isTold_102 rfl 0 rfl ?_
    refine g_iload C dL_isTold_103 13 rfl ?_
    obtain ⟨v84, hv84, h⟩ := bind_of h
    have m2 := m_L_onWay hv84
    have m3 := mb_L_isTold_108 hmk3 h
    have a1 := hm0.2.1; have a2 := hm0.2.2.1; have b1 := m2.2.1; have b2 := m2.2.2.1; have d1 := m3.2.1; have d2 := m3.2.2.1
    refine g_cSh (n := 2) (exr := []) C hEv hN ⟨hp0.2.1 0, hp0.2.2 0⟩ [_, _] _ rfl rfl [] rfl rfl (fun sz => wc_L_onWay l hl B _ ν _ Ad Q hI hQ w _ _ hv84 D E sz) rfl gh_onWay gw_0 gw_1238 gw_1239 ⟨by decide +kernel, by decide +kernel, by decide +kernel⟩ ⟨rfl, rfl⟩ ⟨Nat.le_of_ble_eq_true rfl, Nat.le_of_ble_eq_true rfl⟩ (Nat.le_of_ble_eq_true rfl) dL_isTold_105 ⟨by show (kc ν - kc ν0) + (kc v84.1.2 - kc ν) ≤ kc r0.1.1.2 - kc ν0; omega, by show (ks ν - ks ν0) + (ks v84.1.2 - ks ν) ≤ ks r0.1.1.2 - ks ν0; omega⟩ (fun r u hp hx => ?_)
    obtain ⟨er, A1, rfl, hkp⟩ := hp
    rw [er]
    try dsimp only [List.append_nil]
    refine g_widen (k := kc v84.1.2 - kc ν0) (n := ks v84.1.2 - ks ν0) (by omega) (by omega) ?_
    refine g_lv [0, 1, 2, 3, 4, 5, 6, 7, 8, 9, 10, 11, 12, 13, 14] rfl ?_
    exact lb_L_isTold_108 hl C hEv hN hr hz hI0 hQ0 (mn_trans hm0 m2) (kp_trans hp0 hm0 hkp) hmk3 hk3 h
noncomputable def b_L_isTold_77 (k3 : MP → NC → AS → Int32 → Int32 → Option (((MP × NC) × AS) × Int32)) (w : Nat) (μ : MP) (ν : NC) (a : AS) (x1 : Int32) (x14 : Int32) (x15 : Int32) (s0 : Int32) : Option (((MP × NC) × AS) × Int32) := bif ixB ((4 : Int32) + x14) 22 then (if s0 = (a 1 ((4 : Int32) + x14).toNatClampNeg) then ((f_L_expected w μ ν x14).bind (fun v82 => b_L_isTold_92 k3 w v82.1.1 v82.1.2 a x1 x14 x15 v82.2)) else (some (((μ, ν), a), (0 : Int32)))) else none
theorem mb_L_isTold_77 {w : Nat} {μ : MP} {ν : NC} {a : AS} {x1 : Int32} {x14 : Int32} {x15 : Int32} {s0 : Int32} {r0 : ((MP × NC) × AS) × Int32} {k3 : MP → NC → AS → Int32 → Int32 → Option (((MP × NC) × AS) × Int32)} (hmk3 : ∀ (μ : MP) (ν : NC) (a : AS) (z1 : Int32) (z14 : Int32), k3 μ ν a z1 z14 = some r0 → mn ν r0.1.1.2) (h : b_L_isTold_77 k3 w μ ν a x1 x14 x15 s0 = some r0) : mn ν r0.1.1.2 := by
  unfold b_L_isTold_77 at h
  replace h := (of_guard h).2
  by_cases c83 : s0 = (a 1 ((4 : Int32) + x14).toNatClampNeg)
  · replace h := (if_pos c83).symm.trans h
    obtain ⟨v82, hv82, h⟩ := bind_of h
    exact mn_trans (m_L_expected hv82) (mb_L_isTold_92 hmk3 h)
  · replace h := (if_neg c83).symm.trans h
    obtain rfl := Option.some.inj h
    exact mn_rfl _
set_option maxHeartbeats 4000000 in
set_option maxRecDepth 100000 in
theorem lb_L_isTold_77 {p : Program} {l : Launch} (hl : l.stackTraces = false) {e : Env} {s : State} {m : MethodId} {args : Array Value} {below : List Frame} {meth : Method} {c : Code} {D : va_G} {E : Nat → ClassId} {sz : Nat} {μ0 : MP} {ν0 : NC} {a0 : AS} {Ad0 : Nat → Nat → Nat} {Q : Nat → Nat} {B : Nat × (Nat → Nat)} {w : Nat} {r0 : ((MP × NC) × AS) × Int32} (C : cx p s m args meth c D E (Aof (zS μ0 ν0 a0 Ad0) [] s.heap.size) cL_isTold 22 "TradeLineLaw") (hEv : eV (Ad0 30 0) (Ad0 31 0) B (Aof (zS μ0 ν0 a0 Ad0) [] s.heap.size) s s.heap) (hN : vN s) (hr : meth.sig.returnType = (some .boolean)) (hz : s.heap.size = sz) (hI0 : lwI ν0) (hQ0 : lwQ Ad0 Q) {μ : MP} {ν : NC} {a : AS} {Ad : Nat → Nat → Nat} (hm0 : mn ν0 ν) (hp0 : kp ν0 Ad0 Ad) {x1 : Int32} {x14 : Int32} {x15 : Int32} {s0 : Int32} {k3 : MP → NC → AS → Int32 → Int32 → Option (((MP × NC) × AS) × Int32)} (hmk3 : ∀ (μ : MP) (ν : NC) (a : AS) (z1 : Int32) (z14 : Int32), k3 μ ν a z1 z14 = some r0 → mn ν r0.1.1.2) (hk3 : ∀ (μ : MP) (ν : NC) (a : AS) (Ad : Nat → Nat → Nat) (z1 : Int32) (z14 : Int32), mn ν0 ν → kp ν0 Ad0 Ad → k3 μ ν a z1 z14 = some r0 → G p l e ({ frames := 11, cells := kc r0.1.1.2 - kc ν0, slots := ks r0.1.1.2 - ks ν0, locals := 229 } : Room) s m args below meth c D E (Aof (zS μ0 ν0 a0 Ad0) [] s.heap.size) 22 (MQ below (cQ D E sz (zS μ0 ν0 a0 Ad0) [] (pI (fun r u => r = r0.2 ∧ ∃ A1, u = (zS r0.1.1.1 r0.1.1.2 r0.1.2 A1, []) ∧ kp ν0 Ad0 A1))) args s (kc r0.1.1.2 - kc ν0) (ks r0.1.1.2 - ks ν0) (Aof (zS μ0 ν0 a0 Ad0) [] s.heap.size)) (zS μ ν a Ad) [] (kc ν - kc ν0) (ks ν - ks ν0) 3 [(0, .ref (Q 0)), (1, .int z1), (2, .ref (Q 1)), (3, .ref (Q 4)), (4, .ref (Q 5)), (5, .ref (Q 6)), (6, .ref (Q 7)), (8, .ref (Q 9)), (9, .ref (Q 10)), (10, .ref (Q 11)), (11, .ref (Q 12)), (12, .ref (Q 13)), (13, .ref (Q 14)), (14, .int z14)] []) (h : b_L_isTold_77 k3 w μ ν a x1 x14 x15 s0 = some r0) : G p l e ({ frames := 11, cells := kc r0.1.1.2 - kc ν0, slots := ks r0.1.1.2 - ks ν0, locals := 229 } : Room) s m args below meth c D E (Aof (zS μ0 ν0 a0 Ad0) [] s.heap.size) 22 (MQ below (cQ D E sz (zS μ0 ν0 a0 Ad0) [] (pI (fun r u => r = r0.2 ∧ ∃ A1, u = (zS r0.1.1.1 r0.1.1.2 r0.1.2 A1, []) ∧ kp ν0 Ad0 A1))) args s (kc r0.1.1.2 - kc ν0) (ks r0.1.1.2 - ks ν0) (Aof (zS μ0 ν0 a0 Ad0) [] s.heap.size)) (zS μ ν a Ad) [] (kc ν - kc ν0) (ks ν - ks ν0) 77 [(0, .ref (Q 0)), (1, .int x1), (2, .ref (Q 1)), (3, .ref (Q 4)), (4, .ref (Q 5)), (5, .ref (Q 6)), (6, .ref (Q 7)), (8, .ref (Q 9)), (9, .ref (Q 10)), (10, .ref (Q 11)), (11, .ref (Q 12)), (12, .ref (Q 13)), (13, .ref (Q 14)), (14, .int x14), (15, .int x15)] [.int s0] := by
  have m0 := mb_L_isTold_77 hmk3 h
  have e1 := m0.2.1; have e2 := m0.2.2.1; have e3 := hm0.2.1; have e4 := hm0.2.2.1
  have hI := lwI_mn hI0 hm0; have hQ := lwQ_kp hI0 hp0 hQ0
  unfold b_L_isTold_77 at h
  refine g_aload_n C dL_isTold_77 rfl 2 rfl ?_
  refine g_iconst (v := (4 : Int32)) C dL_isTold_78 (by decide) ?_
  refine g_iload C dL_isTold_79 13 rfl ?_
  refine g_iadd C dL_isTold_81 ?_
  obtain ⟨g81, h⟩ := of_guard h
  refine q_iald C (show rsh (ν.1, μ.2, ν.2, Ad) from hI.2) (j := 1) (N := 22) (by decide) (lwQ_i hQ (j := 1) (N := 22) (by decide)) g81 dL_isTold_82 ?_
  refine g_icmp_ne (tgt := 162) C dL_isTold_83 (by decide) (fun c83 => ?_) (fun c83 => ?_)
  · replace h := (if_neg c83).symm.trans h
    refine g_iconst (v := (0 : Int32)) C dL_isTold_162 (by decide) ?_
    obtain rfl := Option.some.inj h
    exact g_iret C hr rfl hz ⟨(hm0.2.2.2 30 (by decide) (by decide)).1, (hm0.2.2.2 31 (by decide) (by decide)).1, hp0.2.1, hp0.2.2⟩ ⟨rfl, Ad, rfl, hp0⟩ (fun j x h => by simp at h) dL_isTold_163
  · replace h := (if_pos c83).symm.trans h
    refine g_aload_n C dL_isTold_86 rfl 0 rfl ?_
    refine g_iload C dL_isTold_87 13 rfl ?_
    obtain ⟨v82, hv82, h⟩ := bind_of h
    have m2 := m_L_expected hv82
    have m3 := mb_L_isTold_92 hmk3 h
    have a1 := hm0.2.1; have a2 := hm0.2.2.1; have b1 := m2.2.1; have b2 := m2.2.2.1; have d1 := m3.2.1; have d2 := m3.2.2.1
    refine g_cSh (n := 2) (exr := []) C hEv hN ⟨hp0.2.1 0, hp0.2.2 0⟩ [_, _] _ rfl rfl [] rfl rfl (fun sz => wc_L_expected l hl B _ ν _ Ad Q hI hQ w _ _ hv82 D E sz) rfl gh_expected gw_0 gw_1231 gw_1232 ⟨by decide +kernel, by decide +kernel, by decide +kernel⟩ ⟨rfl, rfl⟩ ⟨Nat.le_of_ble_eq_true rfl, Nat.le_of_ble_eq_true rfl⟩ (Nat.le_of_ble_eq_true rfl) dL_isTold_89 ⟨by show (kc ν - kc ν0) + (kc v82.1.2 - kc ν) ≤ kc r0.1.1.2 - kc ν0; omega, by show (ks ν - ks ν0) + (ks v82.1.2 - ks ν) ≤ ks r0.1.1.2 - ks ν0; omega⟩ (fun r u hp hx => ?_)
    obtain ⟨er, A1, rfl, hkp⟩ := hp
    rw [er]
    try dsimp only [List.append_nil]
    refine g_widen (k := kc v82.1.2 - kc ν0) (n := ks v82.1.2 - ks ν0) (by omega) (by omega) ?_
    refine g_lv [0, 1, 2, 3, 4, 5, 6, 7, 8, 9, 10, 11, 12, 13, 14] rfl ?_
    exact lb_L_isTold_92 hl C hEv hN hr hz hI0 hQ0 (mn_trans hm0 m2) (kp_trans hp0 hm0 hkp) hmk3 hk3 h
noncomputable def b_L_isTold_62 (k3 : MP → NC → AS → Int32 → Int32 → Option (((MP × NC) × AS) × Int32)) (w : Nat) (μ : MP) (ν : NC) (a : AS) (x1 : Int32) (x14 : Int32) (x15 : Int32) (s0 : Int32) : Option (((MP × NC) × AS) × Int32) := bif ixB ((2 : Int32) + x14) 22 then (if s0 = (a 1 ((2 : Int32) + x14).toNatClampNeg) then ((f_L_sent w μ ν x14).bind (fun v80 => b_L_isTold_77 k3 w v80.1.1 v80.1.2 a x1 x14 x15 v80.2)) else (some (((μ, ν), a), (0 : Int32)))) else none
theorem mb_L_isTold_62 {w : Nat} {μ : MP} {ν : NC} {a : AS} {x1 : Int32} {x14 : Int32} {x15 : Int32} {s0 : Int32} {r0 : ((MP × NC) × AS) × Int32} {k3 : MP → NC → AS → Int32 → Int32 → Option (((MP × NC) × AS) × Int32)} (hmk3 : ∀ (μ : MP) (ν : NC) (a : AS) (z1 : Int32) (z14 : Int32), k3 μ ν a z1 z14 = some r0 → mn ν r0.1.1.2) (h : b_L_isTold_62 k3 w μ ν a x1 x14 x15 s0 = some r0) : mn ν r0.1.1.2 := by
  unfold b_L_isTold_62 at h
  replace h := (of_guard h).2
  by_cases c68 : s0 = (a 1 ((2 : Int32) + x14).toNatClampNeg)
  · replace h := (if_pos c68).symm.trans h
    obtain ⟨v80, hv80, h⟩ := bind_of h
    exact mn_trans (m_L_sent hv80) (mb_L_isTold_77 hmk3 h)
  · replace h := (if_neg c68).symm.trans h
    obtain rfl := Option.some.inj h
    exact mn_rfl _
set_option maxHeartbeats 4000000 in
set_option maxRecDepth 100000 in
theorem lb_L_isTold_62 {p : Program} {l : Launch} (hl : l.stackTraces = false) {e : Env} {s : State} {m : MethodId} {args : Array Value} {below : List Frame} {meth : Method} {c : Code} {D : va_G} {E : Nat → ClassId} {sz : Nat} {μ0 : MP} {ν0 : NC} {a0 : AS} {Ad0 : Nat → Nat → Nat} {Q : Nat → Nat} {B : Nat × (Nat → Nat)} {w : Nat} {r0 : ((MP × NC) × AS) × Int32} (C : cx p s m args meth c D E (Aof (zS μ0 ν0 a0 Ad0) [] s.heap.size) cL_isTold 22 "TradeLineLaw") (hEv : eV (Ad0 30 0) (Ad0 31 0) B (Aof (zS μ0 ν0 a0 Ad0) [] s.heap.size) s s.heap) (hN : vN s) (hr : meth.sig.returnType = (some .boolean)) (hz : s.heap.size = sz) (hI0 : lwI ν0) (hQ0 : lwQ Ad0 Q) {μ : MP} {ν : NC} {a : AS} {Ad : Nat → Nat → Nat} (hm0 : mn ν0 ν) (hp0 : kp ν0 Ad0 Ad) {x1 : Int32} {x14 : Int32} {x15 : Int32} {s0 : Int32} {k3 : MP → NC → AS → Int32 → Int32 → Option (((MP × NC) × AS) × Int32)} (hmk3 : ∀ (μ : MP) (ν : NC) (a : AS) (z1 : Int32) (z14 : Int32), k3 μ ν a z1 z14 = some r0 → mn ν r0.1.1.2) (hk3 : ∀ (μ : MP) (ν : NC) (a : AS) (Ad : Nat → Nat → Nat) (z1 : Int32) (z14 : Int32), mn ν0 ν → kp ν0 Ad0 Ad → k3 μ ν a z1 z14 = some r0 → G p l e ({ frames := 11, cells := kc r0.1.1.2 - kc ν0, slots := ks r0.1.1.2 - ks ν0, locals := 229 } : Room) s m args below meth c D E (Aof (zS μ0 ν0 a0 Ad0) [] s.heap.size) 22 (MQ below (cQ D E sz (zS μ0 ν0 a0 Ad0) [] (pI (fun r u => r = r0.2 ∧ ∃ A1, u = (zS r0.1.1.1 r0.1.1.2 r0.1.2 A1, []) ∧ kp ν0 Ad0 A1))) args s (kc r0.1.1.2 - kc ν0) (ks r0.1.1.2 - ks ν0) (Aof (zS μ0 ν0 a0 Ad0) [] s.heap.size)) (zS μ ν a Ad) [] (kc ν - kc ν0) (ks ν - ks ν0) 3 [(0, .ref (Q 0)), (1, .int z1), (2, .ref (Q 1)), (3, .ref (Q 4)), (4, .ref (Q 5)), (5, .ref (Q 6)), (6, .ref (Q 7)), (8, .ref (Q 9)), (9, .ref (Q 10)), (10, .ref (Q 11)), (11, .ref (Q 12)), (12, .ref (Q 13)), (13, .ref (Q 14)), (14, .int z14)] []) (h : b_L_isTold_62 k3 w μ ν a x1 x14 x15 s0 = some r0) : G p l e ({ frames := 11, cells := kc r0.1.1.2 - kc ν0, slots := ks r0.1.1.2 - ks ν0, locals := 229 } : Room) s m args below meth c D E (Aof (zS μ0 ν0 a0 Ad0) [] s.heap.size) 22 (MQ below (cQ D E sz (zS μ0 ν0 a0 Ad0) [] (pI (fun r u => r = r0.2 ∧ ∃ A1, u = (zS r0.1.1.1 r0.1.1.2 r0.1.2 A1, []) ∧ kp ν0 Ad0 A1))) args s (kc r0.1.1.2 - kc ν0) (ks r0.1.1.2 - ks ν0) (Aof (zS μ0 ν0 a0 Ad0) [] s.heap.size)) (zS μ ν a Ad) [] (kc ν - kc ν0) (ks ν - ks ν0) 62 [(0, .ref (Q 0)), (1, .int x1), (2, .ref (Q 1)), (3, .ref (Q 4)), (4, .ref (Q 5)), (5, .ref (Q 6)), (6, .ref (Q 7)), (8, .ref (Q 9)), (9, .ref (Q 10)), (10, .ref (Q 11)), (11, .ref (Q 12)), (12, .ref (Q 13)), (13, .ref (Q 14)), (14, .int x14), (15, .int x15)] [.int s0] := by
  have m0 := mb_L_isTold_62 hmk3 h
  have e1 := m0.2.1; have e2 := m0.2.2.1; have e3 := hm0.2.1; have e4 := hm0.2.2.1
  have hI := lwI_mn hI0 hm0; have hQ := lwQ_kp hI0 hp0 hQ0
  unfold b_L_isTold_62 at h
  refine g_aload_n C dL_isTold_62 rfl 2 rfl ?_
  refine g_iconst (v := (2 : Int32)) C dL_isTold_63 (by decide) ?_
  refine g_iload C dL_isTold_64 13 rfl ?_
  refine g_iadd C dL_isTold_66 ?_
  obtain ⟨g79, h⟩ := of_guard h
  refine q_iald C (show rsh (ν.1, μ.2, ν.2, Ad) from hI.2) (j := 1) (N := 22) (by decide) (lwQ_i hQ (j := 1) (N := 22) (by decide)) g79 dL_isTold_67 ?_
  refine g_icmp_ne (tgt := 162) C dL_isTold_68 (by decide) (fun c68 => ?_) (fun c68 => ?_)
  · replace h := (if_neg c68).symm.trans h
    refine g_iconst (v := (0 : Int32)) C dL_isTold_162 (by decide) ?_
    obtain rfl := Option.some.inj h
    exact g_iret C hr rfl hz ⟨(hm0.2.2.2 30 (by decide) (by decide)).1, (hm0.2.2.2 31 (by decide) (by decide)).1, hp0.2.1, hp0.2.2⟩ ⟨rfl, Ad, rfl, hp0⟩ (fun j x h => by simp at h) dL_isTold_163
  · replace h := (if_pos c68).symm.trans h
    refine g_aload_n C dL_isTold_71 rfl 0 rfl ?_
    refine g_iload C dL_isTold_72 13 rfl ?_
    obtain ⟨v80, hv80, h⟩ := bind_of h
    have m2 := m_L_sent hv80
    have m3 := mb_L_isTold_77 hmk3 h
    have a1 := hm0.2.1; have a2 := hm0.2.2.1; have b1 := m2.2.1; have b2 := m2.2.2.1; have d1 := m3.2.1; have d2 := m3.2.2.1
    refine g_cSh (n := 2) (exr := []) C hEv hN ⟨hp0.2.1 0, hp0.2.2 0⟩ [_, _] _ rfl rfl [] rfl rfl (fun sz => wc_L_sent l hl B _ ν _ Ad Q hI hQ w _ _ hv80 D E sz) rfl gh_sent gw_0 gw_1224 gw_1225 ⟨by decide +kernel, by decide +kernel, by decide +kernel⟩ ⟨rfl, rfl⟩ ⟨Nat.le_of_ble_eq_true rfl, Nat.le_of_ble_eq_true rfl⟩ (Nat.le_of_ble_eq_true rfl) dL_isTold_74 ⟨by show (kc ν - kc ν0) + (kc v80.1.2 - kc ν) ≤ kc r0.1.1.2 - kc ν0; omega, by show (ks ν - ks ν0) + (ks v80.1.2 - ks ν) ≤ ks r0.1.1.2 - ks ν0; omega⟩ (fun r u hp hx => ?_)
    obtain ⟨er, A1, rfl, hkp⟩ := hp
    rw [er]
    try dsimp only [List.append_nil]
    refine g_widen (k := kc v80.1.2 - kc ν0) (n := ks v80.1.2 - ks ν0) (by omega) (by omega) ?_
    refine g_lv [0, 1, 2, 3, 4, 5, 6, 7, 8, 9, 10, 11, 12, 13, 14] rfl ?_
    exact lb_L_isTold_77 hl C hEv hN hr hz hI0 hQ0 (mn_trans hm0 m2) (kp_trans hp0 hm0 hkp) hmk3 hk3 h
noncomputable def b_L_isTold_47 (k3 : MP → NC → AS → Int32 → Int32 → Option (((MP × NC) × AS) × Int32)) (k15 : MP → NC → AS → Int32 → Int32 → Int32 → Int32 → Option (((MP × NC) × AS) × Int32)) (w : Nat) (μ : MP) (ν : NC) (a : AS) (x1 : Int32) (x14 : Int32) (x16 : Int32) (s0 : Int32) (s1 : Int32) : Option (((MP × NC) × AS) × Int32) := yl ((s1 + s0)) (fun t96 => yl (x16 + (1 : Int32)) (fun t97 => k15 μ ν a x1 x14 t96 t97))
theorem mb_L_isTold_47 {w : Nat} {μ : MP} {ν : NC} {a : AS} {x1 : Int32} {x14 : Int32} {x16 : Int32} {s0 : Int32} {s1 : Int32} {r0 : ((MP × NC) × AS) × Int32} {k3 : MP → NC → AS → Int32 → Int32 → Option (((MP × NC) × AS) × Int32)} {k15 : MP → NC → AS → Int32 → Int32 → Int32 → Int32 → Option (((MP × NC) × AS) × Int32)} (hmk3 : ∀ (μ : MP) (ν : NC) (a : AS) (z1 : Int32) (z14 : Int32), k3 μ ν a z1 z14 = some r0 → mn ν r0.1.1.2) (hmk15 : ∀ (μ : MP) (ν : NC) (a : AS) (z1 : Int32) (z14 : Int32) (z15 : Int32) (z16 : Int32), k15 μ ν a z1 z14 z15 z16 = some r0 → mn ν r0.1.1.2) (h : b_L_isTold_47 k3 k15 w μ ν a x1 x14 x16 s0 s1 = some r0) : mn ν r0.1.1.2 := by
  unfold b_L_isTold_47 at h
  obtain ⟨t96, et96⟩ : ∃ y, (s1 + s0) = y := ⟨_, rfl⟩
  replace h := yl_of h et96
  obtain ⟨t97, et97⟩ : ∃ y, x16 + (1 : Int32) = y := ⟨_, rfl⟩
  replace h := yl_of h et97
  exact hmk15 _ _ _ _ _ _ _ h
set_option maxHeartbeats 4000000 in
set_option maxRecDepth 100000 in
theorem lb_L_isTold_47 {p : Program} {l : Launch} (hl : l.stackTraces = false) {e : Env} {s : State} {m : MethodId} {args : Array Value} {below : List Frame} {meth : Method} {c : Code} {D : va_G} {E : Nat → ClassId} {sz : Nat} {μ0 : MP} {ν0 : NC} {a0 : AS} {Ad0 : Nat → Nat → Nat} {Q : Nat → Nat} {B : Nat × (Nat → Nat)} {w : Nat} {r0 : ((MP × NC) × AS) × Int32} (C : cx p s m args meth c D E (Aof (zS μ0 ν0 a0 Ad0) [] s.heap.size) cL_isTold 22 "TradeLineLaw") (hEv : eV (Ad0 30 0) (Ad0 31 0) B (Aof (zS μ0 ν0 a0 Ad0) [] s.heap.size) s s.heap) (hN : vN s) (hr : meth.sig.returnType = (some .boolean)) (hz : s.heap.size = sz) (hI0 : lwI ν0) (hQ0 : lwQ Ad0 Q) {μ : MP} {ν : NC} {a : AS} {Ad : Nat → Nat → Nat} (hm0 : mn ν0 ν) (hp0 : kp ν0 Ad0 Ad) {x1 : Int32} {x14 : Int32} {x16 : Int32} {s0 : Int32} {s1 : Int32} {k3 : MP → NC → AS → Int32 → Int32 → Option (((MP × NC) × AS) × Int32)} {k15 : MP → NC → AS → Int32 → Int32 → Int32 → Int32 → Option (((MP × NC) × AS) × Int32)} (hmk3 : ∀ (μ : MP) (ν : NC) (a : AS) (z1 : Int32) (z14 : Int32), k3 μ ν a z1 z14 = some r0 → mn ν r0.1.1.2) (hk3 : ∀ (μ : MP) (ν : NC) (a : AS) (Ad : Nat → Nat → Nat) (z1 : Int32) (z14 : Int32), mn ν0 ν → kp ν0 Ad0 Ad → k3 μ ν a z1 z14 = some r0 → G p l e ({ frames := 11, cells := kc r0.1.1.2 - kc ν0, slots := ks r0.1.1.2 - ks ν0, locals := 229 } : Room) s m args below meth c D E (Aof (zS μ0 ν0 a0 Ad0) [] s.heap.size) 22 (MQ below (cQ D E sz (zS μ0 ν0 a0 Ad0) [] (pI (fun r u => r = r0.2 ∧ ∃ A1, u = (zS r0.1.1.1 r0.1.1.2 r0.1.2 A1, []) ∧ kp ν0 Ad0 A1))) args s (kc r0.1.1.2 - kc ν0) (ks r0.1.1.2 - ks ν0) (Aof (zS μ0 ν0 a0 Ad0) [] s.heap.size)) (zS μ ν a Ad) [] (kc ν - kc ν0) (ks ν - ks ν0) 3 [(0, .ref (Q 0)), (1, .int z1), (2, .ref (Q 1)), (3, .ref (Q 4)), (4, .ref (Q 5)), (5, .ref (Q 6)), (6, .ref (Q 7)), (8, .ref (Q 9)), (9, .ref (Q 10)), (10, .ref (Q 11)), (11, .ref (Q 12)), (12, .ref (Q 13)), (13, .ref (Q 14)), (14, .int z14)] []) (hmk15 : ∀ (μ : MP) (ν : NC) (a : AS) (z1 : Int32) (z14 : Int32) (z15 : Int32) (z16 : Int32), k15 μ ν a z1 z14 z15 z16 = some r0 → mn ν r0.1.1.2) (hk15 : ∀ (μ : MP) (ν : NC) (a : AS) (Ad : Nat → Nat → Nat) (z1 : Int32) (z14 : Int32) (z15 : Int32) (z16 : Int32), mn ν0 ν → kp ν0 Ad0 Ad → k15 μ ν a z1 z14 z15 z16 = some r0 → G p l e ({ frames := 11, cells := kc r0.1.1.2 - kc ν0, slots := ks r0.1.1.2 - ks ν0, locals := 229 } : Room) s m args below meth c D E (Aof (zS μ0 ν0 a0 Ad0) [] s.heap.size) 22 (MQ below (cQ D E sz (zS μ0 ν0 a0 Ad0) [] (pI (fun r u => r = r0.2 ∧ ∃ A1, u = (zS r0.1.1.1 r0.1.1.2 r0.1.2 A1, []) ∧ kp ν0 Ad0 A1))) args s (kc r0.1.1.2 - kc ν0) (ks r0.1.1.2 - ks ν0) (Aof (zS μ0 ν0 a0 Ad0) [] s.heap.size)) (zS μ ν a Ad) [] (kc ν - kc ν0) (ks ν - ks ν0) 15 [(0, .ref (Q 0)), (1, .int z1), (2, .ref (Q 1)), (3, .ref (Q 4)), (4, .ref (Q 5)), (5, .ref (Q 6)), (6, .ref (Q 7)), (8, .ref (Q 9)), (9, .ref (Q 10)), (10, .ref (Q 11)), (11, .ref (Q 12)), (12, .ref (Q 13)), (13, .ref (Q 14)), (14, .int z14), (15, .int z15), (16, .int z16)] []) (h : b_L_isTold_47 k3 k15 w μ ν a x1 x14 x16 s0 s1 = some r0) : G p l e ({ frames := 11, cells := kc r0.1.1.2 - kc ν0, slots := ks r0.1.1.2 - ks ν0, locals := 229 } : Room) s m args below meth c D E (Aof (zS μ0 ν0 a0 Ad0) [] s.heap.size) 22 (MQ below (cQ D E sz (zS μ0 ν0 a0 Ad0) [] (pI (fun r u => r = r0.2 ∧ ∃ A1, u = (zS r0.1.1.1 r0.1.1.2 r0.1.2 A1, []) ∧ kp ν0 Ad0 A1))) args s (kc r0.1.1.2 - kc ν0) (ks r0.1.1.2 - ks ν0) (Aof (zS μ0 ν0 a0 Ad0) [] s.heap.size)) (zS μ ν a Ad) [] (kc ν - kc ν0) (ks ν - ks ν0) 47 [(0, .ref (Q 0)), (1, .int x1), (2, .ref (Q 1)), (3, .ref (Q 4)), (4, .ref (Q 5)), (5, .ref (Q 6)), (6, .ref (Q 7)), (8, .ref (Q 9)), (9, .ref (Q 10)), (10, .ref (Q 11)), (11, .ref (Q 12)), (12, .ref (Q 13)), (13, .ref (Q 14)), (14, .int x14), (16, .int x16)] [.int s0, .int s1] := by
  have m0 := mb_L_isTold_47 hmk3 hmk15 h
  have e1 := m0.2.1; have e2 := m0.2.2.1; have e3 := hm0.2.1; have e4 := hm0.2.2.1
  have hI := lwI_mn hI0 hm0; have hQ := lwQ_kp hI0 hp0 hQ0
  unfold b_L_isTold_47 at h
  refine g_iadd C dL_isTold_47 ?_
  refine q_topi (fun t96 et96 => ?_)
  replace h := yl_of h et96
  refine g_istore (lv' := [(15, .int t96), (0, .ref (Q 0)), (1, .int x1), (2, .ref (Q 1)), (3, .ref (Q 4)), (4, .ref (Q 5)), (5, .ref (Q 6)), (6, .ref (Q 7)), (8, .ref (Q 9)), (9, .ref (Q 10)), (10, .ref (Q 11)), (11, .ref (Q 12)), (12, .ref (Q 13)), (13, .ref (Q 14)), (14, .int x14), (16, .int x16)]) C dL_isTold_48 (by decide) rfl ?_
  obtain ⟨t97, et97⟩ : ∃ y : Int32, x16 + (1 : Int32) = y := ⟨_, rfl⟩
  replace h := yl_of h et97
  refine g_iinc (v := t97) (lv' := [(16, .int t97), (15, .int t96), (0, .ref (Q 0)), (1, .int x1), (2, .ref (Q 1)), (3, .ref (Q 4)), (4, .ref (Q 5)), (5, .ref (Q 6)), (6, .ref (Q 7)), (8, .ref (Q 9)), (9, .ref (Q 10)), (10, .ref (Q 11)), (11, .ref (Q 12)), (12, .ref (Q 13)), (13, .ref (Q 14)), (14, .int x14)]) C dL_isTold_50 15 rfl (by rw [← et97]; rfl) (by decide) rfl ?_
  refine g_goto (tgt := 15) C dL_isTold_53 (by decide) ?_
  refine g_lv [2, 3, 4, 5, 6, 7, 8, 9, 10, 11, 12, 13, 14, 15, 1, 0] rfl ?_
  exact hk15 _ _ _ _ _ _ _ _ hm0 hp0 h
noncomputable def b_L_isTold_36 (k3 : MP → NC → AS → Int32 → Int32 → Option (((MP × NC) × AS) × Int32)) (k15 : MP → NC → AS → Int32 → Int32 → Int32 → Int32 → Option (((MP × NC) × AS) × Int32)) (w : Nat) (μ : MP) (ν : NC) (a : AS) (x1 : Int32) (x14 : Int32) (x16 : Int32) (s0 : Nat) (s1 : Int32) : Option (((MP × NC) × AS) × Int32) := bif inB s0 64 then bif ixB x16 64 then (if (a s0 x16.toNatClampNeg) ≤ (0 : Int32) then (b_L_isTold_47 k3 k15 w μ ν a x1 x14 x16 (0 : Int32) s1) else (b_L_isTold_47 k3 k15 w μ ν a x1 x14 x16 (1 : Int32) s1)) else none else none
theorem mb_L_isTold_36 {w : Nat} {μ : MP} {ν : NC} {a : AS} {x1 : Int32} {x14 : Int32} {x16 : Int32} {s0 : Nat} {s1 : Int32} {r0 : ((MP × NC) × AS) × Int32} {k3 : MP → NC → AS → Int32 → Int32 → Option (((MP × NC) × AS) × Int32)} {k15 : MP → NC → AS → Int32 → Int32 → Int32 → Int32 → Option (((MP × NC) × AS) × Int32)} (hmk3 : ∀ (μ : MP) (ν : NC) (a : AS) (z1 : Int32) (z14 : Int32), k3 μ ν a z1 z14 = some r0 → mn ν r0.1.1.2) (hmk15 : ∀ (μ : MP) (ν : NC) (a : AS) (z1 : Int32) (z14 : Int32) (z15 : Int32) (z16 : Int32), k15 μ ν a z1 z14 z15 z16 = some r0 → mn ν r0.1.1.2) (h : b_L_isTold_36 k3 k15 w μ ν a x1 x14 x16 s0 s1 = some r0) : mn ν r0.1.1.2 := by
  unfold b_L_isTold_36 at h
  replace h := (of_guard h).2
  replace h := (of_guard h).2
  by_cases c39 : (a s0 x16.toNatClampNeg) ≤ (0 : Int32)
  · replace h := (if_pos c39).symm.trans h
    exact mb_L_isTold_47 hmk3 hmk15 h
  · replace h := (if_neg c39).symm.trans h
    exact mb_L_isTold_47 hmk3 hmk15 h
set_option maxHeartbeats 4000000 in
set_option maxRecDepth 100000 in
theorem lb_L_isTold_36 {p : Program} {l : Launch} (hl : l.stackTraces = false) {e : Env} {s : State} {m : MethodId} {args : Array Value} {below : List Frame} {meth : Method} {c : Code} {D : va_G} {E : Nat → ClassId} {sz : Nat} {μ0 : MP} {ν0 : NC} {a0 : AS} {Ad0 : Nat → Nat → Nat} {Q : Nat → Nat} {B : Nat × (Nat → Nat)} {w : Nat} {r0 : ((MP × NC) × AS) × Int32} (C : cx p s m args meth c D E (Aof (zS μ0 ν0 a0 Ad0) [] s.heap.size) cL_isTold 22 "TradeLineLaw") (hEv : eV (Ad0 30 0) (Ad0 31 0) B (Aof (zS μ0 ν0 a0 Ad0) [] s.heap.size) s s.heap) (hN : vN s) (hr : meth.sig.returnType = (some .boolean)) (hz : s.heap.size = sz) (hI0 : lwI ν0) (hQ0 : lwQ Ad0 Q) {μ : MP} {ν : NC} {a : AS} {Ad : Nat → Nat → Nat} (hm0 : mn ν0 ν) (hp0 : kp ν0 Ad0 Ad) {x1 : Int32} {x14 : Int32} {x16 : Int32} {s0 : Nat} {s1 : Int32} {k3 : MP → NC → AS → Int32 → Int32 → Option (((MP × NC) × AS) × Int32)} {k15 : MP → NC → AS → Int32 → Int32 → Int32 → Int32 → Option (((MP × NC) × AS) × Int32)} (hmk3 : ∀ (μ : MP) (ν : NC) (a : AS) (z1 : Int32) (z14 : Int32), k3 μ ν a z1 z14 = some r0 → mn ν r0.1.1.2) (hk3 : ∀ (μ : MP) (ν : NC) (a : AS) (Ad : Nat → Nat → Nat) (z1 : Int32) (z14 : Int32), mn ν0 ν → kp ν0 Ad0 Ad → k3 μ ν a z1 z14 = some r0 → G p l e ({ frames := 11, cells := kc r0.1.1.2 - kc ν0, slots := ks r0.1.1.2 - ks ν0, locals := 229 } : Room) s m args below meth c D E (Aof (zS μ0 ν0 a0 Ad0) [] s.heap.size) 22 (MQ below (cQ D E sz (zS μ0 ν0 a0 Ad0) [] (pI (fun r u => r = r0.2 ∧ ∃ A1, u = (zS r0.1.1.1 r0.1.1.2 r0.1.2 A1, []) ∧ kp ν0 Ad0 A1))) args s (kc r0.1.1.2 - kc ν0) (ks r0.1.1.2 - ks ν0) (Aof (zS μ0 ν0 a0 Ad0) [] s.heap.size)) (zS μ ν a Ad) [] (kc ν - kc ν0) (ks ν - ks ν0) 3 [(0, .ref (Q 0)), (1, .int z1), (2, .ref (Q 1)), (3, .ref (Q 4)), (4, .ref (Q 5)), (5, .ref (Q 6)), (6, .ref (Q 7)), (8, .ref (Q 9)), (9, .ref (Q 10)), (10, .ref (Q 11)), (11, .ref (Q 12)), (12, .ref (Q 13)), (13, .ref (Q 14)), (14, .int z14)] []) (hmk15 : ∀ (μ : MP) (ν : NC) (a : AS) (z1 : Int32) (z14 : Int32) (z15 : Int32) (z16 : Int32), k15 μ ν a z1 z14 z15 z16 = some r0 → mn ν r0.1.1.2) (hk15 : ∀ (μ : MP) (ν : NC) (a : AS) (Ad : Nat → Nat → Nat) (z1 : Int32) (z14 : Int32) (z15 : Int32) (z16 : Int32), mn ν0 ν → kp ν0 Ad0 Ad → k15 μ ν a z1 z14 z15 z16 = some r0 → G p l e ({ frames := 11, cells := kc r0.1.1.2 - kc ν0, slots := ks r0.1.1.2 - ks ν0, locals := 229 } : Room) s m args below meth c D E (Aof (zS μ0 ν0 a0 Ad0) [] s.heap.size) 22 (MQ below (cQ D E sz (zS μ0 ν0 a0 Ad0) [] (pI (fun r u => r = r0.2 ∧ ∃ A1, u = (zS r0.1.1.1 r0.1.1.2 r0.1.2 A1, []) ∧ kp ν0 Ad0 A1))) args s (kc r0.1.1.2 - kc ν0) (ks r0.1.1.2 - ks ν0) (Aof (zS μ0 ν0 a0 Ad0) [] s.heap.size)) (zS μ ν a Ad) [] (kc ν - kc ν0) (ks ν - ks ν0) 15 [(0, .ref (Q 0)), (1, .int z1), (2, .ref (Q 1)), (3, .ref (Q 4)), (4, .ref (Q 5)), (5, .ref (Q 6)), (6, .ref (Q 7)), (8, .ref (Q 9)), (9, .ref (Q 10)), (10, .ref (Q 11)), (11, .ref (Q 12)), (12, .ref (Q 13)), (13, .ref (Q 14)), (14, .int z14), (15, .int z15), (16, .int z16)] []) (h : b_L_isTold_36 k3 k15 w μ ν a x1 x14 x16 s0 s1 = some r0) : G p l e ({ frames := 11, cells := kc r0.1.1.2 - kc ν0, slots := ks r0.1.1.2 - ks ν0, locals := 229 } : Room) s m args below meth c D E (Aof (zS μ0 ν0 a0 Ad0) [] s.heap.size) 22 (MQ below (cQ D E sz (zS μ0 ν0 a0 Ad0) [] (pI (fun r u => r = r0.2 ∧ ∃ A1, u = (zS r0.1.1.1 r0.1.1.2 r0.1.2 A1, []) ∧ kp ν0 Ad0 A1))) args s (kc r0.1.1.2 - kc ν0) (ks r0.1.1.2 - ks ν0) (Aof (zS μ0 ν0 a0 Ad0) [] s.heap.size)) (zS μ ν a Ad) [] (kc ν - kc ν0) (ks ν - ks ν0) 36 [(0, .ref (Q 0)), (1, .int x1), (2, .ref (Q 1)), (3, .ref (Q 4)), (4, .ref (Q 5)), (5, .ref (Q 6)), (6, .ref (Q 7)), (8, .ref (Q 9)), (9, .ref (Q 10)), (10, .ref (Q 11)), (11, .ref (Q 12)), (12, .ref (Q 13)), (13, .ref (Q 14)), (14, .int x14), (16, .int x16)] [.ref (Q s0), .int s1] := by
  have m0 := mb_L_isTold_36 hmk3 hmk15 h
  have e1 := m0.2.1; have e2 := m0.2.2.1; have e3 := hm0.2.1; have e4 := hm0.2.2.1
  have hI := lwI_mn hI0 hm0; have hQ := lwQ_kp hI0 hp0 hQ0
  unfold b_L_isTold_36 at h
  refine g_iload C dL_isTold_36 14 rfl ?_
  obtain ⟨g94, h⟩ := of_guard h
  obtain ⟨g95, h⟩ := of_guard h
  refine q_iald C (show rsh (ν.1, μ.2, ν.2, Ad) from hI.2) (j := s0) (N := 64) g94 (lwQ_i hQ g94) g95 dL_isTold_38 ?_
  refine g_if_le (tgt := 46) C dL_isTold_39 (by decide) (fun c39 => ?_) (fun c39 => ?_)
  · replace h := (if_pos c39).symm.trans h
    refine g_iconst (v := (0 : Int32)) C dL_isTold_46 (by decide) ?_
    refine g_lv [0, 1, 2, 3, 4, 5, 6, 7, 8, 9, 10, 11, 12, 13, 14] rfl ?_
    exact lb_L_isTold_47 hl C hEv hN hr hz hI0 hQ0 hm0 hp0 hmk3 hk3 hmk15 hk15 h
  · replace h := (if_neg c39).symm.trans h
    refine g_iconst (v := (1 : Int32)) C dL_isTold_42 (by decide) ?_
    refine g_goto (tgt := 47) C dL_isTold_43 (by decide) ?_
    refine g_lv [0, 1, 2, 3, 4, 5, 6, 7, 8, 9, 10, 11, 12, 13, 14] rfl ?_
    exact lb_L_isTold_47 hl C hEv hN hr hz hI0 hQ0 hm0 hp0 hmk3 hk3 hmk15 hk15 h
noncomputable def b_L_isTold_15 (k3 : MP → NC → AS → Int32 → Int32 → Option (((MP × NC) × AS) × Int32)) (k15 : MP → NC → AS → Int32 → Int32 → Int32 → Int32 → Option (((MP × NC) × AS) × Int32)) (w : Nat) (μ : MP) (ν : NC) (a : AS) (x1 : Int32) (x14 : Int32) (x15 : Int32) (x16 : Int32)  : Option (((MP × NC) × AS) × Int32) := (if (64 : Int32) ≤ x16 then ((f_L_isOn w μ ν x14).bind (fun v78 => b_L_isTold_62 k3 w v78.1.1 v78.1.2 a x1 x14 x15 v78.2)) else ((if x14 = (0 : Int32) then (b_L_isTold_36 k3 k15 w μ ν a x1 x14 x16 6 x15) else (b_L_isTold_36 k3 k15 w μ ν a x1 x14 x16 7 x15))))
theorem mb_L_isTold_15 {w : Nat} {μ : MP} {ν : NC} {a : AS} {x1 : Int32} {x14 : Int32} {x15 : Int32} {x16 : Int32}  {r0 : ((MP × NC) × AS) × Int32} {k3 : MP → NC → AS → Int32 → Int32 → Option (((MP × NC) × AS) × Int32)} {k15 : MP → NC → AS → Int32 → Int32 → Int32 → Int32 → Option (((MP × NC) × AS) × Int32)} (hmk3 : ∀ (μ : MP) (ν : NC) (a : AS) (z1 : Int32) (z14 : Int32), k3 μ ν a z1 z14 = some r0 → mn ν r0.1.1.2) (hmk15 : ∀ (μ : MP) (ν : NC) (a : AS) (z1 : Int32) (z14 : Int32) (z15 : Int32) (z16 : Int32), k15 μ ν a z1 z14 z15 z16 = some r0 → mn ν r0.1.1.2) (h : b_L_isTold_15 k3 k15 w μ ν a x1 x14 x15 x16  = some r0) : mn ν r0.1.1.2 := by
  unfold b_L_isTold_15 at h
  by_cases c19 : (64 : Int32) ≤ x16
  · replace h := (if_pos c19).symm.trans h
    obtain ⟨v78, hv78, h⟩ := bind_of h
    exact mn_trans (m_L_isOn hv78) (mb_L_isTold_62 hmk3 h)
  · replace h := (if_neg c19).symm.trans h
    by_cases c26 : x14 = (0 : Int32)
    · replace h := (if_pos c26).symm.trans h
      exact mb_L_isTold_36 hmk3 hmk15 h
    · replace h := (if_neg c26).symm.trans h
      exact mb_L_isTold_36 hmk3 hmk15 h
set_option maxHeartbeats 4000000 in
set_option maxRecDepth 100000 in
theorem lb_L_isTold_15 {p : Program} {l : Launch} (hl : l.stackTraces = false) {e : Env} {s : State} {m : MethodId} {args : Array Value} {below : List Frame} {meth : Method} {c : Code} {D : va_G} {E : Nat → ClassId} {sz : Nat} {μ0 : MP} {ν0 : NC} {a0 : AS} {Ad0 : Nat → Nat → Nat} {Q : Nat → Nat} {B : Nat × (Nat → Nat)} {w : Nat} {r0 : ((MP × NC) × AS) × Int32} (C : cx p s m args meth c D E (Aof (zS μ0 ν0 a0 Ad0) [] s.heap.size) cL_isTold 22 "TradeLineLaw") (hEv : eV (Ad0 30 0) (Ad0 31 0) B (Aof (zS μ0 ν0 a0 Ad0) [] s.heap.size) s s.heap) (hN : vN s) (hr : meth.sig.returnType = (some .boolean)) (hz : s.heap.size = sz) (hI0 : lwI ν0) (hQ0 : lwQ Ad0 Q) {μ : MP} {ν : NC} {a : AS} {Ad : Nat → Nat → Nat} (hm0 : mn ν0 ν) (hp0 : kp ν0 Ad0 Ad) {x1 : Int32} {x14 : Int32} {x15 : Int32} {x16 : Int32}  {k3 : MP → NC → AS → Int32 → Int32 → Option (((MP × NC) × AS) × Int32)} {k15 : MP → NC → AS → Int32 → Int32 → Int32 → Int32 → Option (((MP × NC) × AS) × Int32)} (hmk3 : ∀ (μ : MP) (ν : NC) (a : AS) (z1 : Int32) (z14 : Int32), k3 μ ν a z1 z14 = some r0 → mn ν r0.1.1.2) (hk3 : ∀ (μ : MP) (ν : NC) (a : AS) (Ad : Nat → Nat → Nat) (z1 : Int32) (z14 : Int32), mn ν0 ν → kp ν0 Ad0 Ad → k3 μ ν a z1 z14 = some r0 → G p l e ({ frames := 11, cells := kc r0.1.1.2 - kc ν0, slots := ks r0.1.1.2 - ks ν0, locals := 229 } : Room) s m args below meth c D E (Aof (zS μ0 ν0 a0 Ad0) [] s.heap.size) 22 (MQ below (cQ D E sz (zS μ0 ν0 a0 Ad0) [] (pI (fun r u => r = r0.2 ∧ ∃ A1, u = (zS r0.1.1.1 r0.1.1.2 r0.1.2 A1, []) ∧ kp ν0 Ad0 A1))) args s (kc r0.1.1.2 - kc ν0) (ks r0.1.1.2 - ks ν0) (Aof (zS μ0 ν0 a0 Ad0) [] s.heap.size)) (zS μ ν a Ad) [] (kc ν - kc ν0) (ks ν - ks ν0) 3 [(0, .ref (Q 0)), (1, .int z1), (2, .ref (Q 1)), (3, .ref (Q 4)), (4, .ref (Q 5)), (5, .ref (Q 6)), (6, .ref (Q 7)), (8, .ref (Q 9)), (9, .ref (Q 10)), (10, .ref (Q 11)), (11, .ref (Q 12)), (12, .ref (Q 13)), (13, .ref (Q 14)), (14, .int z14)] []) (hmk15 : ∀ (μ : MP) (ν : NC) (a : AS) (z1 : Int32) (z14 : Int32) (z15 : Int32) (z16 : Int32), k15 μ ν a z1 z14 z15 z16 = some r0 → mn ν r0.1.1.2) (hk15 : ∀ (μ : MP) (ν : NC) (a : AS) (Ad : Nat → Nat → Nat) (z1 : Int32) (z14 : Int32) (z15 : Int32) (z16 : Int32), mn ν0 ν → kp ν0 Ad0 Ad → k15 μ ν a z1 z14 z15 z16 = some r0 → G p l e ({ frames := 11, cells := kc r0.1.1.2 - kc ν0, slots := ks r0.1.1.2 - ks ν0, locals := 229 } : Room) s m args below meth c D E (Aof (zS μ0 ν0 a0 Ad0) [] s.heap.size) 22 (MQ below (cQ D E sz (zS μ0 ν0 a0 Ad0) [] (pI (fun r u => r = r0.2 ∧ ∃ A1, u = (zS r0.1.1.1 r0.1.1.2 r0.1.2 A1, []) ∧ kp ν0 Ad0 A1))) args s (kc r0.1.1.2 - kc ν0) (ks r0.1.1.2 - ks ν0) (Aof (zS μ0 ν0 a0 Ad0) [] s.heap.size)) (zS μ ν a Ad) [] (kc ν - kc ν0) (ks ν - ks ν0) 15 [(0, .ref (Q 0)), (1, .int z1), (2, .ref (Q 1)), (3, .ref (Q 4)), (4, .ref (Q 5)), (5, .ref (Q 6)), (6, .ref (Q 7)), (8, .ref (Q 9)), (9, .ref (Q 10)), (10, .ref (Q 11)), (11, .ref (Q 12)), (12, .ref (Q 13)), (13, .ref (Q 14)), (14, .int z14), (15, .int z15), (16, .int z16)] []) (h : b_L_isTold_15 k3 k15 w μ ν a x1 x14 x15 x16  = some r0) : G p l e ({ frames := 11, cells := kc r0.1.1.2 - kc ν0, slots := ks r0.1.1.2 - ks ν0, locals := 229 } : Room) s m args below meth c D E (Aof (zS μ0 ν0 a0 Ad0) [] s.heap.size) 22 (MQ below (cQ D E sz (zS μ0 ν0 a0 Ad0) [] (pI (fun r u => r = r0.2 ∧ ∃ A1, u = (zS r0.1.1.1 r0.1.1.2 r0.1.2 A1, []) ∧ kp ν0 Ad0 A1))) args s (kc r0.1.1.2 - kc ν0) (ks r0.1.1.2 - ks ν0) (Aof (zS μ0 ν0 a0 Ad0) [] s.heap.size)) (zS μ ν a Ad) [] (kc ν - kc ν0) (ks ν - ks ν0) 15 [(0, .ref (Q 0)), (1, .int x1), (2, .ref (Q 1)), (3, .ref (Q 4)), (4, .ref (Q 5)), (5, .ref (Q 6)), (6, .ref (Q 7)), (8, .ref (Q 9)), (9, .ref (Q 10)), (10, .ref (Q 11)), (11, .ref (Q 12)), (12, .ref (Q 13)), (13, .ref (Q 14)), (14, .int x14), (15, .int x15), (16, .int x16)] [] := by
  have m0 := mb_L_isTold_15 hmk3 hmk15 h
  have e1 := m0.2.1; have e2 := m0.2.2.1; have e3 := hm0.2.1; have e4 := hm0.2.2.1
  have hI := lwI_mn hI0 hm0; have hQ := lwQ_kp hI0 hp0 hQ0
  unfold b_L_isTold_15 at h
  refine g_iload C dL_isTold_15 15 rfl ?_
  refine g_bipush (v := (64 : Int32)) C dL_isTold_17 (by decide) ?_
  refine g_icmp_ge (tgt := 56) C dL_isTold_19 (by decide) (fun c19 => ?_) (fun c19 => ?_)
  · replace h := (if_pos c19).symm.trans h
    refine g_aload_n C dL_isTold_56 rfl 0 rfl ?_
    refine g_iload C dL_isTold_57 13 rfl ?_
    obtain ⟨v78, hv78, h⟩ := bind_of h
    have m2 := m_L_isOn hv78
    have m3 := mb_L_isTold_62 hmk3 h
    have a1 := hm0.2.1; have a2 := hm0.2.2.1; have b1 := m2.2.1; have b2 := m2.2.2.1; have d1 := m3.2.1; have d2 := m3.2.2.1
    refine g_cSh (n := 2) (exr := []) C hEv hN ⟨hp0.2.1 0, hp0.2.2 0⟩ [_, _] _ rfl rfl [] rfl rfl (fun sz => wc_L_isOn l hl B _ ν _ Ad Q hI hQ w _ _ hv78 D E sz) rfl gh_isOn gw_0 gw_1217 gw_1218 ⟨by decide +kernel, by decide +kernel, by decide +kernel⟩ ⟨rfl, rfl⟩ ⟨Nat.le_of_ble_eq_true rfl, Nat.le_of_ble_eq_true rfl⟩ (Nat.le_of_ble_eq_true rfl) dL_isTold_59 ⟨by show (kc ν - kc ν0) + (kc v78.1.2 - kc ν) ≤ kc r0.1.1.2 - kc ν0; omega, by show (ks ν - ks ν0) + (ks v78.1.2 - ks ν) ≤ ks r0.1.1.2 - ks ν0; omega⟩ (fun r u hp hx => ?_)
    obtain ⟨er, A1, rfl, hkp⟩ := hp
    rw [er]
    try dsimp only [List.append_nil]
    refine g_widen (k := kc v78.1.2 - kc ν0) (n := ks v78.1.2 - ks ν0) (by omega) (by omega) ?_
    refine g_lv [0, 1, 2, 3, 4, 5, 6, 7, 8, 9, 10, 11, 12, 13, 14] rfl ?_
    exact lb_L_isTold_62 hl C hEv hN hr hz hI0 hQ0 (mn_trans hm0 m2) (kp_trans hp0 hm0 hkp) hmk3 hk3 h
  · replace h := (if_neg c19).symm.trans h
    refine g_iload C dL_isTold_22 14 rfl ?_
    refine g_iload C dL_isTold_24 13 rfl ?_
    refine g_if_ne (tgt := 34) C dL_isTold_26 (by decide) (fun c26 => ?_) (fun c26 => ?_)
    · replace h := (if_neg c26).symm.trans h
      refine g_aload C dL_isTold_34 6 rfl ?_
      refine g_lv [0, 1, 2, 3, 4, 5, 6, 7, 8, 9, 10, 11, 12, 13, 15] rfl ?_
      exact lb_L_isTold_36 hl C hEv hN hr hz hI0 hQ0 hm0 hp0 hmk3 hk3 hmk15 hk15 h
    · replace h := (if_pos c26).symm.trans h
      refine g_aload C dL_isTold_29 5 rfl ?_
      refine g_goto (tgt := 36) C dL_isTold_31 (by decide) ?_
      refine g_lv [0, 1, 2, 3, 4, 5, 6, 7, 8, 9, 10, 11, 12, 13, 15] rfl ?_
      exact lb_L_isTold_36 hl C hEv hN hr hz hI0 hQ0 hm0 hp0 hmk3 hk3 hmk15 hk15 h
noncomputable def l_L_isTold_15 (k3 : MP → NC → AS → Int32 → Int32 → Option (((MP × NC) × AS) × Int32)) (w : Nat) : Nat → MP → NC → AS → Int32 → Int32 → Int32 → Int32 → Option (((MP × NC) × AS) × Int32)
  | 0 => fun _ _ _ _ _ _ _ => none
  | n + 1 => fun μ ν a x1 x14 x15 x16 => b_L_isTold_15 k3 (l_L_isTold_15 k3 w n) w μ ν a x1 x14 x15 x16
theorem ml_L_isTold_15 {w : Nat} {r0 : ((MP × NC) × AS) × Int32} {k3 : MP → NC → AS → Int32 → Int32 → Option (((MP × NC) × AS) × Int32)} (hmk3 : ∀ (μ : MP) (ν : NC) (a : AS) (z1 : Int32) (z14 : Int32), k3 μ ν a z1 z14 = some r0 → mn ν r0.1.1.2) : ∀ (n : Nat) (μ : MP) (ν : NC) (a : AS) (x1 : Int32) (x14 : Int32) (x15 : Int32) (x16 : Int32), l_L_isTold_15 k3 w n μ ν a x1 x14 x15 x16 = some r0 → mn ν r0.1.1.2 := by
  intro n
  induction n with
  | zero => exact fun μ ν a x1 x14 x15 x16 h => absurd (show (none : Option (((MP × NC) × AS) × Int32)) = some r0 from h) (by simp)
  | succ n ih => exact fun μ ν a x1 x14 x15 x16 h => mb_L_isTold_15 hmk3 ih h
theorem ll_L_isTold_15 {p : Program} {l : Launch} (hl : l.stackTraces = false) {e : Env} {s : State} {m : MethodId} {args : Array Value} {below : List Frame} {meth : Method} {c : Code} {D : va_G} {E : Nat → ClassId} {sz : Nat} {μ0 : MP} {ν0 : NC} {a0 : AS} {Ad0 : Nat → Nat → Nat} {Q : Nat → Nat} {B : Nat × (Nat → Nat)} {w : Nat} {r0 : ((MP × NC) × AS) × Int32} (C : cx p s m args meth c D E (Aof (zS μ0 ν0 a0 Ad0) [] s.heap.size) cL_isTold 22 "TradeLineLaw") (hEv : eV (Ad0 30 0) (Ad0 31 0) B (Aof (zS μ0 ν0 a0 Ad0) [] s.heap.size) s s.heap) (hN : vN s) (hr : meth.sig.returnType = (some .boolean)) (hz : s.heap.size = sz) (hI0 : lwI ν0) (hQ0 : lwQ Ad0 Q) {k3 : MP → NC → AS → Int32 → Int32 → Option (((MP × NC) × AS) × Int32)} (hmk3 : ∀ (μ : MP) (ν : NC) (a : AS) (z1 : Int32) (z14 : Int32), k3 μ ν a z1 z14 = some r0 → mn ν r0.1.1.2) (hk3 : ∀ (μ : MP) (ν : NC) (a : AS) (Ad : Nat → Nat → Nat) (z1 : Int32) (z14 : Int32), mn ν0 ν → kp ν0 Ad0 Ad → k3 μ ν a z1 z14 = some r0 → G p l e ({ frames := 11, cells := kc r0.1.1.2 - kc ν0, slots := ks r0.1.1.2 - ks ν0, locals := 229 } : Room) s m args below meth c D E (Aof (zS μ0 ν0 a0 Ad0) [] s.heap.size) 22 (MQ below (cQ D E sz (zS μ0 ν0 a0 Ad0) [] (pI (fun r u => r = r0.2 ∧ ∃ A1, u = (zS r0.1.1.1 r0.1.1.2 r0.1.2 A1, []) ∧ kp ν0 Ad0 A1))) args s (kc r0.1.1.2 - kc ν0) (ks r0.1.1.2 - ks ν0) (Aof (zS μ0 ν0 a0 Ad0) [] s.heap.size)) (zS μ ν a Ad) [] (kc ν - kc ν0) (ks ν - ks ν0) 3 [(0, .ref (Q 0)), (1, .int z1), (2, .ref (Q 1)), (3, .ref (Q 4)), (4, .ref (Q 5)), (5, .ref (Q 6)), (6, .ref (Q 7)), (8, .ref (Q 9)), (9, .ref (Q 10)), (10, .ref (Q 11)), (11, .ref (Q 12)), (12, .ref (Q 13)), (13, .ref (Q 14)), (14, .int z14)] []) : ∀ (n : Nat) (μ : MP) (ν : NC) (a : AS) (Ad : Nat → Nat → Nat) (x1 : Int32) (x14 : Int32) (x15 : Int32) (x16 : Int32), mn ν0 ν → kp ν0 Ad0 Ad → l_L_isTold_15 k3 w n μ ν a x1 x14 x15 x16 = some r0 → G p l e ({ frames := 11, cells := kc r0.1.1.2 - kc ν0, slots := ks r0.1.1.2 - ks ν0, locals := 229 } : Room) s m args below meth c D E (Aof (zS μ0 ν0 a0 Ad0) [] s.heap.size) 22 (MQ below (cQ D E sz (zS μ0 ν0 a0 Ad0) [] (pI (fun r u => r = r0.2 ∧ ∃ A1, u = (zS r0.1.1.1 r0.1.1.2 r0.1.2 A1, []) ∧ kp ν0 Ad0 A1))) args s (kc r0.1.1.2 - kc ν0) (ks r0.1.1.2 - ks ν0) (Aof (zS μ0 ν0 a0 Ad0) [] s.heap.size)) (zS μ ν a Ad) [] (kc ν - kc ν0) (ks ν - ks ν0) 15 [(0, .ref (Q 0)), (1, .int x1), (2, .ref (Q 1)), (3, .ref (Q 4)), (4, .ref (Q 5)), (5, .ref (Q 6)), (6, .ref (Q 7)), (8, .ref (Q 9)), (9, .ref (Q 10)), (10, .ref (Q 11)), (11, .ref (Q 12)), (12, .ref (Q 13)), (13, .ref (Q 14)), (14, .int x14), (15, .int x15), (16, .int x16)] [] := by
  intro n
  induction n with
  | zero => exact fun μ ν a Ad x1 x14 x15 x16 hm0 hp0 h => absurd (show (none : Option (((MP × NC) × AS) × Int32)) = some r0 from h) (by simp)
  | succ n ih => exact fun μ ν a Ad x1 x14 x15 x16 hm0 hp0 h => lb_L_isTold_15 (w := w) hl C hEv hN hr hz hI0 hQ0 hm0 hp0 hmk3 hk3 (fun μ ν a x1 x14 x15 x16 h => ml_L_isTold_15 hmk3 n μ ν a x1 x14 x15 x16 h) ih h
noncomputable def b_L_isTold_3 (k3 : MP → NC → AS → Int32 → Int32 → Option (((MP × NC) × AS) × Int32)) (w : Nat) (μ : MP) (ν : NC) (a : AS) (x1 : Int32) (x14 : Int32)  : Option (((MP × NC) × AS) × Int32) := (if (2 : Int32) ≤ x14 then (l_L_isTold_216  w w μ ν a x1 (1 : Int32) (0 : Int32)) else (l_L_isTold_15 k3 w w μ ν a x1 x14 (0 : Int32) (0 : Int32)))
theorem mb_L_isTold_3 {w : Nat} {μ : MP} {ν : NC} {a : AS} {x1 : Int32} {x14 : Int32}  {r0 : ((MP × NC) × AS) × Int32} {k3 : MP → NC → AS → Int32 → Int32 → Option (((MP × NC) × AS) × Int32)} (hmk3 : ∀ (μ : MP) (ν : NC) (a : AS) (z1 : Int32) (z14 : Int32), k3 μ ν a z1 z14 = some r0 → mn ν r0.1.1.2) (h : b_L_isTold_3 k3 w μ ν a x1 x14  = some r0) : mn ν r0.1.1.2 := by
  unfold b_L_isTold_3 at h
  by_cases c6 : (2 : Int32) ≤ x14
  · replace h := (if_pos c6).symm.trans h
    exact ml_L_isTold_216  _ _ _ _ _ _ _ h
  · replace h := (if_neg c6).symm.trans h
    exact ml_L_isTold_15 hmk3 _ _ _ _ _ _ _ _ h
set_option maxHeartbeats 4000000 in
set_option maxRecDepth 100000 in
theorem lb_L_isTold_3 {p : Program} {l : Launch} (hl : l.stackTraces = false) {e : Env} {s : State} {m : MethodId} {args : Array Value} {below : List Frame} {meth : Method} {c : Code} {D : va_G} {E : Nat → ClassId} {sz : Nat} {μ0 : MP} {ν0 : NC} {a0 : AS} {Ad0 : Nat → Nat → Nat} {Q : Nat → Nat} {B : Nat × (Nat → Nat)} {w : Nat} {r0 : ((MP × NC) × AS) × Int32} (C : cx p s m args meth c D E (Aof (zS μ0 ν0 a0 Ad0) [] s.heap.size) cL_isTold 22 "TradeLineLaw") (hEv : eV (Ad0 30 0) (Ad0 31 0) B (Aof (zS μ0 ν0 a0 Ad0) [] s.heap.size) s s.heap) (hN : vN s) (hr : meth.sig.returnType = (some .boolean)) (hz : s.heap.size = sz) (hI0 : lwI ν0) (hQ0 : lwQ Ad0 Q) {μ : MP} {ν : NC} {a : AS} {Ad : Nat → Nat → Nat} (hm0 : mn ν0 ν) (hp0 : kp ν0 Ad0 Ad) {x1 : Int32} {x14 : Int32}  {k3 : MP → NC → AS → Int32 → Int32 → Option (((MP × NC) × AS) × Int32)} (hmk3 : ∀ (μ : MP) (ν : NC) (a : AS) (z1 : Int32) (z14 : Int32), k3 μ ν a z1 z14 = some r0 → mn ν r0.1.1.2) (hk3 : ∀ (μ : MP) (ν : NC) (a : AS) (Ad : Nat → Nat → Nat) (z1 : Int32) (z14 : Int32), mn ν0 ν → kp ν0 Ad0 Ad → k3 μ ν a z1 z14 = some r0 → G p l e ({ frames := 11, cells := kc r0.1.1.2 - kc ν0, slots := ks r0.1.1.2 - ks ν0, locals := 229 } : Room) s m args below meth c D E (Aof (zS μ0 ν0 a0 Ad0) [] s.heap.size) 22 (MQ below (cQ D E sz (zS μ0 ν0 a0 Ad0) [] (pI (fun r u => r = r0.2 ∧ ∃ A1, u = (zS r0.1.1.1 r0.1.1.2 r0.1.2 A1, []) ∧ kp ν0 Ad0 A1))) args s (kc r0.1.1.2 - kc ν0) (ks r0.1.1.2 - ks ν0) (Aof (zS μ0 ν0 a0 Ad0) [] s.heap.size)) (zS μ ν a Ad) [] (kc ν - kc ν0) (ks ν - ks ν0) 3 [(0, .ref (Q 0)), (1, .int z1), (2, .ref (Q 1)), (3, .ref (Q 4)), (4, .ref (Q 5)), (5, .ref (Q 6)), (6, .ref (Q 7)), (8, .ref (Q 9)), (9, .ref (Q 10)), (10, .ref (Q 11)), (11, .ref (Q 12)), (12, .ref (Q 13)), (13, .ref (Q 14)), (14, .int z14)] []) (h : b_L_isTold_3 k3 w μ ν a x1 x14  = some r0) : G p l e ({ frames := 11, cells := kc r0.1.1.2 - kc ν0, slots := ks r0.1.1.2 - ks ν0, locals := 229 } : Room) s m args below meth c D E (Aof (zS μ0 ν0 a0 Ad0) [] s.heap.size) 22 (MQ below (cQ D E sz (zS μ0 ν0 a0 Ad0) [] (pI (fun r u => r = r0.2 ∧ ∃ A1, u = (zS r0.1.1.1 r0.1.1.2 r0.1.2 A1, []) ∧ kp ν0 Ad0 A1))) args s (kc r0.1.1.2 - kc ν0) (ks r0.1.1.2 - ks ν0) (Aof (zS μ0 ν0 a0 Ad0) [] s.heap.size)) (zS μ ν a Ad) [] (kc ν - kc ν0) (ks ν - ks ν0) 3 [(0, .ref (Q 0)), (1, .int x1), (2, .ref (Q 1)), (3, .ref (Q 4)), (4, .ref (Q 5)), (5, .ref (Q 6)), (6, .ref (Q 7)), (8, .ref (Q 9)), (9, .ref (Q 10)), (10, .ref (Q 11)), (11, .ref (Q 12)), (12, .ref (Q 13)), (13, .ref (Q 14)), (14, .int x14)] [] := by
  have m0 := mb_L_isTold_3 hmk3 h
  have e1 := m0.2.1; have e2 := m0.2.2.1; have e3 := hm0.2.1; have e4 := hm0.2.2.1
  have hI := lwI_mn hI0 hm0; have hQ := lwQ_kp hI0 hp0 hQ0
  unfold b_L_isTold_3 at h
  refine g_iload C dL_isTold_3 13 rfl ?_
  refine g_iconst (v := (2 : Int32)) C dL_isTold_5 (by decide) ?_
  refine g_icmp_ge (tgt := 210) C dL_isTold_6 (by decide) (fun c6 => ?_) (fun c6 => ?_)
  · replace h := (if_pos c6).symm.trans h
    refine g_iconst (v := (1 : Int32)) C dL_isTold_210 (by decide) ?_
    refine g_istore (lv' := [(14, .int (1 : Int32)), (0, .ref (Q 0)), (1, .int x1), (2, .ref (Q 1)), (3, .ref (Q 4)), (4, .ref (Q 5)), (5, .ref (Q 6)), (6, .ref (Q 7)), (8, .ref (Q 9)), (9, .ref (Q 10)), (10, .ref (Q 11)), (11, .ref (Q 12)), (12, .ref (Q 13)), (13, .ref (Q 14))]) C dL_isTold_211 (by decide) rfl ?_
    refine g_iconst (v := (0 : Int32)) C dL_isTold_213 (by decide) ?_
    refine g_istore (lv' := [(15, .int (0 : Int32)), (14, .int (1 : Int32)), (0, .ref (Q 0)), (1, .int x1), (2, .ref (Q 1)), (3, .ref (Q 4)), (4, .ref (Q 5)), (5, .ref (Q 6)), (6, .ref (Q 7)), (8, .ref (Q 9)), (9, .ref (Q 10)), (10, .ref (Q 11)), (11, .ref (Q 12)), (12, .ref (Q 13)), (13, .ref (Q 14))]) C dL_isTold_214 (by decide) rfl ?_
    refine g_lv [2, 3, 4, 9, 10, 11, 12, 13, 14, 1, 0] rfl ?_
    exact ll_L_isTold_216 hl C hEv hN hr hz hI0 hQ0  w _ _ _ _ _ _ _ hm0 hp0 h
  · replace h := (if_neg c6).symm.trans h
    refine g_iconst (v := (0 : Int32)) C dL_isTold_9 (by decide) ?_
    refine g_istore (lv' := [(15, .int (0 : Int32)), (0, .ref (Q 0)), (1, .int x1), (2, .ref (Q 1)), (3, .ref (Q 4)), (4, .ref (Q 5)), (5, .ref (Q 6)), (6, .ref (Q 7)), (8, .ref (Q 9)), (9, .ref (Q 10)), (10, .ref (Q 11)), (11, .ref (Q 12)), (12, .ref (Q 13)), (13, .ref (Q 14)), (14, .int x14)]) C dL_isTold_10 (by decide) rfl ?_
    refine g_iconst (v := (0 : Int32)) C dL_isTold_12 (by decide) ?_
    refine g_istore (lv' := [(16, .int (0 : Int32)), (15, .int (0 : Int32)), (0, .ref (Q 0)), (1, .int x1), (2, .ref (Q 1)), (3, .ref (Q 4)), (4, .ref (Q 5)), (5, .ref (Q 6)), (6, .ref (Q 7)), (8, .ref (Q 9)), (9, .ref (Q 10)), (10, .ref (Q 11)), (11, .ref (Q 12)), (12, .ref (Q 13)), (13, .ref (Q 14)), (14, .int x14)]) C dL_isTold_13 (by decide) rfl ?_
    refine g_lv [2, 3, 4, 5, 6, 7, 8, 9, 10, 11, 12, 13, 14, 15, 1, 0] rfl ?_
    exact ll_L_isTold_15 hl C hEv hN hr hz hI0 hQ0 hmk3 hk3 w _ _ _ _ _ _ _ _ hm0 hp0 h
noncomputable def l_L_isTold_3  (w : Nat) : Nat → MP → NC → AS → Int32 → Int32 → Option (((MP × NC) × AS) × Int32)
  | 0 => fun _ _ _ _ _ => none
  | n + 1 => fun μ ν a x1 x14 => b_L_isTold_3  (l_L_isTold_3  w n) w μ ν a x1 x14
theorem ml_L_isTold_3 {w : Nat} {r0 : ((MP × NC) × AS) × Int32}   : ∀ (n : Nat) (μ : MP) (ν : NC) (a : AS) (x1 : Int32) (x14 : Int32), l_L_isTold_3  w n μ ν a x1 x14 = some r0 → mn ν r0.1.1.2 := by
  intro n
  induction n with
  | zero => exact fun μ ν a x1 x14 h => absurd (show (none : Option (((MP × NC) × AS) × Int32)) = some r0 from h) (by simp)
  | succ n ih => exact fun μ ν a x1 x14 h => mb_L_isTold_3  ih h
theorem ll_L_isTold_3 {p : Program} {l : Launch} (hl : l.stackTraces = false) {e : Env} {s : State} {m : MethodId} {args : Array Value} {below : List Frame} {meth : Method} {c : Code} {D : va_G} {E : Nat → ClassId} {sz : Nat} {μ0 : MP} {ν0 : NC} {a0 : AS} {Ad0 : Nat → Nat → Nat} {Q : Nat → Nat} {B : Nat × (Nat → Nat)} {w : Nat} {r0 : ((MP × NC) × AS) × Int32} (C : cx p s m args meth c D E (Aof (zS μ0 ν0 a0 Ad0) [] s.heap.size) cL_isTold 22 "TradeLineLaw") (hEv : eV (Ad0 30 0) (Ad0 31 0) B (Aof (zS μ0 ν0 a0 Ad0) [] s.heap.size) s s.heap) (hN : vN s) (hr : meth.sig.returnType = (some .boolean)) (hz : s.heap.size = sz) (hI0 : lwI ν0) (hQ0 : lwQ Ad0 Q)   : ∀ (n : Nat) (μ : MP) (ν : NC) (a : AS) (Ad : Nat → Nat → Nat) (x1 : Int32) (x14 : Int32), mn ν0 ν → kp ν0 Ad0 Ad → l_L_isTold_3  w n μ ν a x1 x14 = some r0 → G p l e ({ frames := 11, cells := kc r0.1.1.2 - kc ν0, slots := ks r0.1.1.2 - ks ν0, locals := 229 } : Room) s m args below meth c D E (Aof (zS μ0 ν0 a0 Ad0) [] s.heap.size) 22 (MQ below (cQ D E sz (zS μ0 ν0 a0 Ad0) [] (pI (fun r u => r = r0.2 ∧ ∃ A1, u = (zS r0.1.1.1 r0.1.1.2 r0.1.2 A1, []) ∧ kp ν0 Ad0 A1))) args s (kc r0.1.1.2 - kc ν0) (ks r0.1.1.2 - ks ν0) (Aof (zS μ0 ν0 a0 Ad0) [] s.heap.size)) (zS μ ν a Ad) [] (kc ν - kc ν0) (ks ν - ks ν0) 3 [(0, .ref (Q 0)), (1, .int x1), (2, .ref (Q 1)), (3, .ref (Q 4)), (4, .ref (Q 5)), (5, .ref (Q 6)), (6, .ref (Q 7)), (8, .ref (Q 9)), (9, .ref (Q 10)), (10, .ref (Q 11)), (11, .ref (Q 12)), (12, .ref (Q 13)), (13, .ref (Q 14)), (14, .int x14)] [] := by
  intro n
  induction n with
  | zero => exact fun μ ν a Ad x1 x14 hm0 hp0 h => absurd (show (none : Option (((MP × NC) × AS) × Int32)) = some r0 from h) (by simp)
  | succ n ih => exact fun μ ν a Ad x1 x14 hm0 hp0 h => lb_L_isTold_3 (w := w) hl C hEv hN hr hz hI0 hQ0 hm0 hp0  (fun μ ν a x1 x14 h => ml_L_isTold_3  n μ ν a x1 x14 h) ih h
noncomputable def f_L_isTold  (w : Nat) (μ : MP) (ν : NC) (a : AS) (x1 : Int32)  : Option (((MP × NC) × AS) × Int32) := l_L_isTold_3  w w μ ν a x1 (0 : Int32)
theorem mb_L_isTold_0 {w : Nat} {μ : MP} {ν : NC} {a : AS} {x1 : Int32}  {r0 : ((MP × NC) × AS) × Int32}   (h : f_L_isTold  w μ ν a x1  = some r0) : mn ν r0.1.1.2 := by
  unfold f_L_isTold at h
  exact ml_L_isTold_3  _ _ _ _ _ _ h
set_option maxHeartbeats 4000000 in
set_option maxRecDepth 100000 in
theorem lb_L_isTold_0 {p : Program} {l : Launch} (hl : l.stackTraces = false) {e : Env} {s : State} {m : MethodId} {args : Array Value} {below : List Frame} {meth : Method} {c : Code} {D : va_G} {E : Nat → ClassId} {sz : Nat} {μ0 : MP} {ν0 : NC} {a0 : AS} {Ad0 : Nat → Nat → Nat} {Q : Nat → Nat} {B : Nat × (Nat → Nat)} {w : Nat} {r0 : ((MP × NC) × AS) × Int32} (C : cx p s m args meth c D E (Aof (zS μ0 ν0 a0 Ad0) [] s.heap.size) cL_isTold 22 "TradeLineLaw") (hEv : eV (Ad0 30 0) (Ad0 31 0) B (Aof (zS μ0 ν0 a0 Ad0) [] s.heap.size) s s.heap) (hN : vN s) (hr : meth.sig.returnType = (some .boolean)) (hz : s.heap.size = sz) (hI0 : lwI ν0) (hQ0 : lwQ Ad0 Q) {μ : MP} {ν : NC} {a : AS} {Ad : Nat → Nat → Nat} (hm0 : mn ν0 ν) (hp0 : kp ν0 Ad0 Ad) {x1 : Int32}    (h : f_L_isTold  w μ ν a x1  = some r0) : G p l e ({ frames := 11, cells := kc r0.1.1.2 - kc ν0, slots := ks r0.1.1.2 - ks ν0, locals := 229 } : Room) s m args below meth c D E (Aof (zS μ0 ν0 a0 Ad0) [] s.heap.size) 22 (MQ below (cQ D E sz (zS μ0 ν0 a0 Ad0) [] (pI (fun r u => r = r0.2 ∧ ∃ A1, u = (zS r0.1.1.1 r0.1.1.2 r0.1.2 A1, []) ∧ kp ν0 Ad0 A1))) args s (kc r0.1.1.2 - kc ν0) (ks r0.1.1.2 - ks ν0) (Aof (zS μ0 ν0 a0 Ad0) [] s.heap.size)) (zS μ ν a Ad) [] (kc ν - kc ν0) (ks ν - ks ν0) 0 [(0, .ref (Q 0)), (1, .int x1), (2, .ref (Q 1)), (3, .ref (Q 4)), (4, .ref (Q 5)), (5, .ref (Q 6)), (6, .ref (Q 7)), (7, .ref (Q 8)), (8, .ref (Q 9)), (9, .ref (Q 10)), (10, .ref (Q 11)), (11, .ref (Q 12)), (12, .ref (Q 13)), (13, .ref (Q 14))] [] := by
  have m0 := mb_L_isTold_0  h
  have e1 := m0.2.1; have e2 := m0.2.2.1; have e3 := hm0.2.1; have e4 := hm0.2.2.1
  have hI := lwI_mn hI0 hm0; have hQ := lwQ_kp hI0 hp0 hQ0
  unfold f_L_isTold at h
  refine g_iconst (v := (0 : Int32)) C dL_isTold_0 (by decide) ?_
  refine g_istore (lv' := [(14, .int (0 : Int32)), (0, .ref (Q 0)), (1, .int x1), (2, .ref (Q 1)), (3, .ref (Q 4)), (4, .ref (Q 5)), (5, .ref (Q 6)), (6, .ref (Q 7)), (7, .ref (Q 8)), (8, .ref (Q 9)), (9, .ref (Q 10)), (10, .ref (Q 11)), (11, .ref (Q 12)), (12, .ref (Q 13)), (13, .ref (Q 14))]) C dL_isTold_1 (by decide) rfl ?_
  refine g_lv [1, 2, 3, 4, 5, 6, 7, 9, 10, 11, 12, 13, 14, 0] rfl ?_
  exact ll_L_isTold_3 hl C hEv hN hr hz hI0 hQ0  w _ _ _ _ _ _ hm0 hp0 h
theorem m_L_isTold {w : Nat} {μ : MP} {ν : NC} {a : AS} {x1 : Int32} {r0 : ((MP × NC) × AS) × Int32} (h : f_L_isTold w μ ν a x1 = some r0) : mn ν r0.1.1.2 := mb_L_isTold_0 h
theorem c_L_isTold (l : Launch) (hl : l.stackTraces = false) (B : Nat × (Nat → Nat)) (μ : MP) (ν : NC) (a : AS) (Ad : Nat → Nat → Nat) (Q : Nat → Nat) (hI : lwI ν) (hQ : lwQ Ad Q) (w : Nat) (x1 : Int32) (r0 : ((MP × NC) × AS) × Int32) (h : f_L_isTold w μ ν a x1 = some r0) : ∀ D E sz, Met l yL_isTold gwL_isTold ({ frames := 11, cells := kc r0.1.1.2 - kc ν, slots := ks r0.1.1.2 - ks ν, locals := 229 } : Room) (cPh D E sz B (zS μ ν a Ad) [.ref (Q 0), .int x1, .ref (Q 1), .ref (Q 4), .ref (Q 5), .ref (Q 6), .ref (Q 7), .ref (Q 8), .ref (Q 9), .ref (Q 10), .ref (Q 11), .ref (Q 12), .ref (Q 13), .ref (Q 14)]) (cQ D E sz (zS μ ν a Ad) [] (pI (fun r u => r = r0.2 ∧ ∃ A1, u = (zS r0.1.1.1 r0.1.1.2 r0.1.2 A1, []) ∧ kp ν Ad A1))) (kc r0.1.1.2 - kc ν) (ks r0.1.1.2 - ks ν) (Aof (zS μ ν a Ad) [] sz) := by
  intro D E sz
  refine g_ofN (cc := cL_isTold) (maxL := 22) (ret := (some .boolean)) (own := "TradeLineLaw") (by decide) rfl rfl (Nat.le_of_ble_eq_true rfl) ?_
  intro p e s m args below meth c C hr hz hEv hN
  refine g_lv (lv' := [(0, .ref (Q 0)), (1, .int x1), (2, .ref (Q 1)), (3, .ref (Q 4)), (4, .ref (Q 5)), (5, .ref (Q 6)), (6, .ref (Q 7)), (7, .ref (Q 8)), (8, .ref (Q 9)), (9, .ref (Q 10)), (10, .ref (Q 11)), (11, .ref (Q 12)), (12, .ref (Q 13)), (13, .ref (Q 14))]) [0, 1, 2, 3, 4, 5, 6, 7, 8, 9, 10, 11, 12, 13] rfl ?_
  refine g_widen (k := kc ν - kc ν) (n := ks ν - ks ν) (Nat.zero_le _) (Nat.zero_le _) ?_
  exact lb_L_isTold_0 hl C hEv hN hr hz hI hQ (mn_rfl _) (kp_rfl _ _) h
