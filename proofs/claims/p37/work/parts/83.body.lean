theorem rmCl {x : Nat} (h : x ≤ 300000) : x ≤ room_1.cells := Nat.le_trans h (Nat.le_of_ble_eq_true rfl)
theorem rmSl {x : Nat} (h : x ≤ 3000000) : x ≤ room_1.slots := Nat.le_trans h (Nat.le_of_ble_eq_true rfl)
noncomputable def b_L_law_493 (L : Nat) (xs : Nat → Int32) (k136 : MP → NC → AS → Int32 → Option (((MP × NC) × AS) × Int32)) (w : Nat) (μ : MP) (ν : NC) (a : AS) (x16 : Int32) (s0 : Int32) : Option (((MP × NC) × AS) × Int32) := (if s0 = (0 : Int32) then (none) else (yl (x16 + (1 : Int32)) (fun t18 => k136 μ ν a t18)))
theorem mb_L_law_493 {L : Nat} {xs : Nat → Int32} {w : Nat} {μ : MP} {ν : NC} {a : AS} {x16 : Int32} {s0 : Int32} {r0 : ((MP × NC) × AS) × Int32} {k136 : MP → NC → AS → Int32 → Option (((MP × NC) × AS) × Int32)} (hmk136 : ∀ (μ : MP) (ν : NC) (a : AS) (z16 : Int32), k136 μ ν a z16 = some r0 → mn ν r0.1.1.2) (h : b_L_law_493 L xs k136 w μ ν a x16 s0 = some r0) : mn ν r0.1.1.2 := by
  unfold b_L_law_493 at h
  by_cases c493 : s0 = (0 : Int32)
  · replace h := (if_pos c493).symm.trans h
    exact absurd h (by simp)
  · replace h := (if_neg c493).symm.trans h
    obtain ⟨t18, et18⟩ : ∃ y, x16 + (1 : Int32) = y := ⟨_, rfl⟩
    replace h := yl_of h et18
    exact hmk136 _ _ _ _ h
set_option maxHeartbeats 4000000 in
set_option maxRecDepth 100000 in
theorem lb_L_law_493 {p : Program} {l : Launch} (hl : l.stackTraces = false) {e : Env} {s : State} {m : MethodId} {below : List Frame} {meth : Method} {c : Code} {D : va_G} {E : Nat → ClassId} {b L : Nat} {xs : Nat → Int32} {a30 a31 kC kS : Nat} {ν0 : NC} {Ad0 : Nat → Nat → Nat} {Q : Nat → Nat} {B : Nat × (Nat → Nat)} {w : Nat} {r0 : ((MP × NC) × AS) × Int32} (C : cx p s m #[Value.ref b] meth c D E (fun q => s.heap.size ≤ q) cL_law 23 "TradeLineLaw") (hEv : eV a30 a31 B (fun q => s.heap.size ≤ q) s s.heap) (hN : vN s) (hr : meth.sig.returnType = ret) (hX : va_X b L xs s s.heap) (hbl : b < s.heap.size) (h30 : Ad0 30 0 = a30 ∧ Ad0 31 0 = a31) (hI0 : lwI ν0) (hQ0 : lwQ Ad0 Q) (hK : kC + (kc r0.1.1.2 - kc ν0) ≤ 300000 ∧ kS + (ks r0.1.1.2 - ks ν0) ≤ 3000000) {μ : MP} {ν : NC} {a : AS} {Ad : Nat → Nat → Nat} (hm0 : mn ν0 ν) (hp0 : kp ν0 Ad0 Ad) {x16 : Int32} {s0 : Int32} {k136 : MP → NC → AS → Int32 → Option (((MP × NC) × AS) × Int32)} (hmk136 : ∀ (μ : MP) (ν : NC) (a : AS) (z16 : Int32), k136 μ ν a z16 = some r0 → mn ν r0.1.1.2) (hk136 : ∀ (μ : MP) (ν : NC) (a : AS) (Ad : Nat → Nat → Nat) (z16 : Int32), mn ν0 ν → kp ν0 Ad0 Ad → k136 μ ν a z16 = some r0 → G p l e room_1 s m #[Value.ref b] below meth c D E (fun q => s.heap.size ≤ q) 23 (lw_Z below #[Value.ref b] s) (zS μ ν a Ad) [] (kC + (kc ν - kc ν0)) (kS + (ks ν - ks ν0)) 136 [(0, .ref b), (1, .ref (Q 0)), (2, .ref (Q 1)), (3, .ref (Q 2)), (4, .ref (Q 3)), (5, .ref (Q 4)), (6, .ref (Q 5)), (7, .ref (Q 6)), (8, .ref (Q 7)), (9, .ref (Q 8)), (10, .ref (Q 9)), (11, .ref (Q 10)), (12, .ref (Q 11)), (13, .ref (Q 12)), (14, .ref (Q 13)), (15, .ref (Q 14)), (16, .int z16)] []) (h : b_L_law_493 L xs k136 w μ ν a x16 s0 = some r0) : G p l e room_1 s m #[Value.ref b] below meth c D E (fun q => s.heap.size ≤ q) 23 (lw_Z below #[Value.ref b] s) (zS μ ν a Ad) [] (kC + (kc ν - kc ν0)) (kS + (ks ν - ks ν0)) 493 [(0, .ref b), (1, .ref (Q 0)), (2, .ref (Q 1)), (3, .ref (Q 2)), (4, .ref (Q 3)), (5, .ref (Q 4)), (6, .ref (Q 5)), (7, .ref (Q 6)), (8, .ref (Q 7)), (9, .ref (Q 8)), (10, .ref (Q 9)), (11, .ref (Q 10)), (12, .ref (Q 11)), (13, .ref (Q 12)), (14, .ref (Q 13)), (15, .ref (Q 14)), (16, .int x16)] [.int s0] := by
  have m0 := mb_L_law_493 hmk136 h
  have e1 := m0.2.1; have e2 := m0.2.2.1; have e3 := hm0.2.1; have e4 := hm0.2.2.1
  have h3 : Ad 30 0 = a30 ∧ Ad 31 0 = a31 := ⟨(hp0.2.1 0).trans h30.1, (hp0.2.2 0).trans h30.2⟩
  have hI := lwI_mn hI0 hm0; have hQ := lwQ_kp hI0 hp0 hQ0
  unfold b_L_law_493 at h
  refine g_if_ne (tgt := 498) C dL_law_493 (by decide) (fun c493 => ?_) (fun c493 => ?_)
  · replace h := (if_neg c493).symm.trans h
    obtain ⟨t18, et18⟩ : ∃ y : Int32, x16 + (1 : Int32) = y := ⟨_, rfl⟩
    replace h := yl_of h et18
    refine g_iinc (v := t18) (lv' := [(16, .int t18), (0, .ref b), (1, .ref (Q 0)), (2, .ref (Q 1)), (3, .ref (Q 2)), (4, .ref (Q 3)), (5, .ref (Q 4)), (6, .ref (Q 5)), (7, .ref (Q 6)), (8, .ref (Q 7)), (9, .ref (Q 8)), (10, .ref (Q 9)), (11, .ref (Q 10)), (12, .ref (Q 11)), (13, .ref (Q 12)), (14, .ref (Q 13)), (15, .ref (Q 14))]) C dL_law_498 16 rfl (by rw [← et18]; rfl) (by decide) rfl ?_
    refine g_goto (tgt := 136) C dL_law_501 (by decide) ?_
    refine g_lv [1, 2, 3, 4, 5, 6, 7, 8, 9, 10, 11, 12, 13, 14, 15, 16, 0] rfl ?_
    exact hk136 _ _ _ _ _ hm0 hp0 h
  · replace h := (if_pos c493).symm.trans h
    refine g_iconst (v := (0 : Int32)) C dL_law_496 (by decide) ?_
    exact absurd h (by simp)
noncomputable def b_L_law_452 (L : Nat) (xs : Nat → Int32) (k136 : MP → NC → AS → Int32 → Option (((MP × NC) × AS) × Int32)) (w : Nat) (μ : MP) (ν : NC) (a : AS) (x16 : Int32) (x17 : Int32) (x19 : Int32) (s0 : Int32) : Option (((MP × NC) × AS) × Int32) := (if s0 = (0 : Int32) then (none) else ((f_L_isTold w μ ν a ((x17 >>> ((4 : Int32) &&& 31)) ^^^ x19)).bind (fun v17 => b_L_law_493 L xs k136 w v17.1.1.1 v17.1.1.2 v17.1.2 x16 v17.2)))
theorem mb_L_law_452 {L : Nat} {xs : Nat → Int32} {w : Nat} {μ : MP} {ν : NC} {a : AS} {x16 : Int32} {x17 : Int32} {x19 : Int32} {s0 : Int32} {r0 : ((MP × NC) × AS) × Int32} {k136 : MP → NC → AS → Int32 → Option (((MP × NC) × AS) × Int32)} (hmk136 : ∀ (μ : MP) (ν : NC) (a : AS) (z16 : Int32), k136 μ ν a z16 = some r0 → mn ν r0.1.1.2) (h : b_L_law_452 L xs k136 w μ ν a x16 x17 x19 s0 = some r0) : mn ν r0.1.1.2 := by
  unfold b_L_law_452 at h
  by_cases c456 : s0 = (0 : Int32)
  · replace h := (if_pos c456).symm.trans h
    exact absurd h (by simp)
  · replace h := (if_neg c456).symm.trans h
    obtain ⟨v17, hv17, h⟩ := bind_of h
    exact mn_trans (m_L_isTold hv17) (mb_L_law_493 hmk136 h)
set_option maxHeartbeats 4000000 in
set_option maxRecDepth 100000 in
theorem lb_L_law_452 {p : Program} {l : Launch} (hl : l.stackTraces = false) {e : Env} {s : State} {m : MethodId} {below : List Frame} {meth : Method} {c : Code} {D : va_G} {E : Nat → ClassId} {b L : Nat} {xs : Nat → Int32} {a30 a31 kC kS : Nat} {ν0 : NC} {Ad0 : Nat → Nat → Nat} {Q : Nat → Nat} {B : Nat × (Nat → Nat)} {w : Nat} {r0 : ((MP × NC) × AS) × Int32} (C : cx p s m #[Value.ref b] meth c D E (fun q => s.heap.size ≤ q) cL_law 23 "TradeLineLaw") (hEv : eV a30 a31 B (fun q => s.heap.size ≤ q) s s.heap) (hN : vN s) (hr : meth.sig.returnType = ret) (hX : va_X b L xs s s.heap) (hbl : b < s.heap.size) (h30 : Ad0 30 0 = a30 ∧ Ad0 31 0 = a31) (hI0 : lwI ν0) (hQ0 : lwQ Ad0 Q) (hK : kC + (kc r0.1.1.2 - kc ν0) ≤ 300000 ∧ kS + (ks r0.1.1.2 - ks ν0) ≤ 3000000) {μ : MP} {ν : NC} {a : AS} {Ad : Nat → Nat → Nat} (hm0 : mn ν0 ν) (hp0 : kp ν0 Ad0 Ad) {x16 : Int32} {x17 : Int32} {x19 : Int32} {s0 : Int32} {k136 : MP → NC → AS → Int32 → Option (((MP × NC) × AS) × Int32)} (hmk136 : ∀ (μ : MP) (ν : NC) (a : AS) (z16 : Int32), k136 μ ν a z16 = some r0 → mn ν r0.1.1.2) (hk136 : ∀ (μ : MP) (ν : NC) (a : AS) (Ad : Nat → Nat → Nat) (z16 : Int32), mn ν0 ν → kp ν0 Ad0 Ad → k136 μ ν a z16 = some r0 → G p l e room_1 s m #[Value.ref b] below meth c D E (fun q => s.heap.size ≤ q) 23 (lw_Z below #[Value.ref b] s) (zS μ ν a Ad) [] (kC + (kc ν - kc ν0)) (kS + (ks ν - ks ν0)) 136 [(0, .ref b), (1, .ref (Q 0)), (2, .ref (Q 1)), (3, .ref (Q 2)), (4, .ref (Q 3)), (5, .ref (Q 4)), (6, .ref (Q 5)), (7, .ref (Q 6)), (8, .ref (Q 7)), (9, .ref (Q 8)), (10, .ref (Q 9)), (11, .ref (Q 10)), (12, .ref (Q 11)), (13, .ref (Q 12)), (14, .ref (Q 13)), (15, .ref (Q 14)), (16, .int z16)] []) (h : b_L_law_452 L xs k136 w μ ν a x16 x17 x19 s0 = some r0) : G p l e room_1 s m #[Value.ref b] below meth c D E (fun q => s.heap.size ≤ q) 23 (lw_Z below #[Value.ref b] s) (zS μ ν a Ad) [] (kC + (kc ν - kc ν0)) (kS + (ks ν - ks ν0)) 452 [(0, .ref b), (1, .ref (Q 0)), (2, .ref (Q 1)), (3, .ref (Q 2)), (4, .ref (Q 3)), (5, .ref (Q 4)), (6, .ref (Q 5)), (7, .ref (Q 6)), (8, .ref (Q 7)), (9, .ref (Q 8)), (10, .ref (Q 9)), (11, .ref (Q 10)), (12, .ref (Q 11)), (13, .ref (Q 12)), (14, .ref (Q 13)), (15, .ref (Q 14)), (16, .int x16), (17, .int x17), (19, .int x19)] [.int s0] := by
  have m0 := mb_L_law_452 hmk136 h
  have e1 := m0.2.1; have e2 := m0.2.2.1; have e3 := hm0.2.1; have e4 := hm0.2.2.1
  have h3 : Ad 30 0 = a30 ∧ Ad 31 0 = a31 := ⟨(hp0.2.1 0).trans h30.1, (hp0.2.2 0).trans h30.2⟩
  have hI := lwI_mn hI0 hm0; have hQ := lwQ_kp hI0 hp0 hQ0
  unfold b_L_law_452 at h
  refine g_istore (lv' := [(22, .int s0), (0, .ref b), (1, .ref (Q 0)), (2, .ref (Q 1)), (3, .ref (Q 2)), (4, .ref (Q 3)), (5, .ref (Q 4)), (6, .ref (Q 5)), (7, .ref (Q 6)), (8, .ref (Q 7)), (9, .ref (Q 8)), (10, .ref (Q 9)), (11, .ref (Q 10)), (12, .ref (Q 11)), (13, .ref (Q 12)), (14, .ref (Q 13)), (15, .ref (Q 14)), (16, .int x16), (17, .int x17), (19, .int x19)]) C dL_law_452 (by decide) rfl ?_
  refine g_iload C dL_law_454 0 rfl ?_
  refine g_if_eq (tgt := 496) C dL_law_456 (by decide) (fun c456 => ?_) (fun c456 => ?_)
  · replace h := (if_pos c456).symm.trans h
    refine g_iconst (v := (0 : Int32)) C dL_law_496 (by decide) ?_
    exact absurd h (by simp)
  · replace h := (if_neg c456).symm.trans h
    refine g_aload_n C dL_law_459 rfl 2 rfl ?_
    refine g_iload C dL_law_460 18 rfl ?_
    refine g_iconst (v := (4 : Int32)) C dL_law_462 (by decide) ?_
    refine g_ishr C dL_law_463 ?_
    refine g_iload C dL_law_464 19 rfl ?_
    refine g_ixor C dL_law_466 ?_
    refine g_aload_n C dL_law_467 rfl 3 rfl ?_
    refine g_aload C dL_law_468 6 rfl ?_
    refine g_aload C dL_law_470 7 rfl ?_
    refine g_aload C dL_law_472 8 rfl ?_
    refine g_aload C dL_law_474 9 rfl ?_
    refine g_aload C dL_law_476 10 rfl ?_
    refine g_aload C dL_law_478 11 rfl ?_
    refine g_aload C dL_law_480 12 rfl ?_
    refine g_aload C dL_law_482 13 rfl ?_
    refine g_aload C dL_law_484 14 rfl ?_
    refine g_aload C dL_law_486 15 rfl ?_
    refine g_aload C dL_law_488 16 rfl ?_
    obtain ⟨v17, hv17, h⟩ := bind_of h
    have m2 := m_L_isTold hv17
    have m3 := mb_L_law_493 hmk136 h
    have a1 := hm0.2.1; have a2 := hm0.2.2.1; have b1 := m2.2.1; have b2 := m2.2.2.1; have d1 := m3.2.1; have d2 := m3.2.2.1
    refine g_cSN (n := 14) (exr := []) C hEv hN h3 [_, _, _, _, _, _, _, _, _, _, _, _, _, _] _ rfl rfl [] rfl rfl (fun sz => c_L_isTold l hl B _ ν _ Ad Q hI hQ w _ _ hv17 D E sz) rfl gw_1216 gw_0 gw_1214 gw_1215 ⟨by decide +kernel, by decide +kernel, by decide +kernel⟩ ⟨rfl, rfl⟩ ⟨Nat.le_of_ble_eq_true rfl, Nat.le_of_ble_eq_true rfl⟩ (Nat.le_of_ble_eq_true rfl) dL_law_490 ⟨rmCl (by omega), rmSl (by omega)⟩ (fun r u hp hx => ?_)
    obtain ⟨er, A1, rfl, hkp⟩ := hp
    rw [er]
    try dsimp only [List.append_nil]
    refine g_widen (k := kC + (kc v17.1.1.2 - kc ν0)) (n := kS + (ks v17.1.1.2 - ks ν0)) (by omega) (by omega) ?_
    refine g_lv [1, 2, 3, 4, 5, 6, 7, 8, 9, 10, 11, 12, 13, 14, 15, 16, 17] rfl ?_
    exact lb_L_law_493 hl C hEv hN hr hX hbl h30 hI0 hQ0 hK (mn_trans hm0 m2) (kp_trans hp0 hm0 hkp) hmk136 hk136 h
noncomputable def b_L_law_423 (L : Nat) (xs : Nat → Int32) (k136 : MP → NC → AS → Int32 → Option (((MP × NC) × AS) × Int32)) (w : Nat) (μ : MP) (ν : NC) (a : AS) (x16 : Int32) (x17 : Int32) (x18 : Int32) (x19 : Int32) (s0 : Int32) : Option (((MP × NC) × AS) × Int32) := (f_L_trades w μ ν a s0 x18 x19).bind (fun v16 => b_L_law_452 L xs k136 w v16.1.1.1 v16.1.1.2 v16.1.2 x16 x17 x19 v16.2)
theorem mb_L_law_423 {L : Nat} {xs : Nat → Int32} {w : Nat} {μ : MP} {ν : NC} {a : AS} {x16 : Int32} {x17 : Int32} {x18 : Int32} {x19 : Int32} {s0 : Int32} {r0 : ((MP × NC) × AS) × Int32} {k136 : MP → NC → AS → Int32 → Option (((MP × NC) × AS) × Int32)} (hmk136 : ∀ (μ : MP) (ν : NC) (a : AS) (z16 : Int32), k136 μ ν a z16 = some r0 → mn ν r0.1.1.2) (h : b_L_law_423 L xs k136 w μ ν a x16 x17 x18 x19 s0 = some r0) : mn ν r0.1.1.2 := by
  unfold b_L_law_423 at h
  obtain ⟨v16, hv16, h⟩ := bind_of h
  exact mn_trans (m_L_trades hv16) (mb_L_law_452 hmk136 h)
set_option maxHeartbeats 4000000 in
set_option maxRecDepth 100000 in
theorem lb_L_law_423 {p : Program} {l : Launch} (hl : l.stackTraces = false) {e : Env} {s : State} {m : MethodId} {below : List Frame} {meth : Method} {c : Code} {D : va_G} {E : Nat → ClassId} {b L : Nat} {xs : Nat → Int32} {a30 a31 kC kS : Nat} {ν0 : NC} {Ad0 : Nat → Nat → Nat} {Q : Nat → Nat} {B : Nat × (Nat → Nat)} {w : Nat} {r0 : ((MP × NC) × AS) × Int32} (C : cx p s m #[Value.ref b] meth c D E (fun q => s.heap.size ≤ q) cL_law 23 "TradeLineLaw") (hEv : eV a30 a31 B (fun q => s.heap.size ≤ q) s s.heap) (hN : vN s) (hr : meth.sig.returnType = ret) (hX : va_X b L xs s s.heap) (hbl : b < s.heap.size) (h30 : Ad0 30 0 = a30 ∧ Ad0 31 0 = a31) (hI0 : lwI ν0) (hQ0 : lwQ Ad0 Q) (hK : kC + (kc r0.1.1.2 - kc ν0) ≤ 300000 ∧ kS + (ks r0.1.1.2 - ks ν0) ≤ 3000000) {μ : MP} {ν : NC} {a : AS} {Ad : Nat → Nat → Nat} (hm0 : mn ν0 ν) (hp0 : kp ν0 Ad0 Ad) {x16 : Int32} {x17 : Int32} {x18 : Int32} {x19 : Int32} {s0 : Int32} {k136 : MP → NC → AS → Int32 → Option (((MP × NC) × AS) × Int32)} (hmk136 : ∀ (μ : MP) (ν : NC) (a : AS) (z16 : Int32), k136 μ ν a z16 = some r0 → mn ν r0.1.1.2) (hk136 : ∀ (μ : MP) (ν : NC) (a : AS) (Ad : Nat → Nat → Nat) (z16 : Int32), mn ν0 ν → kp ν0 Ad0 Ad → k136 μ ν a z16 = some r0 → G p l e room_1 s m #[Value.ref b] below meth c D E (fun q => s.heap.size ≤ q) 23 (lw_Z below #[Value.ref b] s) (zS μ ν a Ad) [] (kC + (kc ν - kc ν0)) (kS + (ks ν - ks ν0)) 136 [(0, .ref b), (1, .ref (Q 0)), (2, .ref (Q 1)), (3, .ref (Q 2)), (4, .ref (Q 3)), (5, .ref (Q 4)), (6, .ref (Q 5)), (7, .ref (Q 6)), (8, .ref (Q 7)), (9, .ref (Q 8)), (10, .ref (Q 9)), (11, .ref (Q 10)), (12, .ref (Q 11)), (13, .ref (Q 12)), (14, .ref (Q 13)), (15, .ref (Q 14)), (16, .int z16)] []) (h : b_L_law_423 L xs k136 w μ ν a x16 x17 x18 x19 s0 = some r0) : G p l e room_1 s m #[Value.ref b] below meth c D E (fun q => s.heap.size ≤ q) 23 (lw_Z below #[Value.ref b] s) (zS μ ν a Ad) [] (kC + (kc ν - kc ν0)) (kS + (ks ν - ks ν0)) 423 [(0, .ref b), (1, .ref (Q 0)), (2, .ref (Q 1)), (3, .ref (Q 2)), (4, .ref (Q 3)), (5, .ref (Q 4)), (6, .ref (Q 5)), (7, .ref (Q 6)), (8, .ref (Q 7)), (9, .ref (Q 8)), (10, .ref (Q 9)), (11, .ref (Q 10)), (12, .ref (Q 11)), (13, .ref (Q 12)), (14, .ref (Q 13)), (15, .ref (Q 14)), (16, .int x16), (17, .int x17), (18, .int x18), (19, .int x19)] [.int s0, .ref (Q 0)] := by
  have m0 := mb_L_law_423 hmk136 h
  have e1 := m0.2.1; have e2 := m0.2.2.1; have e3 := hm0.2.1; have e4 := hm0.2.2.1
  have h3 : Ad 30 0 = a30 ∧ Ad 31 0 = a31 := ⟨(hp0.2.1 0).trans h30.1, (hp0.2.2 0).trans h30.2⟩
  have hI := lwI_mn hI0 hm0; have hQ := lwQ_kp hI0 hp0 hQ0
  unfold b_L_law_423 at h
  refine g_iload C dL_law_423 18 rfl ?_
  refine g_iload C dL_law_425 19 rfl ?_
  refine g_aload_n C dL_law_427 rfl 2 rfl ?_
  refine g_aload_n C dL_law_428 rfl 3 rfl ?_
  refine g_aload C dL_law_429 4 rfl ?_
  refine g_aload C dL_law_431 5 rfl ?_
  refine g_aload C dL_law_433 6 rfl ?_
  refine g_aload C dL_law_435 9 rfl ?_
  refine g_aload C dL_law_437 10 rfl ?_
  refine g_aload C dL_law_439 11 rfl ?_
  refine g_aload C dL_law_441 12 rfl ?_
  refine g_aload C dL_law_443 13 rfl ?_
  refine g_aload C dL_law_445 14 rfl ?_
  refine g_aload C dL_law_447 15 rfl ?_
  obtain ⟨v16, hv16, h⟩ := bind_of h
  have m2 := m_L_trades hv16
  have m3 := mb_L_law_452 hmk136 h
  have a1 := hm0.2.1; have a2 := hm0.2.2.1; have b1 := m2.2.1; have b2 := m2.2.2.1; have d1 := m3.2.1; have d2 := m3.2.2.1
  refine g_cSN (n := 16) (exr := []) C hEv hN h3 [_, _, _, _, _, _, _, _, _, _, _, _, _, _, _, _] _ rfl rfl [] rfl rfl (fun sz => c_L_trades l hl B _ ν _ Ad Q hI hQ w _ _ _ _ hv16 D E sz) rfl gw_1064 gw_0 gw_1062 gw_1063 ⟨by decide +kernel, by decide +kernel, by decide +kernel⟩ ⟨rfl, rfl⟩ ⟨Nat.le_of_ble_eq_true rfl, Nat.le_of_ble_eq_true rfl⟩ (Nat.le_of_ble_eq_true rfl) dL_law_449 ⟨rmCl (by omega), rmSl (by omega)⟩ (fun r u hp hx => ?_)
  obtain ⟨er, A1, rfl, hkp⟩ := hp
  rw [er]
  try dsimp only [List.append_nil]
  refine g_widen (k := kC + (kc v16.1.1.2 - kc ν0)) (n := kS + (ks v16.1.1.2 - ks ν0)) (by omega) (by omega) ?_
  refine g_lv [0, 1, 2, 3, 4, 5, 6, 7, 8, 9, 10, 11, 12, 13, 14, 15, 16, 17, 19] rfl ?_
  exact lb_L_law_452 hl C hEv hN hr hX hbl h30 hI0 hQ0 hK (mn_trans hm0 m2) (kp_trans hp0 hm0 hkp) hmk136 hk136 h
noncomputable def b_L_law_391 (L : Nat) (xs : Nat → Int32) (k136 : MP → NC → AS → Int32 → Option (((MP × NC) × AS) × Int32)) (w : Nat) (μ : MP) (ν : NC) (a : AS) (x16 : Int32) (x17 : Int32) (x19 : Int32) (s0 : Int32) : Option (((MP × NC) × AS) × Int32) := b_L_law_452 L xs k136 w μ ν a x16 x17 x19 s0
theorem mb_L_law_391 {L : Nat} {xs : Nat → Int32} {w : Nat} {μ : MP} {ν : NC} {a : AS} {x16 : Int32} {x17 : Int32} {x19 : Int32} {s0 : Int32} {r0 : ((MP × NC) × AS) × Int32} {k136 : MP → NC → AS → Int32 → Option (((MP × NC) × AS) × Int32)} (hmk136 : ∀ (μ : MP) (ν : NC) (a : AS) (z16 : Int32), k136 μ ν a z16 = some r0 → mn ν r0.1.1.2) (h : b_L_law_391 L xs k136 w μ ν a x16 x17 x19 s0 = some r0) : mn ν r0.1.1.2 := by
  unfold b_L_law_391 at h
  exact mb_L_law_452 hmk136 h
set_option maxHeartbeats 4000000 in
set_option maxRecDepth 100000 in
theorem lb_L_law_391 {p : Program} {l : Launch} (hl : l.stackTraces = false) {e : Env} {s : State} {m : MethodId} {below : List Frame} {meth : Method} {c : Code} {D : va_G} {E : Nat → ClassId} {b L : Nat} {xs : Nat → Int32} {a30 a31 kC kS : Nat} {ν0 : NC} {Ad0 : Nat → Nat → Nat} {Q : Nat → Nat} {B : Nat × (Nat → Nat)} {w : Nat} {r0 : ((MP × NC) × AS) × Int32} (C : cx p s m #[Value.ref b] meth c D E (fun q => s.heap.size ≤ q) cL_law 23 "TradeLineLaw") (hEv : eV a30 a31 B (fun q => s.heap.size ≤ q) s s.heap) (hN : vN s) (hr : meth.sig.returnType = ret) (hX : va_X b L xs s s.heap) (hbl : b < s.heap.size) (h30 : Ad0 30 0 = a30 ∧ Ad0 31 0 = a31) (hI0 : lwI ν0) (hQ0 : lwQ Ad0 Q) (hK : kC + (kc r0.1.1.2 - kc ν0) ≤ 300000 ∧ kS + (ks r0.1.1.2 - ks ν0) ≤ 3000000) {μ : MP} {ν : NC} {a : AS} {Ad : Nat → Nat → Nat} (hm0 : mn ν0 ν) (hp0 : kp ν0 Ad0 Ad) {x16 : Int32} {x17 : Int32} {x19 : Int32} {s0 : Int32} {k136 : MP → NC → AS → Int32 → Option (((MP × NC) × AS) × Int32)} (hmk136 : ∀ (μ : MP) (ν : NC) (a : AS) (z16 : Int32), k136 μ ν a z16 = some r0 → mn ν r0.1.1.2) (hk136 : ∀ (μ : MP) (ν : NC) (a : AS) (Ad : Nat → Nat → Nat) (z16 : Int32), mn ν0 ν → kp ν0 Ad0 Ad → k136 μ ν a z16 = some r0 → G p l e room_1 s m #[Value.ref b] below meth c D E (fun q => s.heap.size ≤ q) 23 (lw_Z below #[Value.ref b] s) (zS μ ν a Ad) [] (kC + (kc ν - kc ν0)) (kS + (ks ν - ks ν0)) 136 [(0, .ref b), (1, .ref (Q 0)), (2, .ref (Q 1)), (3, .ref (Q 2)), (4, .ref (Q 3)), (5, .ref (Q 4)), (6, .ref (Q 5)), (7, .ref (Q 6)), (8, .ref (Q 7)), (9, .ref (Q 8)), (10, .ref (Q 9)), (11, .ref (Q 10)), (12, .ref (Q 11)), (13, .ref (Q 12)), (14, .ref (Q 13)), (15, .ref (Q 14)), (16, .int z16)] []) (h : b_L_law_391 L xs k136 w μ ν a x16 x17 x19 s0 = some r0) : G p l e room_1 s m #[Value.ref b] below meth c D E (fun q => s.heap.size ≤ q) 23 (lw_Z below #[Value.ref b] s) (zS μ ν a Ad) [] (kC + (kc ν - kc ν0)) (kS + (ks ν - ks ν0)) 391 [(0, .ref b), (1, .ref (Q 0)), (2, .ref (Q 1)), (3, .ref (Q 2)), (4, .ref (Q 3)), (5, .ref (Q 4)), (6, .ref (Q 5)), (7, .ref (Q 6)), (8, .ref (Q 7)), (9, .ref (Q 8)), (10, .ref (Q 9)), (11, .ref (Q 10)), (12, .ref (Q 11)), (13, .ref (Q 12)), (14, .ref (Q 13)), (15, .ref (Q 14)), (16, .int x16), (17, .int x17), (19, .int x19)] [.int s0] := by
  have m0 := mb_L_law_391 hmk136 h
  have e1 := m0.2.1; have e2 := m0.2.2.1; have e3 := hm0.2.1; have e4 := hm0.2.2.1
  have h3 : Ad 30 0 = a30 ∧ Ad 31 0 = a31 := ⟨(hp0.2.1 0).trans h30.1, (hp0.2.2 0).trans h30.2⟩
  have hI := lwI_mn hI0 hm0; have hQ := lwQ_kp hI0 hp0 hQ0
  unfold b_L_law_391 at h
  refine g_goto (tgt := 452) C dL_law_391 (by decide) ?_
  refine g_lv [0, 1, 2, 3, 4, 5, 6, 7, 8, 9, 10, 11, 12, 13, 14, 15, 16, 17, 18] rfl ?_
  exact lb_L_law_452 hl C hEv hN hr hX hbl h30 hI0 hQ0 hK hm0 hp0 hmk136 hk136 h
noncomputable def b_L_law_360 (L : Nat) (xs : Nat → Int32) (k136 : MP → NC → AS → Int32 → Option (((MP × NC) × AS) × Int32)) (w : Nat) (μ : MP) (ν : NC) (a : AS) (x16 : Int32) (x17 : Int32) (x19 : Int32) (s0 : Int32) (s1 : Int32) : Option (((MP × NC) × AS) × Int32) := (f_L_lines w μ ν a s1 s0 x19).bind (fun v19 => b_L_law_391 L xs k136 w v19.1.1.1 v19.1.1.2 v19.1.2 x16 x17 x19 v19.2)
theorem mb_L_law_360 {L : Nat} {xs : Nat → Int32} {w : Nat} {μ : MP} {ν : NC} {a : AS} {x16 : Int32} {x17 : Int32} {x19 : Int32} {s0 : Int32} {s1 : Int32} {r0 : ((MP × NC) × AS) × Int32} {k136 : MP → NC → AS → Int32 → Option (((MP × NC) × AS) × Int32)} (hmk136 : ∀ (μ : MP) (ν : NC) (a : AS) (z16 : Int32), k136 μ ν a z16 = some r0 → mn ν r0.1.1.2) (h : b_L_law_360 L xs k136 w μ ν a x16 x17 x19 s0 s1 = some r0) : mn ν r0.1.1.2 := by
  unfold b_L_law_360 at h
  obtain ⟨v19, hv19, h⟩ := bind_of h
  exact mn_trans (m_L_lines hv19) (mb_L_law_391 hmk136 h)
set_option maxHeartbeats 4000000 in
set_option maxRecDepth 100000 in
theorem lb_L_law_360 {p : Program} {l : Launch} (hl : l.stackTraces = false) {e : Env} {s : State} {m : MethodId} {below : List Frame} {meth : Method} {c : Code} {D : va_G} {E : Nat → ClassId} {b L : Nat} {xs : Nat → Int32} {a30 a31 kC kS : Nat} {ν0 : NC} {Ad0 : Nat → Nat → Nat} {Q : Nat → Nat} {B : Nat × (Nat → Nat)} {w : Nat} {r0 : ((MP × NC) × AS) × Int32} (C : cx p s m #[Value.ref b] meth c D E (fun q => s.heap.size ≤ q) cL_law 23 "TradeLineLaw") (hEv : eV a30 a31 B (fun q => s.heap.size ≤ q) s s.heap) (hN : vN s) (hr : meth.sig.returnType = ret) (hX : va_X b L xs s s.heap) (hbl : b < s.heap.size) (h30 : Ad0 30 0 = a30 ∧ Ad0 31 0 = a31) (hI0 : lwI ν0) (hQ0 : lwQ Ad0 Q) (hK : kC + (kc r0.1.1.2 - kc ν0) ≤ 300000 ∧ kS + (ks r0.1.1.2 - ks ν0) ≤ 3000000) {μ : MP} {ν : NC} {a : AS} {Ad : Nat → Nat → Nat} (hm0 : mn ν0 ν) (hp0 : kp ν0 Ad0 Ad) {x16 : Int32} {x17 : Int32} {x19 : Int32} {s0 : Int32} {s1 : Int32} {k136 : MP → NC → AS → Int32 → Option (((MP × NC) × AS) × Int32)} (hmk136 : ∀ (μ : MP) (ν : NC) (a : AS) (z16 : Int32), k136 μ ν a z16 = some r0 → mn ν r0.1.1.2) (hk136 : ∀ (μ : MP) (ν : NC) (a : AS) (Ad : Nat → Nat → Nat) (z16 : Int32), mn ν0 ν → kp ν0 Ad0 Ad → k136 μ ν a z16 = some r0 → G p l e room_1 s m #[Value.ref b] below meth c D E (fun q => s.heap.size ≤ q) 23 (lw_Z below #[Value.ref b] s) (zS μ ν a Ad) [] (kC + (kc ν - kc ν0)) (kS + (ks ν - ks ν0)) 136 [(0, .ref b), (1, .ref (Q 0)), (2, .ref (Q 1)), (3, .ref (Q 2)), (4, .ref (Q 3)), (5, .ref (Q 4)), (6, .ref (Q 5)), (7, .ref (Q 6)), (8, .ref (Q 7)), (9, .ref (Q 8)), (10, .ref (Q 9)), (11, .ref (Q 10)), (12, .ref (Q 11)), (13, .ref (Q 12)), (14, .ref (Q 13)), (15, .ref (Q 14)), (16, .int z16)] []) (h : b_L_law_360 L xs k136 w μ ν a x16 x17 x19 s0 s1 = some r0) : G p l e room_1 s m #[Value.ref b] below meth c D E (fun q => s.heap.size ≤ q) 23 (lw_Z below #[Value.ref b] s) (zS μ ν a Ad) [] (kC + (kc ν - kc ν0)) (kS + (ks ν - ks ν0)) 360 [(0, .ref b), (1, .ref (Q 0)), (2, .ref (Q 1)), (3, .ref (Q 2)), (4, .ref (Q 3)), (5, .ref (Q 4)), (6, .ref (Q 5)), (7, .ref (Q 6)), (8, .ref (Q 7)), (9, .ref (Q 8)), (10, .ref (Q 9)), (11, .ref (Q 10)), (12, .ref (Q 11)), (13, .ref (Q 12)), (14, .ref (Q 13)), (15, .ref (Q 14)), (16, .int x16), (17, .int x17), (19, .int x19)] [.int s0, .int s1, .ref (Q 0)] := by
  have m0 := mb_L_law_360 hmk136 h
  have e1 := m0.2.1; have e2 := m0.2.2.1; have e3 := hm0.2.1; have e4 := hm0.2.2.1
  have h3 : Ad 30 0 = a30 ∧ Ad 31 0 = a31 := ⟨(hp0.2.1 0).trans h30.1, (hp0.2.2 0).trans h30.2⟩
  have hI := lwI_mn hI0 hm0; have hQ := lwQ_kp hI0 hp0 hQ0
  unfold b_L_law_360 at h
  refine g_iload C dL_law_360 18 rfl ?_
  refine g_aload_n C dL_law_362 rfl 2 rfl ?_
  refine g_aload_n C dL_law_363 rfl 3 rfl ?_
  refine g_aload C dL_law_364 4 rfl ?_
  refine g_aload C dL_law_366 5 rfl ?_
  refine g_aload C dL_law_368 6 rfl ?_
  refine g_aload C dL_law_370 7 rfl ?_
  refine g_aload C dL_law_372 8 rfl ?_
  refine g_aload C dL_law_374 9 rfl ?_
  refine g_aload C dL_law_376 10 rfl ?_
  refine g_aload C dL_law_378 11 rfl ?_
  refine g_aload C dL_law_380 12 rfl ?_
  refine g_aload C dL_law_382 13 rfl ?_
  refine g_aload C dL_law_384 14 rfl ?_
  refine g_aload C dL_law_386 15 rfl ?_
  obtain ⟨v19, hv19, h⟩ := bind_of h
  have m2 := m_L_lines hv19
  have m3 := mb_L_law_391 hmk136 h
  have a1 := hm0.2.1; have a2 := hm0.2.2.1; have b1 := m2.2.1; have b2 := m2.2.2.1; have d1 := m3.2.1; have d2 := m3.2.2.1
  refine g_cSN (n := 18) (exr := []) C hEv hN h3 [_, _, _, _, _, _, _, _, _, _, _, _, _, _, _, _, _, _] _ rfl rfl [] rfl rfl (fun sz => c_L_lines l hl B _ ν _ Ad Q hI hQ w _ _ _ _ hv19 D E sz) rfl gw_469 gw_0 gw_467 gw_468 ⟨by decide +kernel, by decide +kernel, by decide +kernel⟩ ⟨rfl, rfl⟩ ⟨Nat.le_of_ble_eq_true rfl, Nat.le_of_ble_eq_true rfl⟩ (Nat.le_of_ble_eq_true rfl) dL_law_388 ⟨rmCl (by omega), rmSl (by omega)⟩ (fun r u hp hx => ?_)
  obtain ⟨er, A1, rfl, hkp⟩ := hp
  rw [er]
  try dsimp only [List.append_nil]
  refine g_widen (k := kC + (kc v19.1.1.2 - kc ν0)) (n := kS + (ks v19.1.1.2 - ks ν0)) (by omega) (by omega) ?_
  refine g_lv [0, 1, 2, 3, 4, 5, 6, 7, 8, 9, 10, 11, 12, 13, 14, 15, 16, 17, 18] rfl ?_
  exact lb_L_law_391 hl C hEv hN hr hX hbl h30 hI0 hQ0 hK (mn_trans hm0 m2) (kp_trans hp0 hm0 hkp) hmk136 hk136 h
noncomputable def b_L_law_333 (L : Nat) (xs : Nat → Int32) (k136 : MP → NC → AS → Int32 → Option (((MP × NC) × AS) × Int32)) (w : Nat) (μ : MP) (ν : NC) (a : AS) (x16 : Int32) (x17 : Int32) (x18 : Int32) (x19 : Int32) (x20 : Int32) (s0 : Int32) : Option (((MP × NC) × AS) × Int32) := (if (10 : Int32) ≤ x20 then ((if (22 : Int32) ≤ x20 then ((if x20 = (22 : Int32) then (b_L_law_423 L xs k136 w μ ν a x16 x17 x18 x19 (0 : Int32)) else (b_L_law_423 L xs k136 w μ ν a x16 x17 x18 x19 (6 : Int32)))) else (b_L_law_423 L xs k136 w μ ν a x16 x17 x18 x19 (x20 - (10 : Int32))))) else ((if (3 : Int32) ≤ x16 then (b_L_law_360 L xs k136 w μ ν a x16 x17 x19 x18 x20) else (b_L_law_360 L xs k136 w μ ν a x16 x17 x19 (s0 - (1 : Int32)) x20))))
theorem mb_L_law_333 {L : Nat} {xs : Nat → Int32} {w : Nat} {μ : MP} {ν : NC} {a : AS} {x16 : Int32} {x17 : Int32} {x18 : Int32} {x19 : Int32} {x20 : Int32} {s0 : Int32} {r0 : ((MP × NC) × AS) × Int32} {k136 : MP → NC → AS → Int32 → Option (((MP × NC) × AS) × Int32)} (hmk136 : ∀ (μ : MP) (ν : NC) (a : AS) (z16 : Int32), k136 μ ν a z16 = some r0 → mn ν r0.1.1.2) (h : b_L_law_333 L xs k136 w μ ν a x16 x17 x18 x19 x20 s0 = some r0) : mn ν r0.1.1.2 := by
  unfold b_L_law_333 at h
  by_cases c339 : (10 : Int32) ≤ x20
  · replace h := (if_pos c339).symm.trans h
    by_cases c399 : (22 : Int32) ≤ x20
    · replace h := (if_pos c399).symm.trans h
      by_cases c414 : x20 = (22 : Int32)
      · replace h := (if_pos c414).symm.trans h
        exact mb_L_law_423 hmk136 h
      · replace h := (if_neg c414).symm.trans h
        exact mb_L_law_423 hmk136 h
    · replace h := (if_neg c399).symm.trans h
      exact mb_L_law_423 hmk136 h
  · replace h := (if_neg c339).symm.trans h
    by_cases c348 : (3 : Int32) ≤ x16
    · replace h := (if_pos c348).symm.trans h
      exact mb_L_law_360 hmk136 h
    · replace h := (if_neg c348).symm.trans h
      exact mb_L_law_360 hmk136 h
set_option maxHeartbeats 4000000 in
set_option maxRecDepth 100000 in
theorem lb_L_law_333 {p : Program} {l : Launch} (hl : l.stackTraces = false) {e : Env} {s : State} {m : MethodId} {below : List Frame} {meth : Method} {c : Code} {D : va_G} {E : Nat → ClassId} {b L : Nat} {xs : Nat → Int32} {a30 a31 kC kS : Nat} {ν0 : NC} {Ad0 : Nat → Nat → Nat} {Q : Nat → Nat} {B : Nat × (Nat → Nat)} {w : Nat} {r0 : ((MP × NC) × AS) × Int32} (C : cx p s m #[Value.ref b] meth c D E (fun q => s.heap.size ≤ q) cL_law 23 "TradeLineLaw") (hEv : eV a30 a31 B (fun q => s.heap.size ≤ q) s s.heap) (hN : vN s) (hr : meth.sig.returnType = ret) (hX : va_X b L xs s s.heap) (hbl : b < s.heap.size) (h30 : Ad0 30 0 = a30 ∧ Ad0 31 0 = a31) (hI0 : lwI ν0) (hQ0 : lwQ Ad0 Q) (hK : kC + (kc r0.1.1.2 - kc ν0) ≤ 300000 ∧ kS + (ks r0.1.1.2 - ks ν0) ≤ 3000000) {μ : MP} {ν : NC} {a : AS} {Ad : Nat → Nat → Nat} (hm0 : mn ν0 ν) (hp0 : kp ν0 Ad0 Ad) {x16 : Int32} {x17 : Int32} {x18 : Int32} {x19 : Int32} {x20 : Int32} {s0 : Int32} {k136 : MP → NC → AS → Int32 → Option (((MP × NC) × AS) × Int32)} (hmk136 : ∀ (μ : MP) (ν : NC) (a : AS) (z16 : Int32), k136 μ ν a z16 = some r0 → mn ν r0.1.1.2) (hk136 : ∀ (μ : MP) (ν : NC) (a : AS) (Ad : Nat → Nat → Nat) (z16 : Int32), mn ν0 ν → kp ν0 Ad0 Ad → k136 μ ν a z16 = some r0 → G p l e room_1 s m #[Value.ref b] below meth c D E (fun q => s.heap.size ≤ q) 23 (lw_Z below #[Value.ref b] s) (zS μ ν a Ad) [] (kC + (kc ν - kc ν0)) (kS + (ks ν - ks ν0)) 136 [(0, .ref b), (1, .ref (Q 0)), (2, .ref (Q 1)), (3, .ref (Q 2)), (4, .ref (Q 3)), (5, .ref (Q 4)), (6, .ref (Q 5)), (7, .ref (Q 6)), (8, .ref (Q 7)), (9, .ref (Q 8)), (10, .ref (Q 9)), (11, .ref (Q 10)), (12, .ref (Q 11)), (13, .ref (Q 12)), (14, .ref (Q 13)), (15, .ref (Q 14)), (16, .int z16)] []) (h : b_L_law_333 L xs k136 w μ ν a x16 x17 x18 x19 x20 s0 = some r0) : G p l e room_1 s m #[Value.ref b] below meth c D E (fun q => s.heap.size ≤ q) 23 (lw_Z below #[Value.ref b] s) (zS μ ν a Ad) [] (kC + (kc ν - kc ν0)) (kS + (ks ν - ks ν0)) 333 [(0, .ref b), (1, .ref (Q 0)), (2, .ref (Q 1)), (3, .ref (Q 2)), (4, .ref (Q 3)), (5, .ref (Q 4)), (6, .ref (Q 5)), (7, .ref (Q 6)), (8, .ref (Q 7)), (9, .ref (Q 8)), (10, .ref (Q 9)), (11, .ref (Q 10)), (12, .ref (Q 11)), (13, .ref (Q 12)), (14, .ref (Q 13)), (15, .ref (Q 14)), (16, .int x16), (17, .int x17), (18, .int x18), (19, .int x19), (20, .int x20)] [.int s0] := by
  have m0 := mb_L_law_333 hmk136 h
  have e1 := m0.2.1; have e2 := m0.2.2.1; have e3 := hm0.2.1; have e4 := hm0.2.2.1
  have h3 : Ad 30 0 = a30 ∧ Ad 31 0 = a31 := ⟨(hp0.2.1 0).trans h30.1, (hp0.2.2 0).trans h30.2⟩
  have hI := lwI_mn hI0 hm0; have hQ := lwQ_kp hI0 hp0 hQ0
  unfold b_L_law_333 at h
  refine g_istore (lv' := [(21, .int s0), (0, .ref b), (1, .ref (Q 0)), (2, .ref (Q 1)), (3, .ref (Q 2)), (4, .ref (Q 3)), (5, .ref (Q 4)), (6, .ref (Q 5)), (7, .ref (Q 6)), (8, .ref (Q 7)), (9, .ref (Q 8)), (10, .ref (Q 9)), (11, .ref (Q 10)), (12, .ref (Q 11)), (13, .ref (Q 12)), (14, .ref (Q 13)), (15, .ref (Q 14)), (16, .int x16), (17, .int x17), (18, .int x18), (19, .int x19), (20, .int x20)]) C dL_law_333 (by decide) rfl ?_
  refine g_iload C dL_law_335 21 rfl ?_
  refine g_bipush (v := (10 : Int32)) C dL_law_337 (by decide) ?_
  refine g_icmp_ge (tgt := 394) C dL_law_339 (by decide) (fun c339 => ?_) (fun c339 => ?_)
  · replace h := (if_pos c339).symm.trans h
    refine g_aload_n C dL_law_394 rfl 2 rfl ?_
    refine g_iload C dL_law_395 21 rfl ?_
    refine g_bipush (v := (22 : Int32)) C dL_law_397 (by decide) ?_
    refine g_icmp_ge (tgt := 410) C dL_law_399 (by decide) (fun c399 => ?_) (fun c399 => ?_)
    · replace h := (if_pos c399).symm.trans h
      refine g_iload C dL_law_410 21 rfl ?_
      refine g_bipush (v := (22 : Int32)) C dL_law_412 (by decide) ?_
      refine g_icmp_ne (tgt := 421) C dL_law_414 (by decide) (fun c414 => ?_) (fun c414 => ?_)
      · replace h := (if_neg c414).symm.trans h
        refine g_bipush (v := (6 : Int32)) C dL_law_421 (by decide) ?_
        refine g_lv [1, 2, 3, 4, 5, 6, 7, 8, 9, 10, 11, 12, 13, 14, 15, 16, 17, 18, 19, 20] rfl ?_
        exact lb_L_law_423 hl C hEv hN hr hX hbl h30 hI0 hQ0 hK hm0 hp0 hmk136 hk136 h
      · replace h := (if_pos c414).symm.trans h
        refine g_iconst (v := (0 : Int32)) C dL_law_417 (by decide) ?_
        refine g_goto (tgt := 423) C dL_law_418 (by decide) ?_
        refine g_lv [1, 2, 3, 4, 5, 6, 7, 8, 9, 10, 11, 12, 13, 14, 15, 16, 17, 18, 19, 20] rfl ?_
        exact lb_L_law_423 hl C hEv hN hr hX hbl h30 hI0 hQ0 hK hm0 hp0 hmk136 hk136 h
    · replace h := (if_neg c399).symm.trans h
      refine g_iload C dL_law_402 21 rfl ?_
      refine g_bipush (v := (10 : Int32)) C dL_law_404 (by decide) ?_
      refine g_isub C dL_law_406 ?_
      refine g_goto (tgt := 423) C dL_law_407 (by decide) ?_
      refine g_lv [1, 2, 3, 4, 5, 6, 7, 8, 9, 10, 11, 12, 13, 14, 15, 16, 17, 18, 19, 20] rfl ?_
      exact lb_L_law_423 hl C hEv hN hr hX hbl h30 hI0 hQ0 hK hm0 hp0 hmk136 hk136 h
  · replace h := (if_neg c339).symm.trans h
    refine g_aload_n C dL_law_342 rfl 2 rfl ?_
    refine g_iload C dL_law_343 21 rfl ?_
    refine g_iload C dL_law_345 17 rfl ?_
    refine g_iconst (v := (3 : Int32)) C dL_law_347 (by decide) ?_
    refine g_icmp_ge (tgt := 358) C dL_law_348 (by decide) (fun c348 => ?_) (fun c348 => ?_)
    · replace h := (if_pos c348).symm.trans h
      refine g_iload C dL_law_358 19 rfl ?_
      refine g_lv [1, 2, 3, 4, 5, 6, 7, 8, 9, 10, 11, 12, 13, 14, 15, 16, 17, 18, 20] rfl ?_
      exact lb_L_law_360 hl C hEv hN hr hX hbl h30 hI0 hQ0 hK hm0 hp0 hmk136 hk136 h
    · replace h := (if_neg c348).symm.trans h
      refine g_iload C dL_law_351 0 rfl ?_
      refine g_iconst (v := (1 : Int32)) C dL_law_353 (by decide) ?_
      refine g_isub C dL_law_354 ?_
      refine g_goto (tgt := 360) C dL_law_355 (by decide) ?_
      refine g_lv [1, 2, 3, 4, 5, 6, 7, 8, 9, 10, 11, 12, 13, 14, 15, 16, 17, 18, 20] rfl ?_
      exact lb_L_law_360 hl C hEv hN hr hX hbl h30 hI0 hQ0 hK hm0 hp0 hmk136 hk136 h
noncomputable def b_L_law_318 (L : Nat) (xs : Nat → Int32) (k136 : MP → NC → AS → Int32 → Option (((MP × NC) × AS) × Int32)) (w : Nat) (μ : MP) (ν : NC) (a : AS) (x16 : Int32) (x17 : Int32) (x18 : Int32) (x19 : Int32) (s0 : Int32) : Option (((MP × NC) × AS) × Int32) := (if (3 : Int32) ≤ x16 then (b_L_law_333 L xs k136 w μ ν a x16 x17 x18 x19 s0 x18) else (b_L_law_333 L xs k136 w μ ν a x16 x17 x18 x19 s0 x16))
theorem mb_L_law_318 {L : Nat} {xs : Nat → Int32} {w : Nat} {μ : MP} {ν : NC} {a : AS} {x16 : Int32} {x17 : Int32} {x18 : Int32} {x19 : Int32} {s0 : Int32} {r0 : ((MP × NC) × AS) × Int32} {k136 : MP → NC → AS → Int32 → Option (((MP × NC) × AS) × Int32)} (hmk136 : ∀ (μ : MP) (ν : NC) (a : AS) (z16 : Int32), k136 μ ν a z16 = some r0 → mn ν r0.1.1.2) (h : b_L_law_318 L xs k136 w μ ν a x16 x17 x18 x19 s0 = some r0) : mn ν r0.1.1.2 := by
  unfold b_L_law_318 at h
  by_cases c323 : (3 : Int32) ≤ x16
  · replace h := (if_pos c323).symm.trans h
    exact mb_L_law_333 hmk136 h
  · replace h := (if_neg c323).symm.trans h
    exact mb_L_law_333 hmk136 h
set_option maxHeartbeats 4000000 in
set_option maxRecDepth 100000 in
theorem lb_L_law_318 {p : Program} {l : Launch} (hl : l.stackTraces = false) {e : Env} {s : State} {m : MethodId} {below : List Frame} {meth : Method} {c : Code} {D : va_G} {E : Nat → ClassId} {b L : Nat} {xs : Nat → Int32} {a30 a31 kC kS : Nat} {ν0 : NC} {Ad0 : Nat → Nat → Nat} {Q : Nat → Nat} {B : Nat × (Nat → Nat)} {w : Nat} {r0 : ((MP × NC) × AS) × Int32} (C : cx p s m #[Value.ref b] meth c D E (fun q => s.heap.size ≤ q) cL_law 23 "TradeLineLaw") (hEv : eV a30 a31 B (fun q => s.heap.size ≤ q) s s.heap) (hN : vN s) (hr : meth.sig.returnType = ret) (hX : va_X b L xs s s.heap) (hbl : b < s.heap.size) (h30 : Ad0 30 0 = a30 ∧ Ad0 31 0 = a31) (hI0 : lwI ν0) (hQ0 : lwQ Ad0 Q) (hK : kC + (kc r0.1.1.2 - kc ν0) ≤ 300000 ∧ kS + (ks r0.1.1.2 - ks ν0) ≤ 3000000) {μ : MP} {ν : NC} {a : AS} {Ad : Nat → Nat → Nat} (hm0 : mn ν0 ν) (hp0 : kp ν0 Ad0 Ad) {x16 : Int32} {x17 : Int32} {x18 : Int32} {x19 : Int32} {s0 : Int32} {k136 : MP → NC → AS → Int32 → Option (((MP × NC) × AS) × Int32)} (hmk136 : ∀ (μ : MP) (ν : NC) (a : AS) (z16 : Int32), k136 μ ν a z16 = some r0 → mn ν r0.1.1.2) (hk136 : ∀ (μ : MP) (ν : NC) (a : AS) (Ad : Nat → Nat → Nat) (z16 : Int32), mn ν0 ν → kp ν0 Ad0 Ad → k136 μ ν a z16 = some r0 → G p l e room_1 s m #[Value.ref b] below meth c D E (fun q => s.heap.size ≤ q) 23 (lw_Z below #[Value.ref b] s) (zS μ ν a Ad) [] (kC + (kc ν - kc ν0)) (kS + (ks ν - ks ν0)) 136 [(0, .ref b), (1, .ref (Q 0)), (2, .ref (Q 1)), (3, .ref (Q 2)), (4, .ref (Q 3)), (5, .ref (Q 4)), (6, .ref (Q 5)), (7, .ref (Q 6)), (8, .ref (Q 7)), (9, .ref (Q 8)), (10, .ref (Q 9)), (11, .ref (Q 10)), (12, .ref (Q 11)), (13, .ref (Q 12)), (14, .ref (Q 13)), (15, .ref (Q 14)), (16, .int z16)] []) (h : b_L_law_318 L xs k136 w μ ν a x16 x17 x18 x19 s0 = some r0) : G p l e room_1 s m #[Value.ref b] below meth c D E (fun q => s.heap.size ≤ q) 23 (lw_Z below #[Value.ref b] s) (zS μ ν a Ad) [] (kC + (kc ν - kc ν0)) (kS + (ks ν - ks ν0)) 318 [(0, .ref b), (1, .ref (Q 0)), (2, .ref (Q 1)), (3, .ref (Q 2)), (4, .ref (Q 3)), (5, .ref (Q 4)), (6, .ref (Q 5)), (7, .ref (Q 6)), (8, .ref (Q 7)), (9, .ref (Q 8)), (10, .ref (Q 9)), (11, .ref (Q 10)), (12, .ref (Q 11)), (13, .ref (Q 12)), (14, .ref (Q 13)), (15, .ref (Q 14)), (16, .int x16), (17, .int x17), (18, .int x18), (19, .int x19)] [.int s0] := by
  have m0 := mb_L_law_318 hmk136 h
  have e1 := m0.2.1; have e2 := m0.2.2.1; have e3 := hm0.2.1; have e4 := hm0.2.2.1
  have h3 : Ad 30 0 = a30 ∧ Ad 31 0 = a31 := ⟨(hp0.2.1 0).trans h30.1, (hp0.2.2 0).trans h30.2⟩
  have hI := lwI_mn hI0 hm0; have hQ := lwQ_kp hI0 hp0 hQ0
  unfold b_L_law_318 at h
  refine g_istore (lv' := [(20, .int s0), (0, .ref b), (1, .ref (Q 0)), (2, .ref (Q 1)), (3, .ref (Q 2)), (4, .ref (Q 3)), (5, .ref (Q 4)), (6, .ref (Q 5)), (7, .ref (Q 6)), (8, .ref (Q 7)), (9, .ref (Q 8)), (10, .ref (Q 9)), (11, .ref (Q 10)), (12, .ref (Q 11)), (13, .ref (Q 12)), (14, .ref (Q 13)), (15, .ref (Q 14)), (16, .int x16), (17, .int x17), (18, .int x18), (19, .int x19)]) C dL_law_318 (by decide) rfl ?_
  refine g_iload C dL_law_320 17 rfl ?_
  refine g_iconst (v := (3 : Int32)) C dL_law_322 (by decide) ?_
  refine g_icmp_ge (tgt := 331) C dL_law_323 (by decide) (fun c323 => ?_) (fun c323 => ?_)
  · replace h := (if_pos c323).symm.trans h
    refine g_iload C dL_law_331 19 rfl ?_
    refine g_lv [1, 2, 3, 4, 5, 6, 7, 8, 9, 10, 11, 12, 13, 14, 15, 16, 17, 18, 19, 20, 0] rfl ?_
    exact lb_L_law_333 hl C hEv hN hr hX hbl h30 hI0 hQ0 hK hm0 hp0 hmk136 hk136 h
  · replace h := (if_neg c323).symm.trans h
    refine g_iload C dL_law_326 17 rfl ?_
    refine g_goto (tgt := 333) C dL_law_328 (by decide) ?_
    refine g_lv [1, 2, 3, 4, 5, 6, 7, 8, 9, 10, 11, 12, 13, 14, 15, 16, 17, 18, 19, 20, 0] rfl ?_
    exact lb_L_law_333 hl C hEv hN hr hX hbl h30 hI0 hQ0 hK hm0 hp0 hmk136 hk136 h
noncomputable def b_L_law_279 (L : Nat) (xs : Nat → Int32) (k136 : MP → NC → AS → Int32 → Option (((MP × NC) × AS) × Int32)) (w : Nat) (μ : MP) (ν : NC) (a : AS) (x16 : Int32) (x17 : Int32) (x18 : Int32) (x19 : Int32)  : Option (((MP × NC) × AS) × Int32) := (if (1 : Int32) ≤ x16 then ((if (3 : Int32) ≤ x16 then ((if (6 : Int32) ≤ x16 then ((f_L_low w a x17 (24 : Int32)).bind (fun v15 => b_L_law_318 L xs k136 w μ ν a x16 x17 x18 x19 v15)) else (b_L_law_318 L xs k136 w μ ν a x16 x17 x18 x19 (10 : Int32)))) else (b_L_law_318 L xs k136 w μ ν a x16 x17 x18 x19 (1 : Int32)))) else (b_L_law_318 L xs k136 w μ ν a x16 x17 x18 x19 (0 : Int32)))
theorem mb_L_law_279 {L : Nat} {xs : Nat → Int32} {w : Nat} {μ : MP} {ν : NC} {a : AS} {x16 : Int32} {x17 : Int32} {x18 : Int32} {x19 : Int32}  {r0 : ((MP × NC) × AS) × Int32} {k136 : MP → NC → AS → Int32 → Option (((MP × NC) × AS) × Int32)} (hmk136 : ∀ (μ : MP) (ν : NC) (a : AS) (z16 : Int32), k136 μ ν a z16 = some r0 → mn ν r0.1.1.2) (h : b_L_law_279 L xs k136 w μ ν a x16 x17 x18 x19  = some r0) : mn ν r0.1.1.2 := by
  unfold b_L_law_279 at h
  by_cases c282 : (1 : Int32) ≤ x16
  · replace h := (if_pos c282).symm.trans h
    by_cases c292 : (3 : Int32) ≤ x16
    · replace h := (if_pos c292).symm.trans h
      by_cases c303 : (6 : Int32) ≤ x16
      · replace h := (if_pos c303).symm.trans h
        obtain ⟨v15, hv15, h⟩ := bind_of h
        exact mb_L_law_318 hmk136 h
      · replace h := (if_neg c303).symm.trans h
        exact mb_L_law_318 hmk136 h
    · replace h := (if_neg c292).symm.trans h
      exact mb_L_law_318 hmk136 h
  · replace h := (if_neg c282).symm.trans h
    exact mb_L_law_318 hmk136 h
set_option maxHeartbeats 4000000 in
set_option maxRecDepth 100000 in
theorem lb_L_law_279 {p : Program} {l : Launch} (hl : l.stackTraces = false) {e : Env} {s : State} {m : MethodId} {below : List Frame} {meth : Method} {c : Code} {D : va_G} {E : Nat → ClassId} {b L : Nat} {xs : Nat → Int32} {a30 a31 kC kS : Nat} {ν0 : NC} {Ad0 : Nat → Nat → Nat} {Q : Nat → Nat} {B : Nat × (Nat → Nat)} {w : Nat} {r0 : ((MP × NC) × AS) × Int32} (C : cx p s m #[Value.ref b] meth c D E (fun q => s.heap.size ≤ q) cL_law 23 "TradeLineLaw") (hEv : eV a30 a31 B (fun q => s.heap.size ≤ q) s s.heap) (hN : vN s) (hr : meth.sig.returnType = ret) (hX : va_X b L xs s s.heap) (hbl : b < s.heap.size) (h30 : Ad0 30 0 = a30 ∧ Ad0 31 0 = a31) (hI0 : lwI ν0) (hQ0 : lwQ Ad0 Q) (hK : kC + (kc r0.1.1.2 - kc ν0) ≤ 300000 ∧ kS + (ks r0.1.1.2 - ks ν0) ≤ 3000000) {μ : MP} {ν : NC} {a : AS} {Ad : Nat → Nat → Nat} (hm0 : mn ν0 ν) (hp0 : kp ν0 Ad0 Ad) {x16 : Int32} {x17 : Int32} {x18 : Int32} {x19 : Int32}  {k136 : MP → NC → AS → Int32 → Option (((MP × NC) × AS) × Int32)} (hmk136 : ∀ (μ : MP) (ν : NC) (a : AS) (z16 : Int32), k136 μ ν a z16 = some r0 → mn ν r0.1.1.2) (hk136 : ∀ (μ : MP) (ν : NC) (a : AS) (Ad : Nat → Nat → Nat) (z16 : Int32), mn ν0 ν → kp ν0 Ad0 Ad → k136 μ ν a z16 = some r0 → G p l e room_1 s m #[Value.ref b] below meth c D E (fun q => s.heap.size ≤ q) 23 (lw_Z below #[Value.ref b] s) (zS μ ν a Ad) [] (kC + (kc ν - kc ν0)) (kS + (ks ν - ks ν0)) 136 [(0, .ref b), (1, .ref (Q 0)), (2, .ref (Q 1)), (3, .ref (Q 2)), (4, .ref (Q 3)), (5, .ref (Q 4)), (6, .ref (Q 5)), (7, .ref (Q 6)), (8, .ref (Q 7)), (9, .ref (Q 8)), (10, .ref (Q 9)), (11, .ref (Q 10)), (12, .ref (Q 11)), (13, .ref (Q 12)), (14, .ref (Q 13)), (15, .ref (Q 14)), (16, .int z16)] []) (h : b_L_law_279 L xs k136 w μ ν a x16 x17 x18 x19  = some r0) : G p l e room_1 s m #[Value.ref b] below meth c D E (fun q => s.heap.size ≤ q) 23 (lw_Z below #[Value.ref b] s) (zS μ ν a Ad) [] (kC + (kc ν - kc ν0)) (kS + (ks ν - ks ν0)) 279 [(0, .ref b), (1, .ref (Q 0)), (2, .ref (Q 1)), (3, .ref (Q 2)), (4, .ref (Q 3)), (5, .ref (Q 4)), (6, .ref (Q 5)), (7, .ref (Q 6)), (8, .ref (Q 7)), (9, .ref (Q 8)), (10, .ref (Q 9)), (11, .ref (Q 10)), (12, .ref (Q 11)), (13, .ref (Q 12)), (14, .ref (Q 13)), (15, .ref (Q 14)), (16, .int x16), (17, .int x17), (18, .int x18), (19, .int x19)] [] := by
  have m0 := mb_L_law_279 hmk136 h
  have e1 := m0.2.1; have e2 := m0.2.2.1; have e3 := hm0.2.1; have e4 := hm0.2.2.1
  have h3 : Ad 30 0 = a30 ∧ Ad 31 0 = a31 := ⟨(hp0.2.1 0).trans h30.1, (hp0.2.2 0).trans h30.2⟩
  have hI := lwI_mn hI0 hm0; have hQ := lwQ_kp hI0 hp0 hQ0
  unfold b_L_law_279 at h
  refine g_iload C dL_law_279 16 rfl ?_
  refine g_iconst (v := (1 : Int32)) C dL_law_281 (by decide) ?_
  refine g_icmp_ge (tgt := 289) C dL_law_282 (by decide) (fun c282 => ?_) (fun c282 => ?_)
  · replace h := (if_pos c282).symm.trans h
    refine g_iload C dL_law_289 16 rfl ?_
    refine g_iconst (v := (3 : Int32)) C dL_law_291 (by decide) ?_
    refine g_icmp_ge (tgt := 299) C dL_law_292 (by decide) (fun c292 => ?_) (fun c292 => ?_)
    · replace h := (if_pos c292).symm.trans h
      refine g_iload C dL_law_299 16 rfl ?_
      refine g_bipush (v := (6 : Int32)) C dL_law_301 (by decide) ?_
      refine g_icmp_ge (tgt := 311) C dL_law_303 (by decide) (fun c303 => ?_) (fun c303 => ?_)
      · replace h := (if_pos c303).symm.trans h
        refine g_iload C dL_law_311 17 rfl ?_
        refine g_bipush (v := (24 : Int32)) C dL_law_313 (by decide) ?_
        obtain ⟨v15, hv15, h⟩ := bind_of h
        refine g_cSi (n := 2) (exc := []) (exr := []) C [_, _] _ rfl rfl [] [] rfl rfl rfl rfl (fun _ h => absurd h (by simp)) (fun _ h => absurd h (by simp)) (fun _ h => absurd h (by simp)) (fun sz => wk_L_low l _ ν _ Ad Q hI hQ w _ _  _ hv15 D E sz) rfl gw_210 gw_0 gw_208 gw_209 ⟨by decide +kernel, by decide +kernel, by decide +kernel⟩ ⟨rfl, rfl⟩ ⟨Nat.le_of_ble_eq_true rfl, Nat.le_of_ble_eq_true rfl⟩ (Nat.le_of_ble_eq_true rfl) dL_law_315 ⟨rmCl (by omega), rmSl (by omega)⟩ (fun r u hp hx => ?_)
        obtain ⟨er, rfl⟩ := hp
        rw [er]
        try dsimp only [List.append_nil]
        refine g_lv [0, 1, 2, 3, 4, 5, 6, 7, 8, 9, 10, 11, 12, 13, 14, 15, 16, 17, 18, 19] rfl ?_
        exact lb_L_law_318 hl C hEv hN hr hX hbl h30 hI0 hQ0 hK hm0 hp0 hmk136 hk136 h
      · replace h := (if_neg c303).symm.trans h
        refine g_bipush (v := (10 : Int32)) C dL_law_306 (by decide) ?_
        refine g_goto (tgt := 318) C dL_law_308 (by decide) ?_
        refine g_lv [0, 1, 2, 3, 4, 5, 6, 7, 8, 9, 10, 11, 12, 13, 14, 15, 16, 17, 18, 19] rfl ?_
        exact lb_L_law_318 hl C hEv hN hr hX hbl h30 hI0 hQ0 hK hm0 hp0 hmk136 hk136 h
    · replace h := (if_neg c292).symm.trans h
      refine g_iconst (v := (1 : Int32)) C dL_law_295 (by decide) ?_
      refine g_goto (tgt := 318) C dL_law_296 (by decide) ?_
      refine g_lv [0, 1, 2, 3, 4, 5, 6, 7, 8, 9, 10, 11, 12, 13, 14, 15, 16, 17, 18, 19] rfl ?_
      exact lb_L_law_318 hl C hEv hN hr hX hbl h30 hI0 hQ0 hK hm0 hp0 hmk136 hk136 h
  · replace h := (if_neg c282).symm.trans h
    refine g_iconst (v := (0 : Int32)) C dL_law_285 (by decide) ?_
    refine g_goto (tgt := 318) C dL_law_286 (by decide) ?_
    refine g_lv [0, 1, 2, 3, 4, 5, 6, 7, 8, 9, 10, 11, 12, 13, 14, 15, 16, 17, 18, 19] rfl ?_
    exact lb_L_law_318 hl C hEv hN hr hX hbl h30 hI0 hQ0 hK hm0 hp0 hmk136 hk136 h
noncomputable def b_L_law_274 (L : Nat) (xs : Nat → Int32) (k136 : MP → NC → AS → Int32 → Option (((MP × NC) × AS) × Int32)) (w : Nat) (μ : MP) (ν : NC) (a : AS) (x16 : Int32) (x17 : Int32) (x18 : Int32) (x19 : Int32) (s0 : Int32) : Option (((MP × NC) × AS) × Int32) := (if s0 = (0 : Int32) then (b_L_law_279 L xs k136 w μ ν a x16 x17 x18 x19) else (none))
theorem mb_L_law_274 {L : Nat} {xs : Nat → Int32} {w : Nat} {μ : MP} {ν : NC} {a : AS} {x16 : Int32} {x17 : Int32} {x18 : Int32} {x19 : Int32} {s0 : Int32} {r0 : ((MP × NC) × AS) × Int32} {k136 : MP → NC → AS → Int32 → Option (((MP × NC) × AS) × Int32)} (hmk136 : ∀ (μ : MP) (ν : NC) (a : AS) (z16 : Int32), k136 μ ν a z16 = some r0 → mn ν r0.1.1.2) (h : b_L_law_274 L xs k136 w μ ν a x16 x17 x18 x19 s0 = some r0) : mn ν r0.1.1.2 := by
  unfold b_L_law_274 at h
  by_cases c274 : s0 = (0 : Int32)
  · replace h := (if_pos c274).symm.trans h
    exact mb_L_law_279 hmk136 h
  · replace h := (if_neg c274).symm.trans h
    exact absurd h (by simp)
set_option maxHeartbeats 4000000 in
set_option maxRecDepth 100000 in
theorem lb_L_law_274 {p : Program} {l : Launch} (hl : l.stackTraces = false) {e : Env} {s : State} {m : MethodId} {below : List Frame} {meth : Method} {c : Code} {D : va_G} {E : Nat → ClassId} {b L : Nat} {xs : Nat → Int32} {a30 a31 kC kS : Nat} {ν0 : NC} {Ad0 : Nat → Nat → Nat} {Q : Nat → Nat} {B : Nat × (Nat → Nat)} {w : Nat} {r0 : ((MP × NC) × AS) × Int32} (C : cx p s m #[Value.ref b] meth c D E (fun q => s.heap.size ≤ q) cL_law 23 "TradeLineLaw") (hEv : eV a30 a31 B (fun q => s.heap.size ≤ q) s s.heap) (hN : vN s) (hr : meth.sig.returnType = ret) (hX : va_X b L xs s s.heap) (hbl : b < s.heap.size) (h30 : Ad0 30 0 = a30 ∧ Ad0 31 0 = a31) (hI0 : lwI ν0) (hQ0 : lwQ Ad0 Q) (hK : kC + (kc r0.1.1.2 - kc ν0) ≤ 300000 ∧ kS + (ks r0.1.1.2 - ks ν0) ≤ 3000000) {μ : MP} {ν : NC} {a : AS} {Ad : Nat → Nat → Nat} (hm0 : mn ν0 ν) (hp0 : kp ν0 Ad0 Ad) {x16 : Int32} {x17 : Int32} {x18 : Int32} {x19 : Int32} {s0 : Int32} {k136 : MP → NC → AS → Int32 → Option (((MP × NC) × AS) × Int32)} (hmk136 : ∀ (μ : MP) (ν : NC) (a : AS) (z16 : Int32), k136 μ ν a z16 = some r0 → mn ν r0.1.1.2) (hk136 : ∀ (μ : MP) (ν : NC) (a : AS) (Ad : Nat → Nat → Nat) (z16 : Int32), mn ν0 ν → kp ν0 Ad0 Ad → k136 μ ν a z16 = some r0 → G p l e room_1 s m #[Value.ref b] below meth c D E (fun q => s.heap.size ≤ q) 23 (lw_Z below #[Value.ref b] s) (zS μ ν a Ad) [] (kC + (kc ν - kc ν0)) (kS + (ks ν - ks ν0)) 136 [(0, .ref b), (1, .ref (Q 0)), (2, .ref (Q 1)), (3, .ref (Q 2)), (4, .ref (Q 3)), (5, .ref (Q 4)), (6, .ref (Q 5)), (7, .ref (Q 6)), (8, .ref (Q 7)), (9, .ref (Q 8)), (10, .ref (Q 9)), (11, .ref (Q 10)), (12, .ref (Q 11)), (13, .ref (Q 12)), (14, .ref (Q 13)), (15, .ref (Q 14)), (16, .int z16)] []) (h : b_L_law_274 L xs k136 w μ ν a x16 x17 x18 x19 s0 = some r0) : G p l e room_1 s m #[Value.ref b] below meth c D E (fun q => s.heap.size ≤ q) 23 (lw_Z below #[Value.ref b] s) (zS μ ν a Ad) [] (kC + (kc ν - kc ν0)) (kS + (ks ν - ks ν0)) 274 [(0, .ref b), (1, .ref (Q 0)), (2, .ref (Q 1)), (3, .ref (Q 2)), (4, .ref (Q 3)), (5, .ref (Q 4)), (6, .ref (Q 5)), (7, .ref (Q 6)), (8, .ref (Q 7)), (9, .ref (Q 8)), (10, .ref (Q 9)), (11, .ref (Q 10)), (12, .ref (Q 11)), (13, .ref (Q 12)), (14, .ref (Q 13)), (15, .ref (Q 14)), (16, .int x16), (17, .int x17), (18, .int x18), (19, .int x19)] [.int s0] := by
  have m0 := mb_L_law_274 hmk136 h
  have e1 := m0.2.1; have e2 := m0.2.2.1; have e3 := hm0.2.1; have e4 := hm0.2.2.1
  have h3 : Ad 30 0 = a30 ∧ Ad 31 0 = a31 := ⟨(hp0.2.1 0).trans h30.1, (hp0.2.2 0).trans h30.2⟩
  have hI := lwI_mn hI0 hm0; have hQ := lwQ_kp hI0 hp0 hQ0
  unfold b_L_law_274 at h
  refine g_if_eq (tgt := 279) C dL_law_274 (by decide) (fun c274 => ?_) (fun c274 => ?_)
  · replace h := (if_pos c274).symm.trans h
    refine g_lv [0, 1, 2, 3, 4, 5, 6, 7, 8, 9, 10, 11, 12, 13, 14, 15, 16, 17, 18, 19] rfl ?_
    exact lb_L_law_279 hl C hEv hN hr hX hbl h30 hI0 hQ0 hK hm0 hp0 hmk136 hk136 h
  · replace h := (if_neg c274).symm.trans h
    refine g_iconst (v := (0 : Int32)) C dL_law_277 (by decide) ?_
    exact absurd h (by simp)
noncomputable def b_L_law_257 (L : Nat) (xs : Nat → Int32) (k136 : MP → NC → AS → Int32 → Option (((MP × NC) × AS) × Int32)) (w : Nat) (μ : MP) (ν : NC) (a : AS) (x16 : Int32) (x17 : Int32) (x18 : Int32) (x19 : Int32)  : Option (((MP × NC) × AS) × Int32) := (f_L_up w a (1 : Int32)).bind (fun v13 => (f_L_connect w μ ν (1 : Int32)).bind (fun v14 => b_L_law_274 L xs k136 w v14.1.1 v14.1.2 v13.1 x16 x17 x18 x19 v14.2))
theorem mb_L_law_257 {L : Nat} {xs : Nat → Int32} {w : Nat} {μ : MP} {ν : NC} {a : AS} {x16 : Int32} {x17 : Int32} {x18 : Int32} {x19 : Int32}  {r0 : ((MP × NC) × AS) × Int32} {k136 : MP → NC → AS → Int32 → Option (((MP × NC) × AS) × Int32)} (hmk136 : ∀ (μ : MP) (ν : NC) (a : AS) (z16 : Int32), k136 μ ν a z16 = some r0 → mn ν r0.1.1.2) (h : b_L_law_257 L xs k136 w μ ν a x16 x17 x18 x19  = some r0) : mn ν r0.1.1.2 := by
  unfold b_L_law_257 at h
  obtain ⟨v13, hv13, h⟩ := bind_of h
  obtain ⟨v14, hv14, h⟩ := bind_of h
  exact mn_trans (m_L_connect hv14) (mb_L_law_274 hmk136 h)
set_option maxHeartbeats 4000000 in
set_option maxRecDepth 100000 in
theorem lb_L_law_257 {p : Program} {l : Launch} (hl : l.stackTraces = false) {e : Env} {s : State} {m : MethodId} {below : List Frame} {meth : Method} {c : Code} {D : va_G} {E : Nat → ClassId} {b L : Nat} {xs : Nat → Int32} {a30 a31 kC kS : Nat} {ν0 : NC} {Ad0 : Nat → Nat → Nat} {Q : Nat → Nat} {B : Nat × (Nat → Nat)} {w : Nat} {r0 : ((MP × NC) × AS) × Int32} (C : cx p s m #[Value.ref b] meth c D E (fun q => s.heap.size ≤ q) cL_law 23 "TradeLineLaw") (hEv : eV a30 a31 B (fun q => s.heap.size ≤ q) s s.heap) (hN : vN s) (hr : meth.sig.returnType = ret) (hX : va_X b L xs s s.heap) (hbl : b < s.heap.size) (h30 : Ad0 30 0 = a30 ∧ Ad0 31 0 = a31) (hI0 : lwI ν0) (hQ0 : lwQ Ad0 Q) (hK : kC + (kc r0.1.1.2 - kc ν0) ≤ 300000 ∧ kS + (ks r0.1.1.2 - ks ν0) ≤ 3000000) {μ : MP} {ν : NC} {a : AS} {Ad : Nat → Nat → Nat} (hm0 : mn ν0 ν) (hp0 : kp ν0 Ad0 Ad) {x16 : Int32} {x17 : Int32} {x18 : Int32} {x19 : Int32}  {k136 : MP → NC → AS → Int32 → Option (((MP × NC) × AS) × Int32)} (hmk136 : ∀ (μ : MP) (ν : NC) (a : AS) (z16 : Int32), k136 μ ν a z16 = some r0 → mn ν r0.1.1.2) (hk136 : ∀ (μ : MP) (ν : NC) (a : AS) (Ad : Nat → Nat → Nat) (z16 : Int32), mn ν0 ν → kp ν0 Ad0 Ad → k136 μ ν a z16 = some r0 → G p l e room_1 s m #[Value.ref b] below meth c D E (fun q => s.heap.size ≤ q) 23 (lw_Z below #[Value.ref b] s) (zS μ ν a Ad) [] (kC + (kc ν - kc ν0)) (kS + (ks ν - ks ν0)) 136 [(0, .ref b), (1, .ref (Q 0)), (2, .ref (Q 1)), (3, .ref (Q 2)), (4, .ref (Q 3)), (5, .ref (Q 4)), (6, .ref (Q 5)), (7, .ref (Q 6)), (8, .ref (Q 7)), (9, .ref (Q 8)), (10, .ref (Q 9)), (11, .ref (Q 10)), (12, .ref (Q 11)), (13, .ref (Q 12)), (14, .ref (Q 13)), (15, .ref (Q 14)), (16, .int z16)] []) (h : b_L_law_257 L xs k136 w μ ν a x16 x17 x18 x19  = some r0) : G p l e room_1 s m #[Value.ref b] below meth c D E (fun q => s.heap.size ≤ q) 23 (lw_Z below #[Value.ref b] s) (zS μ ν a Ad) [] (kC + (kc ν - kc ν0)) (kS + (ks ν - ks ν0)) 257 [(0, .ref b), (1, .ref (Q 0)), (2, .ref (Q 1)), (3, .ref (Q 2)), (4, .ref (Q 3)), (5, .ref (Q 4)), (6, .ref (Q 5)), (7, .ref (Q 6)), (8, .ref (Q 7)), (9, .ref (Q 8)), (10, .ref (Q 9)), (11, .ref (Q 10)), (12, .ref (Q 11)), (13, .ref (Q 12)), (14, .ref (Q 13)), (15, .ref (Q 14)), (16, .int x16), (17, .int x17), (18, .int x18), (19, .int x19)] [] := by
  have m0 := mb_L_law_257 hmk136 h
  have e1 := m0.2.1; have e2 := m0.2.2.1; have e3 := hm0.2.1; have e4 := hm0.2.2.1
  have h3 : Ad 30 0 = a30 ∧ Ad 31 0 = a31 := ⟨(hp0.2.1 0).trans h30.1, (hp0.2.2 0).trans h30.2⟩
  have hI := lwI_mn hI0 hm0; have hQ := lwQ_kp hI0 hp0 hQ0
  unfold b_L_law_257 at h
  refine g_aload_n C dL_law_257 rfl 2 rfl ?_
  refine g_aload_n C dL_law_258 rfl 3 rfl ?_
  refine g_aload C dL_law_259 4 rfl ?_
  refine g_aload C dL_law_261 5 rfl ?_
  refine g_aload C dL_law_263 6 rfl ?_
  refine g_iconst (v := (1 : Int32)) C dL_law_265 (by decide) ?_
  obtain ⟨v13, hv13, h⟩ := bind_of h
  refine g_cSv (n := 6) (exc := []) (exr := []) C [_, _, _, _, _, _] _ rfl rfl [] [] rfl rfl rfl rfl (fun _ h => absurd h (by simp)) (fun _ h => absurd h (by simp)) (fun _ h => absurd h (by simp)) (fun sz => wk_L_up l _ ν _ Ad Q hI hQ w _  _ hv13 D E sz) rfl gw_455 gw_0 gw_453 gw_454 ⟨by decide +kernel, by decide +kernel, by decide +kernel⟩ ⟨rfl, rfl⟩ ⟨Nat.le_of_ble_eq_true rfl, Nat.le_of_ble_eq_true rfl⟩ (Nat.le_of_ble_eq_true rfl) dL_law_266 ⟨rmCl (by omega), rmSl (by omega)⟩ (fun u hp hx => ?_)
  obtain rfl := hp
  try dsimp only [List.append_nil]
  refine g_aload_n C dL_law_269 rfl 1 rfl ?_
  refine g_iconst (v := (1 : Int32)) C dL_law_270 (by decide) ?_
  obtain ⟨v14, hv14, h⟩ := bind_of h
  have m2 := m_L_connect hv14
  have m3 := mb_L_law_274 hmk136 h
  have a1 := hm0.2.1; have a2 := hm0.2.2.1; have b1 := m2.2.1; have b2 := m2.2.2.1; have d1 := m3.2.1; have d2 := m3.2.2.1
  refine g_cSh (n := 2) (exr := []) C hEv hN h3 [_, _] _ rfl rfl [] rfl rfl (fun sz => wc_L_connect l hl B _ ν _ Ad Q hI hQ w _ _ hv14 D E sz) rfl gh_connect gw_0 gw_211 gw_212 ⟨by decide +kernel, by decide +kernel, by decide +kernel⟩ ⟨rfl, rfl⟩ ⟨Nat.le_of_ble_eq_true rfl, Nat.le_of_ble_eq_true rfl⟩ (Nat.le_of_ble_eq_true rfl) dL_law_271 ⟨rmCl (by omega), rmSl (by omega)⟩ (fun r u hp hx => ?_)
  obtain ⟨er, A1, rfl, hkp⟩ := hp
  rw [er]
  try dsimp only [List.append_nil]
  refine g_widen (k := kC + (kc v14.1.2 - kc ν0)) (n := kS + (ks v14.1.2 - ks ν0)) (by omega) (by omega) ?_
  refine g_lv [0, 1, 2, 3, 4, 5, 6, 7, 8, 9, 10, 11, 12, 13, 14, 15, 16, 17, 18, 19] rfl ?_
  exact lb_L_law_274 hl C hEv hN hr hX hbl h30 hI0 hQ0 hK (mn_trans hm0 m2) (kp_trans hp0 hm0 hkp) hmk136 hk136 h
noncomputable def b_L_law_244 (L : Nat) (xs : Nat → Int32) (k136 : MP → NC → AS → Int32 → Option (((MP × NC) × AS) × Int32)) (w : Nat) (μ : MP) (ν : NC) (a : AS) (x16 : Int32) (x17 : Int32) (x18 : Int32) (x19 : Int32) (s0 : Int32) : Option (((MP × NC) × AS) × Int32) := (f_L_down w a ).bind (fun v21 => (if s0 = v21.2 then (b_L_law_257 L xs k136 w μ ν v21.1 x16 x17 x18 x19) else (none)))
theorem mb_L_law_244 {L : Nat} {xs : Nat → Int32} {w : Nat} {μ : MP} {ν : NC} {a : AS} {x16 : Int32} {x17 : Int32} {x18 : Int32} {x19 : Int32} {s0 : Int32} {r0 : ((MP × NC) × AS) × Int32} {k136 : MP → NC → AS → Int32 → Option (((MP × NC) × AS) × Int32)} (hmk136 : ∀ (μ : MP) (ν : NC) (a : AS) (z16 : Int32), k136 μ ν a z16 = some r0 → mn ν r0.1.1.2) (h : b_L_law_244 L xs k136 w μ ν a x16 x17 x18 x19 s0 = some r0) : mn ν r0.1.1.2 := by
  unfold b_L_law_244 at h
  obtain ⟨v21, hv21, h⟩ := bind_of h
  by_cases c252 : s0 = v21.2
  · replace h := (if_pos c252).symm.trans h
    exact mb_L_law_257 hmk136 h
  · replace h := (if_neg c252).symm.trans h
    exact absurd h (by simp)
set_option maxHeartbeats 4000000 in
set_option maxRecDepth 100000 in
theorem lb_L_law_244 {p : Program} {l : Launch} (hl : l.stackTraces = false) {e : Env} {s : State} {m : MethodId} {below : List Frame} {meth : Method} {c : Code} {D : va_G} {E : Nat → ClassId} {b L : Nat} {xs : Nat → Int32} {a30 a31 kC kS : Nat} {ν0 : NC} {Ad0 : Nat → Nat → Nat} {Q : Nat → Nat} {B : Nat × (Nat → Nat)} {w : Nat} {r0 : ((MP × NC) × AS) × Int32} (C : cx p s m #[Value.ref b] meth c D E (fun q => s.heap.size ≤ q) cL_law 23 "TradeLineLaw") (hEv : eV a30 a31 B (fun q => s.heap.size ≤ q) s s.heap) (hN : vN s) (hr : meth.sig.returnType = ret) (hX : va_X b L xs s s.heap) (hbl : b < s.heap.size) (h30 : Ad0 30 0 = a30 ∧ Ad0 31 0 = a31) (hI0 : lwI ν0) (hQ0 : lwQ Ad0 Q) (hK : kC + (kc r0.1.1.2 - kc ν0) ≤ 300000 ∧ kS + (ks r0.1.1.2 - ks ν0) ≤ 3000000) {μ : MP} {ν : NC} {a : AS} {Ad : Nat → Nat → Nat} (hm0 : mn ν0 ν) (hp0 : kp ν0 Ad0 Ad) {x16 : Int32} {x17 : Int32} {x18 : Int32} {x19 : Int32} {s0 : Int32} {k136 : MP → NC → AS → Int32 → Option (((MP × NC) × AS) × Int32)} (hmk136 : ∀ (μ : MP) (ν : NC) (a : AS) (z16 : Int32), k136 μ ν a z16 = some r0 → mn ν r0.1.1.2) (hk136 : ∀ (μ : MP) (ν : NC) (a : AS) (Ad : Nat → Nat → Nat) (z16 : Int32), mn ν0 ν → kp ν0 Ad0 Ad → k136 μ ν a z16 = some r0 → G p l e room_1 s m #[Value.ref b] below meth c D E (fun q => s.heap.size ≤ q) 23 (lw_Z below #[Value.ref b] s) (zS μ ν a Ad) [] (kC + (kc ν - kc ν0)) (kS + (ks ν - ks ν0)) 136 [(0, .ref b), (1, .ref (Q 0)), (2, .ref (Q 1)), (3, .ref (Q 2)), (4, .ref (Q 3)), (5, .ref (Q 4)), (6, .ref (Q 5)), (7, .ref (Q 6)), (8, .ref (Q 7)), (9, .ref (Q 8)), (10, .ref (Q 9)), (11, .ref (Q 10)), (12, .ref (Q 11)), (13, .ref (Q 12)), (14, .ref (Q 13)), (15, .ref (Q 14)), (16, .int z16)] []) (h : b_L_law_244 L xs k136 w μ ν a x16 x17 x18 x19 s0 = some r0) : G p l e room_1 s m #[Value.ref b] below meth c D E (fun q => s.heap.size ≤ q) 23 (lw_Z below #[Value.ref b] s) (zS μ ν a Ad) [] (kC + (kc ν - kc ν0)) (kS + (ks ν - ks ν0)) 244 [(0, .ref b), (1, .ref (Q 0)), (2, .ref (Q 1)), (3, .ref (Q 2)), (4, .ref (Q 3)), (5, .ref (Q 4)), (6, .ref (Q 5)), (7, .ref (Q 6)), (8, .ref (Q 7)), (9, .ref (Q 8)), (10, .ref (Q 9)), (11, .ref (Q 10)), (12, .ref (Q 11)), (13, .ref (Q 12)), (14, .ref (Q 13)), (15, .ref (Q 14)), (16, .int x16), (17, .int x17), (18, .int x18), (19, .int x19)] [.int s0] := by
  have m0 := mb_L_law_244 hmk136 h
  have e1 := m0.2.1; have e2 := m0.2.2.1; have e3 := hm0.2.1; have e4 := hm0.2.2.1
  have h3 : Ad 30 0 = a30 ∧ Ad 31 0 = a31 := ⟨(hp0.2.1 0).trans h30.1, (hp0.2.2 0).trans h30.2⟩
  have hI := lwI_mn hI0 hm0; have hQ := lwQ_kp hI0 hp0 hQ0
  unfold b_L_law_244 at h
  refine g_aload_n C dL_law_244 rfl 2 rfl ?_
  refine g_aload C dL_law_245 7 rfl ?_
  refine g_aload C dL_law_247 8 rfl ?_
  obtain ⟨v21, hv21, h⟩ := bind_of h
  refine g_cSi (n := 3) (exc := []) (exr := []) C [_, _, _] _ rfl rfl [] [] rfl rfl rfl rfl (fun _ h => absurd h (by simp)) (fun _ h => absurd h (by simp)) (fun _ h => absurd h (by simp)) (fun sz => wk_L_down l _ ν _ Ad Q hI hQ w   _ hv21 D E sz) rfl gw_452 gw_0 gw_450 gw_451 ⟨by decide +kernel, by decide +kernel, by decide +kernel⟩ ⟨rfl, rfl⟩ ⟨Nat.le_of_ble_eq_true rfl, Nat.le_of_ble_eq_true rfl⟩ (Nat.le_of_ble_eq_true rfl) dL_law_249 ⟨rmCl (by omega), rmSl (by omega)⟩ (fun r u hp hx => ?_)
  obtain ⟨er, rfl⟩ := hp
  rw [er]
  try dsimp only [List.append_nil]
  refine g_icmp_eq (tgt := 257) C dL_law_252 (by decide) (fun c252 => ?_) (fun c252 => ?_)
  · replace h := (if_pos c252).symm.trans h
    refine g_lv [0, 1, 2, 3, 4, 5, 6, 7, 8, 9, 10, 11, 12, 13, 14, 15, 16, 17, 18, 19] rfl ?_
    exact lb_L_law_257 hl C hEv hN hr hX hbl h30 hI0 hQ0 hK hm0 hp0 hmk136 hk136 h
  · replace h := (if_neg c252).symm.trans h
    refine g_iconst (v := (0 : Int32)) C dL_law_255 (by decide) ?_
    exact absurd h (by simp)
noncomputable def b_L_law_233 (L : Nat) (xs : Nat → Int32) (k136 : MP → NC → AS → Int32 → Option (((MP × NC) × AS) × Int32)) (w : Nat) (μ : MP) (ν : NC) (a : AS) (x16 : Int32) (x17 : Int32) (x18 : Int32) (x19 : Int32)  : Option (((MP × NC) × AS) × Int32) := bif ixB (1 : Int32) 22 then (if (a 1 (1 : Int32).toNatClampNeg) = (1 : Int32) then ((f_L_cut w μ ν ).bind (fun v20 => b_L_law_244 L xs k136 w v20.1.1 v20.1.2 a x16 x17 x18 x19 v20.2)) else (b_L_law_257 L xs k136 w μ ν a x16 x17 x18 x19)) else none
theorem mb_L_law_233 {L : Nat} {xs : Nat → Int32} {w : Nat} {μ : MP} {ν : NC} {a : AS} {x16 : Int32} {x17 : Int32} {x18 : Int32} {x19 : Int32}  {r0 : ((MP × NC) × AS) × Int32} {k136 : MP → NC → AS → Int32 → Option (((MP × NC) × AS) × Int32)} (hmk136 : ∀ (μ : MP) (ν : NC) (a : AS) (z16 : Int32), k136 μ ν a z16 = some r0 → mn ν r0.1.1.2) (h : b_L_law_233 L xs k136 w μ ν a x16 x17 x18 x19  = some r0) : mn ν r0.1.1.2 := by
  unfold b_L_law_233 at h
  replace h := (of_guard h).2
  by_cases c237 : (a 1 (1 : Int32).toNatClampNeg) = (1 : Int32)
  · replace h := (if_pos c237).symm.trans h
    obtain ⟨v20, hv20, h⟩ := bind_of h
    exact mn_trans (m_L_cut hv20) (mb_L_law_244 hmk136 h)
  · replace h := (if_neg c237).symm.trans h
    exact mb_L_law_257 hmk136 h
set_option maxHeartbeats 4000000 in
set_option maxRecDepth 100000 in
theorem lb_L_law_233 {p : Program} {l : Launch} (hl : l.stackTraces = false) {e : Env} {s : State} {m : MethodId} {below : List Frame} {meth : Method} {c : Code} {D : va_G} {E : Nat → ClassId} {b L : Nat} {xs : Nat → Int32} {a30 a31 kC kS : Nat} {ν0 : NC} {Ad0 : Nat → Nat → Nat} {Q : Nat → Nat} {B : Nat × (Nat → Nat)} {w : Nat} {r0 : ((MP × NC) × AS) × Int32} (C : cx p s m #[Value.ref b] meth c D E (fun q => s.heap.size ≤ q) cL_law 23 "TradeLineLaw") (hEv : eV a30 a31 B (fun q => s.heap.size ≤ q) s s.heap) (hN : vN s) (hr : meth.sig.returnType = ret) (hX : va_X b L xs s s.heap) (hbl : b < s.heap.size) (h30 : Ad0 30 0 = a30 ∧ Ad0 31 0 = a31) (hI0 : lwI ν0) (hQ0 : lwQ Ad0 Q) (hK : kC + (kc r0.1.1.2 - kc ν0) ≤ 300000 ∧ kS + (ks r0.1.1.2 - ks ν0) ≤ 3000000) {μ : MP} {ν : NC} {a : AS} {Ad : Nat → Nat → Nat} (hm0 : mn ν0 ν) (hp0 : kp ν0 Ad0 Ad) {x16 : Int32} {x17 : Int32} {x18 : Int32} {x19 : Int32}  {k136 : MP → NC → AS → Int32 → Option (((MP × NC) × AS) × Int32)} (hmk136 : ∀ (μ : MP) (ν : NC) (a : AS) (z16 : Int32), k136 μ ν a z16 = some r0 → mn ν r0.1.1.2) (hk136 : ∀ (μ : MP) (ν : NC) (a : AS) (Ad : Nat → Nat → Nat) (z16 : Int32), mn ν0 ν → kp ν0 Ad0 Ad → k136 μ ν a z16 = some r0 → G p l e room_1 s m #[Value.ref b] below meth c D E (fun q => s.heap.size ≤ q) 23 (lw_Z below #[Value.ref b] s) (zS μ ν a Ad) [] (kC + (kc ν - kc ν0)) (kS + (ks ν - ks ν0)) 136 [(0, .ref b), (1, .ref (Q 0)), (2, .ref (Q 1)), (3, .ref (Q 2)), (4, .ref (Q 3)), (5, .ref (Q 4)), (6, .ref (Q 5)), (7, .ref (Q 6)), (8, .ref (Q 7)), (9, .ref (Q 8)), (10, .ref (Q 9)), (11, .ref (Q 10)), (12, .ref (Q 11)), (13, .ref (Q 12)), (14, .ref (Q 13)), (15, .ref (Q 14)), (16, .int z16)] []) (h : b_L_law_233 L xs k136 w μ ν a x16 x17 x18 x19  = some r0) : G p l e room_1 s m #[Value.ref b] below meth c D E (fun q => s.heap.size ≤ q) 23 (lw_Z below #[Value.ref b] s) (zS μ ν a Ad) [] (kC + (kc ν - kc ν0)) (kS + (ks ν - ks ν0)) 233 [(0, .ref b), (1, .ref (Q 0)), (2, .ref (Q 1)), (3, .ref (Q 2)), (4, .ref (Q 3)), (5, .ref (Q 4)), (6, .ref (Q 5)), (7, .ref (Q 6)), (8, .ref (Q 7)), (9, .ref (Q 8)), (10, .ref (Q 9)), (11, .ref (Q 10)), (12, .ref (Q 11)), (13, .ref (Q 12)), (14, .ref (Q 13)), (15, .ref (Q 14)), (16, .int x16), (17, .int x17), (18, .int x18), (19, .int x19)] [] := by
  have m0 := mb_L_law_233 hmk136 h
  have e1 := m0.2.1; have e2 := m0.2.2.1; have e3 := hm0.2.1; have e4 := hm0.2.2.1
  have h3 : Ad 30 0 = a30 ∧ Ad 31 0 = a31 := ⟨(hp0.2.1 0).trans h30.1, (hp0.2.2 0).trans h30.2⟩
  have hI := lwI_mn hI0 hm0; have hQ := lwQ_kp hI0 hp0 hQ0
  unfold b_L_law_233 at h
  refine g_aload_n C dL_law_233 rfl 2 rfl ?_
  refine g_iconst (v := (1 : Int32)) C dL_law_234 (by decide) ?_
  obtain ⟨g12, h⟩ := of_guard h
  refine q_iald C (show rsh (ν.1, μ.2, ν.2, Ad) from hI.2) (j := 1) (N := 22) (by decide) (lwQ_i hQ (j := 1) (N := 22) (by decide)) g12 dL_law_235 ?_
  refine g_iconst (v := (1 : Int32)) C dL_law_236 (by decide) ?_
  refine g_icmp_ne (tgt := 257) C dL_law_237 (by decide) (fun c237 => ?_) (fun c237 => ?_)
  · replace h := (if_neg c237).symm.trans h
    refine g_lv [0, 1, 2, 3, 4, 5, 6, 7, 8, 9, 10, 11, 12, 13, 14, 15, 16, 17, 18, 19] rfl ?_
    exact lb_L_law_257 hl C hEv hN hr hX hbl h30 hI0 hQ0 hK hm0 hp0 hmk136 hk136 h
  · replace h := (if_pos c237).symm.trans h
    refine g_aload_n C dL_law_240 rfl 1 rfl ?_
    obtain ⟨v20, hv20, h⟩ := bind_of h
    have m2 := m_L_cut hv20
    have m3 := mb_L_law_244 hmk136 h
    have a1 := hm0.2.1; have a2 := hm0.2.2.1; have b1 := m2.2.1; have b2 := m2.2.2.1; have d1 := m3.2.1; have d2 := m3.2.2.1
    refine g_cSh (n := 1) (exr := []) C hEv hN h3 [_] _ rfl rfl [] rfl rfl (fun sz => wc_L_cut l hl B _ ν _ Ad Q hI hQ w  _ hv20 D E sz) rfl gh_cut gw_0 gw_423 gw_424 ⟨by decide +kernel, by decide +kernel, by decide +kernel⟩ ⟨rfl, rfl⟩ ⟨Nat.le_of_ble_eq_true rfl, Nat.le_of_ble_eq_true rfl⟩ (Nat.le_of_ble_eq_true rfl) dL_law_241 ⟨rmCl (by omega), rmSl (by omega)⟩ (fun r u hp hx => ?_)
    obtain ⟨er, A1, rfl, hkp⟩ := hp
    rw [er]
    try dsimp only [List.append_nil]
    refine g_widen (k := kC + (kc v20.1.2 - kc ν0)) (n := kS + (ks v20.1.2 - ks ν0)) (by omega) (by omega) ?_
    refine g_lv [0, 1, 2, 3, 4, 5, 6, 7, 8, 9, 10, 11, 12, 13, 14, 15, 16, 17, 18, 19] rfl ?_
    exact lb_L_law_244 hl C hEv hN hr hX hbl h30 hI0 hQ0 hK (mn_trans hm0 m2) (kp_trans hp0 hm0 hkp) hmk136 hk136 h
noncomputable def b_L_law_136 (L : Nat) (xs : Nat → Int32) (k136 : MP → NC → AS → Int32 → Option (((MP × NC) × AS) × Int32)) (w : Nat) (μ : MP) (ν : NC) (a : AS) (x16 : Int32)  : Option (((MP × NC) × AS) × Int32) := (if (130 : Int32) ≤ x16 then (some (((μ, ν), a), (1 : Int32))) else ((f_L_cell L xs ((3 : Int32) * x16)).bind (fun v6 => (f_L_cell L xs (((3 : Int32) * x16) + (1 : Int32))).bind (fun v7 => (f_L_cell L xs (((3 : Int32) * x16) + (2 : Int32))).bind (fun v8 => bif ixB (19 : Int32) 22 then (if (40 : Int32) < (a 1 (19 : Int32).toNatClampNeg) then (some (((μ, ν), a), (1 : Int32))) else (bif ixB (20 : Int32) 22 then (if (a 1 (20 : Int32).toNatClampNeg) ≤ (200 : Int32) then (bif ixB (4 : Int32) 22 then (if (19 : Int32) < (a 1 (4 : Int32).toNatClampNeg) then (b_L_law_233 L xs k136 w μ ν a x16 v6 v7 v8) else (bif ixB (5 : Int32) 22 then (if (19 : Int32) < (a 1 (5 : Int32).toNatClampNeg) then (b_L_law_233 L xs k136 w μ ν a x16 v6 v7 v8) else (bif ixB (16 : Int32) 22 then (if (90 : Int32) < (a 1 (16 : Int32).toNatClampNeg) then (b_L_law_233 L xs k136 w μ ν a x16 v6 v7 v8) else (bif ixB (17 : Int32) 22 then (if (a 1 (17 : Int32).toNatClampNeg) ≤ (90 : Int32) then (b_L_law_279 L xs k136 w μ ν a x16 v6 v7 v8) else (b_L_law_233 L xs k136 w μ ν a x16 v6 v7 v8)) else none)) else none)) else none)) else none) else (some (((μ, ν), a), (1 : Int32)))) else none)) else none)))))
theorem mb_L_law_136 {L : Nat} {xs : Nat → Int32} {w : Nat} {μ : MP} {ν : NC} {a : AS} {x16 : Int32}  {r0 : ((MP × NC) × AS) × Int32} {k136 : MP → NC → AS → Int32 → Option (((MP × NC) × AS) × Int32)} (hmk136 : ∀ (μ : MP) (ν : NC) (a : AS) (z16 : Int32), k136 μ ν a z16 = some r0 → mn ν r0.1.1.2) (h : b_L_law_136 L xs k136 w μ ν a x16  = some r0) : mn ν r0.1.1.2 := by
  unfold b_L_law_136 at h
  by_cases c141 : (130 : Int32) ≤ x16
  · replace h := (if_pos c141).symm.trans h
    obtain rfl := Option.some.inj h
    exact mn_rfl _
  · replace h := (if_neg c141).symm.trans h
    obtain ⟨v6, hv6, h⟩ := bind_of h
    obtain ⟨v7, hv7, h⟩ := bind_of h
    obtain ⟨v8, hv8, h⟩ := bind_of h
    replace h := (of_guard h).2
    by_cases c184 : (40 : Int32) < (a 1 (19 : Int32).toNatClampNeg)
    · replace h := (if_pos c184).symm.trans h
      obtain rfl := Option.some.inj h
      exact mn_rfl _
    · replace h := (if_neg c184).symm.trans h
      replace h := (of_guard h).2
      by_cases c194 : (a 1 (20 : Int32).toNatClampNeg) ≤ (200 : Int32)
      · replace h := (if_pos c194).symm.trans h
        replace h := (of_guard h).2
        by_cases c204 : (19 : Int32) < (a 1 (4 : Int32).toNatClampNeg)
        · replace h := (if_pos c204).symm.trans h
          exact mb_L_law_233 hmk136 h
        · replace h := (if_neg c204).symm.trans h
          replace h := (of_guard h).2
          by_cases c212 : (19 : Int32) < (a 1 (5 : Int32).toNatClampNeg)
          · replace h := (if_pos c212).symm.trans h
            exact mb_L_law_233 hmk136 h
          · replace h := (if_neg c212).symm.trans h
            replace h := (of_guard h).2
            by_cases c221 : (90 : Int32) < (a 1 (16 : Int32).toNatClampNeg)
            · replace h := (if_pos c221).symm.trans h
              exact mb_L_law_233 hmk136 h
            · replace h := (if_neg c221).symm.trans h
              replace h := (of_guard h).2
              by_cases c230 : (a 1 (17 : Int32).toNatClampNeg) ≤ (90 : Int32)
              · replace h := (if_pos c230).symm.trans h
                exact mb_L_law_279 hmk136 h
              · replace h := (if_neg c230).symm.trans h
                exact mb_L_law_233 hmk136 h
      · replace h := (if_neg c194).symm.trans h
        obtain rfl := Option.some.inj h
        exact mn_rfl _
set_option maxHeartbeats 4000000 in
set_option maxRecDepth 100000 in
theorem lb_L_law_136 {p : Program} {l : Launch} (hl : l.stackTraces = false) {e : Env} {s : State} {m : MethodId} {below : List Frame} {meth : Method} {c : Code} {D : va_G} {E : Nat → ClassId} {b L : Nat} {xs : Nat → Int32} {a30 a31 kC kS : Nat} {ν0 : NC} {Ad0 : Nat → Nat → Nat} {Q : Nat → Nat} {B : Nat × (Nat → Nat)} {w : Nat} {r0 : ((MP × NC) × AS) × Int32} (C : cx p s m #[Value.ref b] meth c D E (fun q => s.heap.size ≤ q) cL_law 23 "TradeLineLaw") (hEv : eV a30 a31 B (fun q => s.heap.size ≤ q) s s.heap) (hN : vN s) (hr : meth.sig.returnType = ret) (hX : va_X b L xs s s.heap) (hbl : b < s.heap.size) (h30 : Ad0 30 0 = a30 ∧ Ad0 31 0 = a31) (hI0 : lwI ν0) (hQ0 : lwQ Ad0 Q) (hK : kC + (kc r0.1.1.2 - kc ν0) ≤ 300000 ∧ kS + (ks r0.1.1.2 - ks ν0) ≤ 3000000) {μ : MP} {ν : NC} {a : AS} {Ad : Nat → Nat → Nat} (hm0 : mn ν0 ν) (hp0 : kp ν0 Ad0 Ad) {x16 : Int32}  {k136 : MP → NC → AS → Int32 → Option (((MP × NC) × AS) × Int32)} (hmk136 : ∀ (μ : MP) (ν : NC) (a : AS) (z16 : Int32), k136 μ ν a z16 = some r0 → mn ν r0.1.1.2) (hk136 : ∀ (μ : MP) (ν : NC) (a : AS) (Ad : Nat → Nat → Nat) (z16 : Int32), mn ν0 ν → kp ν0 Ad0 Ad → k136 μ ν a z16 = some r0 → G p l e room_1 s m #[Value.ref b] below meth c D E (fun q => s.heap.size ≤ q) 23 (lw_Z below #[Value.ref b] s) (zS μ ν a Ad) [] (kC + (kc ν - kc ν0)) (kS + (ks ν - ks ν0)) 136 [(0, .ref b), (1, .ref (Q 0)), (2, .ref (Q 1)), (3, .ref (Q 2)), (4, .ref (Q 3)), (5, .ref (Q 4)), (6, .ref (Q 5)), (7, .ref (Q 6)), (8, .ref (Q 7)), (9, .ref (Q 8)), (10, .ref (Q 9)), (11, .ref (Q 10)), (12, .ref (Q 11)), (13, .ref (Q 12)), (14, .ref (Q 13)), (15, .ref (Q 14)), (16, .int z16)] []) (h : b_L_law_136 L xs k136 w μ ν a x16  = some r0) : G p l e room_1 s m #[Value.ref b] below meth c D E (fun q => s.heap.size ≤ q) 23 (lw_Z below #[Value.ref b] s) (zS μ ν a Ad) [] (kC + (kc ν - kc ν0)) (kS + (ks ν - ks ν0)) 136 [(0, .ref b), (1, .ref (Q 0)), (2, .ref (Q 1)), (3, .ref (Q 2)), (4, .ref (Q 3)), (5, .ref (Q 4)), (6, .ref (Q 5)), (7, .ref (Q 6)), (8, .ref (Q 7)), (9, .ref (Q 8)), (10, .ref (Q 9)), (11, .ref (Q 10)), (12, .ref (Q 11)), (13, .ref (Q 12)), (14, .ref (Q 13)), (15, .ref (Q 14)), (16, .int x16)] [] := by
  have m0 := mb_L_law_136 hmk136 h
  have e1 := m0.2.1; have e2 := m0.2.2.1; have e3 := hm0.2.1; have e4 := hm0.2.2.1
  have h3 : Ad 30 0 = a30 ∧ Ad 31 0 = a31 := ⟨(hp0.2.1 0).trans h30.1, (hp0.2.2 0).trans h30.2⟩
  have hI := lwI_mn hI0 hm0; have hQ := lwQ_kp hI0 hp0 hQ0
  unfold b_L_law_136 at h
  refine g_iload C dL_law_136 16 rfl ?_
  refine g_sipush (v := (130 : Int32)) C dL_law_138 (by decide) ?_
  refine g_icmp_ge (tgt := 504) C dL_law_141 (by decide) (fun c141 => ?_) (fun c141 => ?_)
  · replace h := (if_pos c141).symm.trans h
    refine g_iconst (v := (1 : Int32)) C dL_law_504 (by decide) ?_
    obtain rfl := Option.some.inj h
    exact fun H locs ls hw hs hl2 => va_forget (fun q hq => hs.2.2 q hq) (W.widen (Nat.le_trans hK.1 (Nat.le_of_ble_eq_true rfl)) (Nat.le_trans hK.2 (Nat.le_of_ble_eq_true rfl)) (lw_ret C.1 C.2.1 hr C.2.2.2.2.2.1 dL_law_505))
  · replace h := (if_neg c141).symm.trans h
    refine g_aload_n C dL_law_144 rfl 0 rfl ?_
    refine g_iconst (v := (3 : Int32)) C dL_law_145 (by decide) ?_
    refine g_iload C dL_law_146 16 rfl ?_
    refine g_imul C dL_law_148 ?_
    obtain ⟨v6, hv6, h⟩ := bind_of h
    refine g_cSX (n := 2) (exr := []) C hX hbl (Nat.not_le.mpr hbl) [_, _] _ rfl rfl [] rfl rfl (fun sz => c_L_cell l μ ν a Ad b L xs _ _ hv6 D E sz) rfl gw_206 gw_0 gw_204 gw_205 ⟨by decide +kernel, by decide +kernel, by decide +kernel⟩ ⟨rfl, rfl⟩ ⟨Nat.le_of_ble_eq_true rfl, Nat.le_of_ble_eq_true rfl⟩ (Nat.le_of_ble_eq_true rfl) dL_law_149 ⟨rmCl (by omega), rmSl (by omega)⟩ (fun r u hp hx => ?_)
    obtain ⟨er, rfl⟩ := hp
    rw [er]
    try dsimp only [List.append_nil]
    refine g_istore (lv' := [(17, .int v6), (0, .ref b), (1, .ref (Q 0)), (2, .ref (Q 1)), (3, .ref (Q 2)), (4, .ref (Q 3)), (5, .ref (Q 4)), (6, .ref (Q 5)), (7, .ref (Q 6)), (8, .ref (Q 7)), (9, .ref (Q 8)), (10, .ref (Q 9)), (11, .ref (Q 10)), (12, .ref (Q 11)), (13, .ref (Q 12)), (14, .ref (Q 13)), (15, .ref (Q 14)), (16, .int x16)]) C dL_law_152 (by decide) rfl ?_
    refine g_aload_n C dL_law_154 rfl 1 rfl ?_
    refine g_iconst (v := (3 : Int32)) C dL_law_155 (by decide) ?_
    refine g_iload C dL_law_156 17 rfl ?_
    refine g_imul C dL_law_158 ?_
    refine g_iconst (v := (1 : Int32)) C dL_law_159 (by decide) ?_
    refine g_iadd C dL_law_160 ?_
    obtain ⟨v7, hv7, h⟩ := bind_of h
    refine g_cSX (n := 2) (exr := []) C hX hbl (Nat.not_le.mpr hbl) [_, _] _ rfl rfl [] rfl rfl (fun sz => c_L_cell l μ ν a Ad b L xs _ _ hv7 D E sz) rfl gw_206 gw_0 gw_204 gw_205 ⟨by decide +kernel, by decide +kernel, by decide +kernel⟩ ⟨rfl, rfl⟩ ⟨Nat.le_of_ble_eq_true rfl, Nat.le_of_ble_eq_true rfl⟩ (Nat.le_of_ble_eq_true rfl) dL_law_161 ⟨rmCl (by omega), rmSl (by omega)⟩ (fun r u hp hx => ?_)
    obtain ⟨er, rfl⟩ := hp
    rw [er]
    try dsimp only [List.append_nil]
    refine g_istore (lv' := [(18, .int v7), (17, .int v6), (0, .ref b), (1, .ref (Q 0)), (2, .ref (Q 1)), (3, .ref (Q 2)), (4, .ref (Q 3)), (5, .ref (Q 4)), (6, .ref (Q 5)), (7, .ref (Q 6)), (8, .ref (Q 7)), (9, .ref (Q 8)), (10, .ref (Q 9)), (11, .ref (Q 10)), (12, .ref (Q 11)), (13, .ref (Q 12)), (14, .ref (Q 13)), (15, .ref (Q 14)), (16, .int x16)]) C dL_law_164 (by decide) rfl ?_
    refine g_aload_n C dL_law_166 rfl 2 rfl ?_
    refine g_iconst (v := (3 : Int32)) C dL_law_167 (by decide) ?_
    refine g_iload C dL_law_168 18 rfl ?_
    refine g_imul C dL_law_170 ?_
    refine g_iconst (v := (2 : Int32)) C dL_law_171 (by decide) ?_
    refine g_iadd C dL_law_172 ?_
    obtain ⟨v8, hv8, h⟩ := bind_of h
    refine g_cSX (n := 2) (exr := []) C hX hbl (Nat.not_le.mpr hbl) [_, _] _ rfl rfl [] rfl rfl (fun sz => c_L_cell l μ ν a Ad b L xs _ _ hv8 D E sz) rfl gw_206 gw_0 gw_204 gw_205 ⟨by decide +kernel, by decide +kernel, by decide +kernel⟩ ⟨rfl, rfl⟩ ⟨Nat.le_of_ble_eq_true rfl, Nat.le_of_ble_eq_true rfl⟩ (Nat.le_of_ble_eq_true rfl) dL_law_173 ⟨rmCl (by omega), rmSl (by omega)⟩ (fun r u hp hx => ?_)
    obtain ⟨er, rfl⟩ := hp
    rw [er]
    try dsimp only [List.append_nil]
    refine g_istore (lv' := [(19, .int v8), (18, .int v7), (17, .int v6), (0, .ref b), (1, .ref (Q 0)), (2, .ref (Q 1)), (3, .ref (Q 2)), (4, .ref (Q 3)), (5, .ref (Q 4)), (6, .ref (Q 5)), (7, .ref (Q 6)), (8, .ref (Q 7)), (9, .ref (Q 8)), (10, .ref (Q 9)), (11, .ref (Q 10)), (12, .ref (Q 11)), (13, .ref (Q 12)), (14, .ref (Q 13)), (15, .ref (Q 14)), (16, .int x16)]) C dL_law_176 (by decide) rfl ?_
    refine g_aload_n C dL_law_178 rfl 5 rfl ?_
    refine g_bipush (v := (19 : Int32)) C dL_law_179 (by decide) ?_
    obtain ⟨g9, h⟩ := of_guard h
    refine q_iald C (show rsh (ν.1, μ.2, ν.2, Ad) from hI.2) (j := 1) (N := 22) (by decide) (lwQ_i hQ (j := 1) (N := 22) (by decide)) g9 dL_law_181 ?_
    refine g_bipush (v := (40 : Int32)) C dL_law_182 (by decide) ?_
    refine g_icmp_gt (tgt := 197) C dL_law_184 (by decide) (fun c184 => ?_) (fun c184 => ?_)
    · replace h := (if_pos c184).symm.trans h
      refine g_iconst (v := (1 : Int32)) C dL_law_197 (by decide) ?_
      obtain rfl := Option.some.inj h
      exact fun H locs ls hw hs hl2 => va_forget (fun q hq => hs.2.2 q hq) (W.widen (Nat.le_trans hK.1 (Nat.le_of_ble_eq_true rfl)) (Nat.le_trans hK.2 (Nat.le_of_ble_eq_true rfl)) (lw_ret C.1 C.2.1 hr C.2.2.2.2.2.1 dL_law_198))
    · replace h := (if_neg c184).symm.trans h
      refine g_aload_n C dL_law_187 rfl 5 rfl ?_
      refine g_bipush (v := (20 : Int32)) C dL_law_188 (by decide) ?_
      obtain ⟨g10, h⟩ := of_guard h
      refine q_iald C (show rsh (ν.1, μ.2, ν.2, Ad) from hI.2) (j := 1) (N := 22) (by decide) (lwQ_i hQ (j := 1) (N := 22) (by decide)) g10 dL_law_190 ?_
      refine g_sipush (v := (200 : Int32)) C dL_law_191 (by decide) ?_
      refine g_icmp_le (tgt := 199) C dL_law_194 (by decide) (fun c194 => ?_) (fun c194 => ?_)
      · replace h := (if_pos c194).symm.trans h
        refine g_aload_n C dL_law_199 rfl 5 rfl ?_
        refine g_iconst (v := (4 : Int32)) C dL_law_200 (by decide) ?_
        obtain ⟨g11, h⟩ := of_guard h
        refine q_iald C (show rsh (ν.1, μ.2, ν.2, Ad) from hI.2) (j := 1) (N := 22) (by decide) (lwQ_i hQ (j := 1) (N := 22) (by decide)) g11 dL_law_201 ?_
        refine g_bipush (v := (19 : Int32)) C dL_law_202 (by decide) ?_
        refine g_icmp_gt (tgt := 233) C dL_law_204 (by decide) (fun c204 => ?_) (fun c204 => ?_)
        · replace h := (if_pos c204).symm.trans h
          refine g_lv [3, 4, 5, 6, 7, 8, 9, 10, 11, 12, 13, 14, 15, 16, 17, 18, 19, 2, 1, 0] rfl ?_
          exact lb_L_law_233 hl C hEv hN hr hX hbl h30 hI0 hQ0 hK hm0 hp0 hmk136 hk136 h
        · replace h := (if_neg c204).symm.trans h
          refine g_aload_n C dL_law_207 rfl 5 rfl ?_
          refine g_iconst (v := (5 : Int32)) C dL_law_208 (by decide) ?_
          obtain ⟨g22, h⟩ := of_guard h
          refine q_iald C (show rsh (ν.1, μ.2, ν.2, Ad) from hI.2) (j := 1) (N := 22) (by decide) (lwQ_i hQ (j := 1) (N := 22) (by decide)) g22 dL_law_209 ?_
          refine g_bipush (v := (19 : Int32)) C dL_law_210 (by decide) ?_
          refine g_icmp_gt (tgt := 233) C dL_law_212 (by decide) (fun c212 => ?_) (fun c212 => ?_)
          · replace h := (if_pos c212).symm.trans h
            refine g_lv [3, 4, 5, 6, 7, 8, 9, 10, 11, 12, 13, 14, 15, 16, 17, 18, 19, 2, 1, 0] rfl ?_
            exact lb_L_law_233 hl C hEv hN hr hX hbl h30 hI0 hQ0 hK hm0 hp0 hmk136 hk136 h
          · replace h := (if_neg c212).symm.trans h
            refine g_aload_n C dL_law_215 rfl 5 rfl ?_
            refine g_bipush (v := (16 : Int32)) C dL_law_216 (by decide) ?_
            obtain ⟨g23, h⟩ := of_guard h
            refine q_iald C (show rsh (ν.1, μ.2, ν.2, Ad) from hI.2) (j := 1) (N := 22) (by decide) (lwQ_i hQ (j := 1) (N := 22) (by decide)) g23 dL_law_218 ?_
            refine g_bipush (v := (90 : Int32)) C dL_law_219 (by decide) ?_
            refine g_icmp_gt (tgt := 233) C dL_law_221 (by decide) (fun c221 => ?_) (fun c221 => ?_)
            · replace h := (if_pos c221).symm.trans h
              refine g_lv [3, 4, 5, 6, 7, 8, 9, 10, 11, 12, 13, 14, 15, 16, 17, 18, 19, 2, 1, 0] rfl ?_
              exact lb_L_law_233 hl C hEv hN hr hX hbl h30 hI0 hQ0 hK hm0 hp0 hmk136 hk136 h
            · replace h := (if_neg c221).symm.trans h
              refine g_aload_n C dL_law_224 rfl 5 rfl ?_
              refine g_bipush (v := (17 : Int32)) C dL_law_225 (by decide) ?_
              obtain ⟨g24, h⟩ := of_guard h
              refine q_iald C (show rsh (ν.1, μ.2, ν.2, Ad) from hI.2) (j := 1) (N := 22) (by decide) (lwQ_i hQ (j := 1) (N := 22) (by decide)) g24 dL_law_227 ?_
              refine g_bipush (v := (90 : Int32)) C dL_law_228 (by decide) ?_
              refine g_icmp_le (tgt := 279) C dL_law_230 (by decide) (fun c230 => ?_) (fun c230 => ?_)
              · replace h := (if_pos c230).symm.trans h
                refine g_lv [3, 4, 5, 6, 7, 8, 9, 10, 11, 12, 13, 14, 15, 16, 17, 18, 19, 2, 1, 0] rfl ?_
                exact lb_L_law_279 hl C hEv hN hr hX hbl h30 hI0 hQ0 hK hm0 hp0 hmk136 hk136 h
              · replace h := (if_neg c230).symm.trans h
                refine g_lv [3, 4, 5, 6, 7, 8, 9, 10, 11, 12, 13, 14, 15, 16, 17, 18, 19, 2, 1, 0] rfl ?_
                exact lb_L_law_233 hl C hEv hN hr hX hbl h30 hI0 hQ0 hK hm0 hp0 hmk136 hk136 h
      · replace h := (if_neg c194).symm.trans h
        refine g_iconst (v := (1 : Int32)) C dL_law_197 (by decide) ?_
        obtain rfl := Option.some.inj h
        exact fun H locs ls hw hs hl2 => va_forget (fun q hq => hs.2.2 q hq) (W.widen (Nat.le_trans hK.1 (Nat.le_of_ble_eq_true rfl)) (Nat.le_trans hK.2 (Nat.le_of_ble_eq_true rfl)) (lw_ret C.1 C.2.1 hr C.2.2.2.2.2.1 dL_law_198))
noncomputable def l_L_law_136 (L : Nat) (xs : Nat → Int32)  (w : Nat) : Nat → MP → NC → AS → Int32 → Option (((MP × NC) × AS) × Int32)
  | 0 => fun _ _ _ _ => none
  | n + 1 => fun μ ν a x16 => b_L_law_136 L xs  (l_L_law_136 L xs  w n) w μ ν a x16
theorem ml_L_law_136 {L : Nat} {xs : Nat → Int32} {w : Nat} {r0 : ((MP × NC) × AS) × Int32}   : ∀ (n : Nat) (μ : MP) (ν : NC) (a : AS) (x16 : Int32), l_L_law_136 L xs  w n μ ν a x16 = some r0 → mn ν r0.1.1.2 := by
  intro n
  induction n with
  | zero => exact fun μ ν a x16 h => absurd (show (none : Option (((MP × NC) × AS) × Int32)) = some r0 from h) (by simp)
  | succ n ih => exact fun μ ν a x16 h => mb_L_law_136  ih h
theorem ll_L_law_136 {p : Program} {l : Launch} (hl : l.stackTraces = false) {e : Env} {s : State} {m : MethodId} {below : List Frame} {meth : Method} {c : Code} {D : va_G} {E : Nat → ClassId} {b L : Nat} {xs : Nat → Int32} {a30 a31 kC kS : Nat} {ν0 : NC} {Ad0 : Nat → Nat → Nat} {Q : Nat → Nat} {B : Nat × (Nat → Nat)} {w : Nat} {r0 : ((MP × NC) × AS) × Int32} (C : cx p s m #[Value.ref b] meth c D E (fun q => s.heap.size ≤ q) cL_law 23 "TradeLineLaw") (hEv : eV a30 a31 B (fun q => s.heap.size ≤ q) s s.heap) (hN : vN s) (hr : meth.sig.returnType = ret) (hX : va_X b L xs s s.heap) (hbl : b < s.heap.size) (h30 : Ad0 30 0 = a30 ∧ Ad0 31 0 = a31) (hI0 : lwI ν0) (hQ0 : lwQ Ad0 Q) (hK : kC + (kc r0.1.1.2 - kc ν0) ≤ 300000 ∧ kS + (ks r0.1.1.2 - ks ν0) ≤ 3000000)   : ∀ (n : Nat) (μ : MP) (ν : NC) (a : AS) (Ad : Nat → Nat → Nat) (x16 : Int32), mn ν0 ν → kp ν0 Ad0 Ad → l_L_law_136 L xs  w n μ ν a x16 = some r0 → G p l e room_1 s m #[Value.ref b] below meth c D E (fun q => s.heap.size ≤ q) 23 (lw_Z below #[Value.ref b] s) (zS μ ν a Ad) [] (kC + (kc ν - kc ν0)) (kS + (ks ν - ks ν0)) 136 [(0, .ref b), (1, .ref (Q 0)), (2, .ref (Q 1)), (3, .ref (Q 2)), (4, .ref (Q 3)), (5, .ref (Q 4)), (6, .ref (Q 5)), (7, .ref (Q 6)), (8, .ref (Q 7)), (9, .ref (Q 8)), (10, .ref (Q 9)), (11, .ref (Q 10)), (12, .ref (Q 11)), (13, .ref (Q 12)), (14, .ref (Q 13)), (15, .ref (Q 14)), (16, .int x16)] [] := by
  intro n
  induction n with
  | zero => exact fun μ ν a Ad x16 hm0 hp0 h => absurd (show (none : Option (((MP × NC) × AS) × Int32)) = some r0 from h) (by simp)
  | succ n ih => exact fun μ ν a Ad x16 hm0 hp0 h => lb_L_law_136 (w := w) hl C hEv hN hr hX hbl h30 hI0 hQ0 hK hm0 hp0  (fun μ ν a x16 h => ml_L_law_136  n μ ν a x16 h) ih h
noncomputable def b_L_law_128 (L : Nat) (xs : Nat → Int32)  (w : Nat) (μ : MP) (ν : NC) (a : AS)  (s0 : Int32) : Option (((MP × NC) × AS) × Int32) := (if s0 = (0 : Int32) then (none) else (l_L_law_136 L xs  w w μ ν a (0 : Int32)))
theorem mb_L_law_128 {L : Nat} {xs : Nat → Int32} {w : Nat} {μ : MP} {ν : NC} {a : AS}  {s0 : Int32} {r0 : ((MP × NC) × AS) × Int32}   (h : b_L_law_128 L xs  w μ ν a  s0 = some r0) : mn ν r0.1.1.2 := by
  unfold b_L_law_128 at h
  by_cases c128 : s0 = (0 : Int32)
  · replace h := (if_pos c128).symm.trans h
    exact absurd h (by simp)
  · replace h := (if_neg c128).symm.trans h
    exact ml_L_law_136  _ _ _ _ _ h
set_option maxHeartbeats 4000000 in
set_option maxRecDepth 100000 in
theorem lb_L_law_128 {p : Program} {l : Launch} (hl : l.stackTraces = false) {e : Env} {s : State} {m : MethodId} {below : List Frame} {meth : Method} {c : Code} {D : va_G} {E : Nat → ClassId} {b L : Nat} {xs : Nat → Int32} {a30 a31 kC kS : Nat} {ν0 : NC} {Ad0 : Nat → Nat → Nat} {Q : Nat → Nat} {B : Nat × (Nat → Nat)} {w : Nat} {r0 : ((MP × NC) × AS) × Int32} (C : cx p s m #[Value.ref b] meth c D E (fun q => s.heap.size ≤ q) cL_law 23 "TradeLineLaw") (hEv : eV a30 a31 B (fun q => s.heap.size ≤ q) s s.heap) (hN : vN s) (hr : meth.sig.returnType = ret) (hX : va_X b L xs s s.heap) (hbl : b < s.heap.size) (h30 : Ad0 30 0 = a30 ∧ Ad0 31 0 = a31) (hI0 : lwI ν0) (hQ0 : lwQ Ad0 Q) (hK : kC + (kc r0.1.1.2 - kc ν0) ≤ 300000 ∧ kS + (ks r0.1.1.2 - ks ν0) ≤ 3000000) {μ : MP} {ν : NC} {a : AS} {Ad : Nat → Nat → Nat} (hm0 : mn ν0 ν) (hp0 : kp ν0 Ad0 Ad)  {s0 : Int32}   (h : b_L_law_128 L xs  w μ ν a  s0 = some r0) : G p l e room_1 s m #[Value.ref b] below meth c D E (fun q => s.heap.size ≤ q) 23 (lw_Z below #[Value.ref b] s) (zS μ ν a Ad) [] (kC + (kc ν - kc ν0)) (kS + (ks ν - ks ν0)) 128 [(0, .ref b), (1, .ref (Q 0)), (2, .ref (Q 1)), (3, .ref (Q 2)), (4, .ref (Q 3)), (5, .ref (Q 4)), (6, .ref (Q 5)), (7, .ref (Q 6)), (8, .ref (Q 7)), (9, .ref (Q 8)), (10, .ref (Q 9)), (11, .ref (Q 10)), (12, .ref (Q 11)), (13, .ref (Q 12)), (14, .ref (Q 13)), (15, .ref (Q 14))] [.int s0] := by
  have m0 := mb_L_law_128  h
  have e1 := m0.2.1; have e2 := m0.2.2.1; have e3 := hm0.2.1; have e4 := hm0.2.2.1
  have h3 : Ad 30 0 = a30 ∧ Ad 31 0 = a31 := ⟨(hp0.2.1 0).trans h30.1, (hp0.2.2 0).trans h30.2⟩
  have hI := lwI_mn hI0 hm0; have hQ := lwQ_kp hI0 hp0 hQ0
  unfold b_L_law_128 at h
  refine g_if_ne (tgt := 133) C dL_law_128 (by decide) (fun c128 => ?_) (fun c128 => ?_)
  · replace h := (if_neg c128).symm.trans h
    refine g_iconst (v := (0 : Int32)) C dL_law_133 (by decide) ?_
    refine g_istore (lv' := [(16, .int (0 : Int32)), (0, .ref b), (1, .ref (Q 0)), (2, .ref (Q 1)), (3, .ref (Q 2)), (4, .ref (Q 3)), (5, .ref (Q 4)), (6, .ref (Q 5)), (7, .ref (Q 6)), (8, .ref (Q 7)), (9, .ref (Q 8)), (10, .ref (Q 9)), (11, .ref (Q 10)), (12, .ref (Q 11)), (13, .ref (Q 12)), (14, .ref (Q 13)), (15, .ref (Q 14))]) C dL_law_134 (by decide) rfl ?_
    refine g_lv [1, 2, 3, 4, 5, 6, 7, 8, 9, 10, 11, 12, 13, 14, 15, 16, 0] rfl ?_
    exact ll_L_law_136 hl C hEv hN hr hX hbl h30 hI0 hQ0 hK  w _ _ _ _ _ hm0 hp0 h
  · replace h := (if_pos c128).symm.trans h
    refine g_iconst (v := (0 : Int32)) C dL_law_131 (by decide) ?_
    exact absurd h (by simp)
noncomputable def b_L_law_90 (L : Nat) (xs : Nat → Int32)  (w : Nat) (μ : MP) (ν : NC) (a : AS)   : Option (((MP × NC) × AS) × Int32) := bif ixB (6 : Int32) 22 then yl (up2 a 1 (6 : Int32).toNatClampNeg (1 : Int32)) (fun a2 => bif ixB (7 : Int32) 22 then yl (up2 a2 1 (7 : Int32).toNatClampNeg (1 : Int32)) (fun a4 => (f_L_isTold w μ ν a4 (0 : Int32)).bind (fun v5 => b_L_law_128 L xs  w v5.1.1.1 v5.1.1.2 v5.1.2 v5.2)) else none) else none
theorem mb_L_law_90 {L : Nat} {xs : Nat → Int32} {w : Nat} {μ : MP} {ν : NC} {a : AS}   {r0 : ((MP × NC) × AS) × Int32}   (h : b_L_law_90 L xs  w μ ν a   = some r0) : mn ν r0.1.1.2 := by
  unfold b_L_law_90 at h
  replace h := (of_guard h).2
  obtain ⟨a2, ea2⟩ : ∃ y, up2 a 1 (6 : Int32).toNatClampNeg (1 : Int32) = y := ⟨_, rfl⟩
  replace h := yl_of h ea2
  replace h := (of_guard h).2
  obtain ⟨a4, ea4⟩ : ∃ y, up2 a2 1 (7 : Int32).toNatClampNeg (1 : Int32) = y := ⟨_, rfl⟩
  replace h := yl_of h ea4
  obtain ⟨v5, hv5, h⟩ := bind_of h
  exact mn_trans (m_L_isTold hv5) (mb_L_law_128  h)
set_option maxHeartbeats 4000000 in
set_option maxRecDepth 100000 in
theorem lb_L_law_90 {p : Program} {l : Launch} (hl : l.stackTraces = false) {e : Env} {s : State} {m : MethodId} {below : List Frame} {meth : Method} {c : Code} {D : va_G} {E : Nat → ClassId} {b L : Nat} {xs : Nat → Int32} {a30 a31 kC kS : Nat} {ν0 : NC} {Ad0 : Nat → Nat → Nat} {Q : Nat → Nat} {B : Nat × (Nat → Nat)} {w : Nat} {r0 : ((MP × NC) × AS) × Int32} (C : cx p s m #[Value.ref b] meth c D E (fun q => s.heap.size ≤ q) cL_law 23 "TradeLineLaw") (hEv : eV a30 a31 B (fun q => s.heap.size ≤ q) s s.heap) (hN : vN s) (hr : meth.sig.returnType = ret) (hX : va_X b L xs s s.heap) (hbl : b < s.heap.size) (h30 : Ad0 30 0 = a30 ∧ Ad0 31 0 = a31) (hI0 : lwI ν0) (hQ0 : lwQ Ad0 Q) (hK : kC + (kc r0.1.1.2 - kc ν0) ≤ 300000 ∧ kS + (ks r0.1.1.2 - ks ν0) ≤ 3000000) {μ : MP} {ν : NC} {a : AS} {Ad : Nat → Nat → Nat} (hm0 : mn ν0 ν) (hp0 : kp ν0 Ad0 Ad)     (h : b_L_law_90 L xs  w μ ν a   = some r0) : G p l e room_1 s m #[Value.ref b] below meth c D E (fun q => s.heap.size ≤ q) 23 (lw_Z below #[Value.ref b] s) (zS μ ν a Ad) [] (kC + (kc ν - kc ν0)) (kS + (ks ν - ks ν0)) 90 [(0, .ref b), (1, .ref (Q 0)), (2, .ref (Q 1)), (3, .ref (Q 2)), (4, .ref (Q 3)), (5, .ref (Q 4)), (6, .ref (Q 5)), (7, .ref (Q 6)), (8, .ref (Q 7)), (9, .ref (Q 8)), (10, .ref (Q 9)), (11, .ref (Q 10)), (12, .ref (Q 11)), (13, .ref (Q 12)), (14, .ref (Q 13)), (15, .ref (Q 14))] [] := by
  have m0 := mb_L_law_90  h
  have e1 := m0.2.1; have e2 := m0.2.2.1; have e3 := hm0.2.1; have e4 := hm0.2.2.1
  have h3 : Ad 30 0 = a30 ∧ Ad 31 0 = a31 := ⟨(hp0.2.1 0).trans h30.1, (hp0.2.2 0).trans h30.2⟩
  have hI := lwI_mn hI0 hm0; have hQ := lwQ_kp hI0 hp0 hQ0
  unfold b_L_law_90 at h
  refine g_aload_n C dL_law_90 rfl 2 rfl ?_
  refine g_bipush (v := (6 : Int32)) C dL_law_91 (by decide) ?_
  refine g_iconst (v := (1 : Int32)) C dL_law_93 (by decide) ?_
  obtain ⟨g1, h⟩ := of_guard h
  refine q_iast C (show rsh (ν.1, μ.2, ν.2, Ad) from hI.2) (j := 1) (N := 22) (by decide) (lwQ_i hQ (j := 1) (N := 22) (by decide)) g1 dL_law_94 (fun a2 ea2 => ?_)
  replace h := yl_of h ea2
  refine g_aload_n C dL_law_95 rfl 2 rfl ?_
  refine g_bipush (v := (7 : Int32)) C dL_law_96 (by decide) ?_
  refine g_iconst (v := (1 : Int32)) C dL_law_98 (by decide) ?_
  obtain ⟨g3, h⟩ := of_guard h
  refine q_iast C (show rsh (ν.1, μ.2, ν.2, Ad) from hI.2) (j := 1) (N := 22) (by decide) (lwQ_i hQ (j := 1) (N := 22) (by decide)) g3 dL_law_99 (fun a4 ea4 => ?_)
  replace h := yl_of h ea4
  refine g_aload_n C dL_law_100 rfl 1 rfl ?_
  refine g_iconst (v := (0 : Int32)) C dL_law_101 (by decide) ?_
  refine g_aload_n C dL_law_102 rfl 2 rfl ?_
  refine g_aload C dL_law_103 5 rfl ?_
  refine g_aload C dL_law_105 6 rfl ?_
  refine g_aload C dL_law_107 7 rfl ?_
  refine g_aload C dL_law_109 8 rfl ?_
  refine g_aload C dL_law_111 9 rfl ?_
  refine g_aload C dL_law_113 10 rfl ?_
  refine g_aload C dL_law_115 11 rfl ?_
  refine g_aload C dL_law_117 12 rfl ?_
  refine g_aload C dL_law_119 13 rfl ?_
  refine g_aload C dL_law_121 14 rfl ?_
  refine g_aload C dL_law_123 15 rfl ?_
  obtain ⟨v5, hv5, h⟩ := bind_of h
  have m2 := m_L_isTold hv5
  have m3 := mb_L_law_128  h
  have a1 := hm0.2.1; have a2 := hm0.2.2.1; have b1 := m2.2.1; have b2 := m2.2.2.1; have d1 := m3.2.1; have d2 := m3.2.2.1
  refine g_cSN (n := 14) (exr := []) C hEv hN h3 [_, _, _, _, _, _, _, _, _, _, _, _, _, _] _ rfl rfl [] rfl rfl (fun sz => c_L_isTold l hl B _ ν _ Ad Q hI hQ w _ _ hv5 D E sz) rfl gw_1216 gw_0 gw_1214 gw_1215 ⟨by decide +kernel, by decide +kernel, by decide +kernel⟩ ⟨rfl, rfl⟩ ⟨Nat.le_of_ble_eq_true rfl, Nat.le_of_ble_eq_true rfl⟩ (Nat.le_of_ble_eq_true rfl) dL_law_125 ⟨rmCl (by omega), rmSl (by omega)⟩ (fun r u hp hx => ?_)
  obtain ⟨er, A1, rfl, hkp⟩ := hp
  rw [er]
  try dsimp only [List.append_nil]
  refine g_widen (k := kC + (kc v5.1.1.2 - kc ν0)) (n := kS + (ks v5.1.1.2 - ks ν0)) (by omega) (by omega) ?_
  refine g_lv [0, 1, 2, 3, 4, 5, 6, 7, 8, 9, 10, 11, 12, 13, 14, 15] rfl ?_
  exact lb_L_law_128 hl C hEv hN hr hX hbl h30 hI0 hQ0 hK (mn_trans hm0 m2) (kp_trans hp0 hm0 hkp)  h
