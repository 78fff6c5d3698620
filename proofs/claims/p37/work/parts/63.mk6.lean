noncomputable def b_X8_quote_80 (k56 : MP → NC → Int32 → Nat → Int32 → Option ((MP × NC) × Int32)) (w : Nat) (μ : MP) (ν : NC) (x6 : Int32) (p7 : Nat) (x8 : Int32) : Option ((MP × NC) × Int32) := yl (x8 + (1 : Int32)) (fun t22 => k56 μ ν x6 p7 t22)
theorem mb_X8_quote_80 {w : Nat} {μ : MP} {ν : NC} {x6 : Int32} {p7 : Nat} {x8 : Int32} {r0 : (MP × NC) × Int32} {k56 : MP → NC → Int32 → Nat → Int32 → Option ((MP × NC) × Int32)} (hmk56 : ∀ (μ : MP) (ν : NC) (z6 : Int32) (z7 : Nat) (z8 : Int32), k56 μ ν z6 z7 z8 = some r0 → mn ν r0.1.2) (h : b_X8_quote_80 k56 w μ ν x6 p7 x8 = some r0) : mn ν r0.1.2 := by
  unfold b_X8_quote_80 at h
  iterate 40 (try first | (with_reducible replace h := (of_guard h).2) | (with_reducible (replace h := of_guardP h; obtain ⟨hg, h⟩ := h)) | (with_reducible replace h := yl_of h rfl) | (with_reducible replace h := (of_thr h).2) | (with_reducible (replace h := bind_of h; obtain ⟨v, hv, h⟩ := h)) | (with_reducible split at h) | (with_reducible (exact hmk56 _ _ _ _ _ h)) | (with_reducible exact absurd (congrArg Prod.fst (Option.some.inj h)) (by simp)))
set_option maxHeartbeats 4000000 in
set_option maxRecDepth 100000 in
theorem lb_X8_quote_80 {p : Program} {l : Launch} {e : Env} {s : State} {m : MethodId} {args : Array Value} {below : List Frame} {meth : Method} {c : Code} {D : va_G} {E : Nat → ClassId} {sz : Nat} {μ0 : MP} {ν0 : NC} {a : AS} {Ad0 : Nat → Nat → Nat} {w : Nat} {B : Nat × (Nat → Nat)} {r0 : (MP × NC) × Int32} (C : cx p s m args meth c D E (Aof (zS μ0 ν0 a Ad0) [] s.heap.size) cX8_quote 9 "TradeLine") (hEv : eV (Ad0 30 0) (Ad0 31 0) B (Aof (zS μ0 ν0 a Ad0) [] s.heap.size) s s.heap) (hr : meth.sig.returnType = (some .int)) (hz : s.heap.size = sz) {μ : MP} {ν : NC} {Ad : Nat → Nat → Nat} (hm0 : mn ν0 ν) (hp0 : kp ν0 Ad0 Ad) {x6 : Int32} {p7 : Nat} {x8 : Int32} {k56 : MP → NC → Int32 → Nat → Int32 → Option ((MP × NC) × Int32)} (hmk56 : ∀ (μ : MP) (ν : NC) (z6 : Int32) (z7 : Nat) (z8 : Int32), k56 μ ν z6 z7 z8 = some r0 → mn ν r0.1.2) (hk56 : ∀ (μ : MP) (ν : NC) (Ad : Nat → Nat → Nat) (z6 : Int32) (z7 : Nat) (z8 : Int32), mn ν0 ν → kp ν0 Ad0 Ad → k56 μ ν z6 z7 z8 = some r0 → G p l e ({ frames := 9, cells := kc r0.1.2 - kc ν0, slots := ks r0.1.2 - ks ν0, locals := 271 } : Room) s m args below meth c D E (Aof (zS μ0 ν0 a Ad0) [] s.heap.size) 9 (MQ below (cQ D E sz (zS μ0 ν0 a Ad0) [] (pI (fun r u => r = r0.2 ∧ ∃ A1, u = (zS r0.1.1 r0.1.2 a A1, []) ∧ kp ν0 Ad0 A1))) args s (kc r0.1.2 - kc ν0) (ks r0.1.2 - ks ν0) (Aof (zS μ0 ν0 a Ad0) [] s.heap.size)) (zS μ ν a Ad) [] (kc ν - kc ν0) (ks ν - ks ν0) 56 [(0, .ref (Ad 0 0)), (6, .int z6), (7, nv (Ad 4) z7), (8, .int z8)] []) (h : b_X8_quote_80 k56 w μ ν x6 p7 x8 = some r0) : G p l e ({ frames := 9, cells := kc r0.1.2 - kc ν0, slots := ks r0.1.2 - ks ν0, locals := 271 } : Room) s m args below meth c D E (Aof (zS μ0 ν0 a Ad0) [] s.heap.size) 9 (MQ below (cQ D E sz (zS μ0 ν0 a Ad0) [] (pI (fun r u => r = r0.2 ∧ ∃ A1, u = (zS r0.1.1 r0.1.2 a A1, []) ∧ kp ν0 Ad0 A1))) args s (kc r0.1.2 - kc ν0) (ks r0.1.2 - ks ν0) (Aof (zS μ0 ν0 a Ad0) [] s.heap.size)) (zS μ ν a Ad) [] (kc ν - kc ν0) (ks ν - ks ν0) 80 [(0, .ref (Ad 0 0)), (6, .int x6), (7, nv (Ad 4) p7), (8, .int x8)] [] := by
  have m0 := mb_X8_quote_80 hmk56 h
  have e1 := m0.2.1; have e2 := m0.2.2.1; have e3 := hm0.2.1; have e4 := hm0.2.2.1
  unfold b_X8_quote_80 at h
  obtain ⟨t22, et22⟩ : ∃ y : Int32, x8 + (1 : Int32) = y := ⟨_, rfl⟩
  replace h := yl_of h et22
  refine g_iinc (v := t22) (lv' := [(8, .int t22), (0, .ref (Ad 0 0)), (6, .int x6), (7, nv (Ad 4) p7)]) C dX8_quote_80 3 rfl (by rw [← et22]; rfl) (by decide) (by simp [nv_cat, cat_i, cat_r, cat_n]) ?_
  refine g_goto (tgt := 56) C dX8_quote_83 (by decide) ?_
  refine g_lv [1, 2, 3, 0] rfl ?_
  exact hk56 _ _ _ _ _ _ hm0 hp0 h
noncomputable def b_X8_quote_56 (k56 : MP → NC → Int32 → Nat → Int32 → Option ((MP × NC) × Int32)) (w : Nat) (μ : MP) (ν : NC) (x6 : Int32) (p7 : Nat) (x8 : Int32) : Option ((MP × NC) × Int32) := bif nzB p7 then bif ltB (p7 - 1) (ν.2 4) then (if (μ.1 4 (p7 - 1) 2) ≤ x8 then (bif ltB 0 (ν.2 0) then bif ltB 5 (ν.2 4) then some ((μ, ν), ((μ.1 4 5 2) - x6)) else none else none) else ((ls_get μ ν (p7 - 1) x8).bind (fun v17 => bif eqB (eK 5 (p7 - 1)) 20 then bif ltB v17 (ν.2 20) then bif ltB 0 (ν.2 0) then (f_X8_route w μ ν (v17 + 1)).bind (fun v21 => b_X8_quote_80 k56 w v21.1.1 v21.1.2 x6 ((p7 - 1) + 1) x8) else none else none else none))) else none else none
theorem mb_X8_quote_56 {w : Nat} {μ : MP} {ν : NC} {x6 : Int32} {p7 : Nat} {x8 : Int32} {r0 : (MP × NC) × Int32} {k56 : MP → NC → Int32 → Nat → Int32 → Option ((MP × NC) × Int32)} (hmk56 : ∀ (μ : MP) (ν : NC) (z6 : Int32) (z7 : Nat) (z8 : Int32), k56 μ ν z6 z7 z8 = some r0 → mn ν r0.1.2) (h : b_X8_quote_56 k56 w μ ν x6 p7 x8 = some r0) : mn ν r0.1.2 := by
  unfold b_X8_quote_56 at h
  iterate 40 (try first | (with_reducible replace h := (of_guard h).2) | (with_reducible (replace h := of_guardP h; obtain ⟨hg, h⟩ := h)) | (with_reducible replace h := yl_of h rfl) | (with_reducible replace h := (of_thr h).2) | (with_reducible (replace h := bind_of h; obtain ⟨v, hv, h⟩ := h)) | (with_reducible split at h) | (with_reducible (replace h := Option.some.inj h; obtain rfl := h; exact mn_rfl _)) | (with_reducible (exact mn_trans (m_X8_route hv) (mb_X8_quote_80 hmk56 h))) | (with_reducible exact absurd (congrArg Prod.fst (Option.some.inj h)) (by simp)))
set_option maxHeartbeats 4000000 in
set_option maxRecDepth 100000 in
theorem lb_X8_quote_56 {p : Program} {l : Launch} {e : Env} {s : State} {m : MethodId} {args : Array Value} {below : List Frame} {meth : Method} {c : Code} {D : va_G} {E : Nat → ClassId} {sz : Nat} {μ0 : MP} {ν0 : NC} {a : AS} {Ad0 : Nat → Nat → Nat} {w : Nat} {B : Nat × (Nat → Nat)} {r0 : (MP × NC) × Int32} (C : cx p s m args meth c D E (Aof (zS μ0 ν0 a Ad0) [] s.heap.size) cX8_quote 9 "TradeLine") (hEv : eV (Ad0 30 0) (Ad0 31 0) B (Aof (zS μ0 ν0 a Ad0) [] s.heap.size) s s.heap) (hr : meth.sig.returnType = (some .int)) (hz : s.heap.size = sz) {μ : MP} {ν : NC} {Ad : Nat → Nat → Nat} (hm0 : mn ν0 ν) (hp0 : kp ν0 Ad0 Ad) {x6 : Int32} {p7 : Nat} {x8 : Int32} {k56 : MP → NC → Int32 → Nat → Int32 → Option ((MP × NC) × Int32)} (hmk56 : ∀ (μ : MP) (ν : NC) (z6 : Int32) (z7 : Nat) (z8 : Int32), k56 μ ν z6 z7 z8 = some r0 → mn ν r0.1.2) (hk56 : ∀ (μ : MP) (ν : NC) (Ad : Nat → Nat → Nat) (z6 : Int32) (z7 : Nat) (z8 : Int32), mn ν0 ν → kp ν0 Ad0 Ad → k56 μ ν z6 z7 z8 = some r0 → G p l e ({ frames := 9, cells := kc r0.1.2 - kc ν0, slots := ks r0.1.2 - ks ν0, locals := 271 } : Room) s m args below meth c D E (Aof (zS μ0 ν0 a Ad0) [] s.heap.size) 9 (MQ below (cQ D E sz (zS μ0 ν0 a Ad0) [] (pI (fun r u => r = r0.2 ∧ ∃ A1, u = (zS r0.1.1 r0.1.2 a A1, []) ∧ kp ν0 Ad0 A1))) args s (kc r0.1.2 - kc ν0) (ks r0.1.2 - ks ν0) (Aof (zS μ0 ν0 a Ad0) [] s.heap.size)) (zS μ ν a Ad) [] (kc ν - kc ν0) (ks ν - ks ν0) 56 [(0, .ref (Ad 0 0)), (6, .int z6), (7, nv (Ad 4) z7), (8, .int z8)] []) (h : b_X8_quote_56 k56 w μ ν x6 p7 x8 = some r0) : G p l e ({ frames := 9, cells := kc r0.1.2 - kc ν0, slots := ks r0.1.2 - ks ν0, locals := 271 } : Room) s m args below meth c D E (Aof (zS μ0 ν0 a Ad0) [] s.heap.size) 9 (MQ below (cQ D E sz (zS μ0 ν0 a Ad0) [] (pI (fun r u => r = r0.2 ∧ ∃ A1, u = (zS r0.1.1 r0.1.2 a A1, []) ∧ kp ν0 Ad0 A1))) args s (kc r0.1.2 - kc ν0) (ks r0.1.2 - ks ν0) (Aof (zS μ0 ν0 a Ad0) [] s.heap.size)) (zS μ ν a Ad) [] (kc ν - kc ν0) (ks ν - ks ν0) 56 [(0, .ref (Ad 0 0)), (6, .int x6), (7, nv (Ad 4) p7), (8, .int x8)] [] := by
  have m0 := mb_X8_quote_56 hmk56 h
  have e1 := m0.2.1; have e2 := m0.2.2.1; have e3 := hm0.2.1; have e4 := hm0.2.2.1
  unfold b_X8_quote_56 at h
  refine g_iload C dX8_quote_56 3 rfl ?_
  refine z_aload C dX8_quote_58 2 rfl (nv_or _ _) ?_
  obtain ⟨g13, h⟩ := of_guard h
  rw [nzB_e g13]
  obtain ⟨g14, h⟩ := of_guard h
  refine g_cVi (n := 0) (exc := []) (exr := []) C [] _ rfl rfl [] [] rfl rfl rfl rfl (fun _ h => absurd h (by simp)) (fun _ h => absurd h (by simp)) (fun _ h => absurd h (by simp)) (fun sz => c_Jx4a65c_size_8abf5 l μ ν a Ad _ g14 D E sz) rfl gw_308 gw_5 gw_305 gw_306 gw_307 ⟨by decide +kernel, by decide +kernel, by decide +kernel⟩ ⟨rfl, rfl⟩ ⟨Nat.le_of_ble_eq_true rfl, Nat.le_of_ble_eq_true rfl⟩ (rcvT (lvZ g14 rfl) rfl rfl rfl) (by first | exact Nat.le_of_ble_eq_true rfl | simp [nv_cat, cat_i, cat_r, cat_n]) dX8_quote_60 ⟨by show (kc ν - kc ν0) + 0 ≤ kc r0.1.2 - kc ν0; omega, by show (ks ν - ks ν0) + 0 ≤ ks r0.1.2 - ks ν0; omega⟩ (fun r u hp hx => ?_)
  obtain ⟨er, rfl⟩ := hp
  rw [er]
  try dsimp only [List.append_nil]
  refine g_icmp_ge (tgt := 86) C dX8_quote_63 (by decide) (fun c63 => ?_) (fun c63 => ?_)
  · replace h := (if_pos c63).symm.trans h
    refine g_aload_n C dX8_quote_86 rfl 0 rfl ?_
    obtain ⟨g15, h⟩ := of_guard h
    refine g_get (k := 0) (i := 0) (ref := "TradeLine") (v := .ref (Ad 4 5)) C rfl (lvZ g15 rfl) rfl rfl inGX8 5 (by decide) gw_175 (fun _ h => h) rfl dX8_quote_87 ?_
    obtain ⟨g16, h⟩ := of_guard h
    refine g_cVi (n := 0) (exc := []) (exr := []) C [] _ rfl rfl [] [] rfl rfl rfl rfl (fun _ h => absurd h (by simp)) (fun _ h => absurd h (by simp)) (fun _ h => absurd h (by simp)) (fun sz => c_Jx4a65c_size_8abf5 l μ ν a Ad _ g16 D E sz) rfl gw_308 gw_5 gw_305 gw_306 gw_307 ⟨by decide +kernel, by decide +kernel, by decide +kernel⟩ ⟨rfl, rfl⟩ ⟨Nat.le_of_ble_eq_true rfl, Nat.le_of_ble_eq_true rfl⟩ (rcvT (lvZ g16 rfl) rfl rfl rfl) (by first | exact Nat.le_of_ble_eq_true rfl | simp [nv_cat, cat_i, cat_r, cat_n]) dX8_quote_90 ⟨by show (kc ν - kc ν0) + 0 ≤ kc r0.1.2 - kc ν0; omega, by show (ks ν - ks ν0) + 0 ≤ ks r0.1.2 - ks ν0; omega⟩ (fun r u hp hx => ?_)
    obtain ⟨er, rfl⟩ := hp
    rw [er]
    try dsimp only [List.append_nil]
    refine g_iload C dX8_quote_93 1 rfl ?_
    refine g_isub C dX8_quote_95 ?_
    obtain rfl := Option.some.inj h
    exact g_iret C hr rfl hz ⟨(hm0.2.2.2 30 (by decide) (by decide)).1, (hm0.2.2.2 31 (by decide) (by decide)).1, hp0.2.1, hp0.2.2⟩ ⟨rfl, Ad, rfl, hp0⟩ (fun j x h => by simp at h) dX8_quote_96
  · replace h := (if_neg c63).symm.trans h
    refine g_aload_n C dX8_quote_66 rfl 0 rfl ?_
    refine g_aload C dX8_quote_67 2 rfl ?_
    refine g_iload C dX8_quote_69 3 rfl ?_
    obtain ⟨v17, hv17, h⟩ := bind_of h
    refine g_cVq (n := 1) (exc := []) (exr := []) C [_] _ rfl rfl [] [] rfl rfl rfl rfl (fun _ h => absurd h (by simp)) (fun _ h => absurd h (by simp)) (fun _ h => absurd h (by simp)) (fun sz => c_Jx4a65c_get_915e3 l μ ν a Ad _ _ _ hv17 D E sz) rfl gw_543 gw_5 gw_576 gw_541 gw_542 ⟨by decide +kernel, by decide +kernel, by decide +kernel⟩ ⟨rfl, rfl⟩ ⟨Nat.le_of_ble_eq_true rfl, Nat.le_of_ble_eq_true rfl⟩ (rcvT (lvZ g14 rfl) rfl rfl rfl) (by first | exact Nat.le_of_ble_eq_true rfl | simp [nv_cat, cat_i, cat_r, cat_n]) dX8_quote_71 ⟨by show (kc ν - kc ν0) + 0 ≤ kc r0.1.2 - kc ν0; omega, by show (ks ν - ks ν0) + 0 ≤ ks r0.1.2 - ks ν0; omega⟩ (fun r u hp hx => ?_)
    obtain ⟨er, rfl⟩ := hp
    rw [er]
    try dsimp only [List.append_nil]
    obtain ⟨g18, h⟩ := of_guard h
    rw [eqB_e g18]
    obtain ⟨g19, h⟩ := of_guard h
    refine z_cast (k := 20) (i := v17) C (lvZ g19 rfl) rfl rfl gw_577 dX8_quote_74 ?_
    obtain ⟨g20, h⟩ := of_guard h
    obtain ⟨v21, hv21, h⟩ := bind_of h
    have m2 := m_X8_route hv21
    have m3 := mb_X8_quote_80 hmk56 h
    have a1 := hm0.2.1; have a2 := hm0.2.2.1; have b1 := m2.2.1; have b2 := m2.2.2.1; have d1 := m3.2.1; have d2 := m3.2.2.1
    refine g_lv [0, 1, 2, 3] rfl ?_
    refine g_cVve (n := 1) (exc := []) (exr := []) C hEv ⟨hp0.2.1 0, hp0.2.2 0⟩ [_] _ rfl rfl [] [] rfl rfl rfl rfl (fun _ h => absurd h (by simp)) (fun _ h => absurd h (by simp)) (fun _ h => absurd h (by simp)) (fun sz => c_X8_route l B μ ν a Ad w (v17 + 1) _ hv21 D E sz) rfl gw_871 gw_1 gw_868 gw_870 gs_24 ⟨by decide +kernel, by decide +kernel, by decide +kernel⟩ ⟨rfl, rfl⟩ ⟨Nat.le_of_ble_eq_true rfl, Nat.le_of_ble_eq_true rfl⟩ (rcvT (lvZ g20 rfl) rfl rfl rfl) (by first | exact Nat.le_of_ble_eq_true rfl | simp [nv_cat, cat_i, cat_r, cat_n]) dX8_quote_77 ⟨by show (kc ν - kc ν0) + (kc v21.1.2 - kc ν) ≤ kc r0.1.2 - kc ν0; omega, by show (ks ν - ks ν0) + (ks v21.1.2 - ks ν) ≤ ks r0.1.2 - ks ν0; omega⟩ (fun u hp hx => ?_)
    obtain ⟨A1, rfl, hkp⟩ := hp
    try dsimp only [List.append_nil]
    refine g_widen (k := kc v21.1.2 - kc ν0) (n := ks v21.1.2 - ks ν0) (by omega) (by omega) ?_
    rw [show Ad 0 0 = A1 0 0 from (hkp.1 0 _ rfl (of_decide_eq_true g20)).symm]
    rw [show Ad 4 (p7 - 1) = A1 4 (p7 - 1) from (hkp.1 4 _ rfl (of_decide_eq_true g14)).symm]
    exact lb_X8_quote_80 C hEv hr hz (mn_trans hm0 m2) (kp_trans hp0 hm0 hkp)  hmk56 hk56 h
noncomputable def l_X8_quote_56  (w : Nat) : Nat → MP → NC → Int32 → Nat → Int32 → Option ((MP × NC) × Int32)
  | 0 => fun _ _ _ _ _ => none
  | n + 1 => fun μ ν x6 p7 x8 => b_X8_quote_56  (l_X8_quote_56  w n) w μ ν x6 p7 x8
theorem ml_X8_quote_56 {w : Nat} {r0 : (MP × NC) × Int32}   : ∀ (n : Nat) (μ : MP) (ν : NC) (x6 : Int32) (p7 : Nat) (x8 : Int32), l_X8_quote_56  w n μ ν x6 p7 x8 = some r0 → mn ν r0.1.2 := by
  intro n
  induction n with
  | zero => exact fun μ ν x6 p7 x8 h => absurd (show (none : Option ((MP × NC) × Int32)) = some r0 from h) (by simp)
  | succ n ih => exact fun μ ν x6 p7 x8 h => mb_X8_quote_56 (w := w)  ih h
theorem ll_X8_quote_56 {p : Program} {l : Launch} {e : Env} {s : State} {m : MethodId} {args : Array Value} {below : List Frame} {meth : Method} {c : Code} {D : va_G} {E : Nat → ClassId} {sz : Nat} {μ0 : MP} {ν0 : NC} {a : AS} {Ad0 : Nat → Nat → Nat} {w : Nat} {B : Nat × (Nat → Nat)} {r0 : (MP × NC) × Int32} (C : cx p s m args meth c D E (Aof (zS μ0 ν0 a Ad0) [] s.heap.size) cX8_quote 9 "TradeLine") (hEv : eV (Ad0 30 0) (Ad0 31 0) B (Aof (zS μ0 ν0 a Ad0) [] s.heap.size) s s.heap) (hr : meth.sig.returnType = (some .int)) (hz : s.heap.size = sz)    : ∀ (n : Nat) (μ : MP) (ν : NC) (Ad : Nat → Nat → Nat) (x6 : Int32) (p7 : Nat) (x8 : Int32), mn ν0 ν → kp ν0 Ad0 Ad → l_X8_quote_56  w n μ ν x6 p7 x8 = some r0 → G p l e ({ frames := 9, cells := kc r0.1.2 - kc ν0, slots := ks r0.1.2 - ks ν0, locals := 271 } : Room) s m args below meth c D E (Aof (zS μ0 ν0 a Ad0) [] s.heap.size) 9 (MQ below (cQ D E sz (zS μ0 ν0 a Ad0) [] (pI (fun r u => r = r0.2 ∧ ∃ A1, u = (zS r0.1.1 r0.1.2 a A1, []) ∧ kp ν0 Ad0 A1))) args s (kc r0.1.2 - kc ν0) (ks r0.1.2 - ks ν0) (Aof (zS μ0 ν0 a Ad0) [] s.heap.size)) (zS μ ν a Ad) [] (kc ν - kc ν0) (ks ν - ks ν0) 56 [(0, .ref (Ad 0 0)), (6, .int x6), (7, nv (Ad 4) p7), (8, .int x8)] [] := by
  intro n
  induction n with
  | zero => exact fun μ ν Ad x6 p7 x8 hm0 hp0 h => absurd (show (none : Option ((MP × NC) × Int32)) = some r0 from h) (by simp)
  | succ n ih => exact fun μ ν Ad x6 p7 x8 hm0 hp0 h => lb_X8_quote_56 (w := w) C hEv hr hz hm0 hp0   (ml_X8_quote_56  n) ih h
noncomputable def b_X8_quote_24  (w : Nat) (μ : MP) (ν : NC) (x2 : Int32) (x3 : Int32) (x4 : Int32) (p5 : Nat) : Option ((MP × NC) × Int32) := bif nzB p5 then bif ltB (p5 - 1) (ν.2 25) then yl (uM μ 25 (p5 - 1) 1 x3) (fun m7 => yl (uM m7 25 (p5 - 1) 2 x4) (fun m8 => bif ltB 0 (ν.2 0) then bif ltB 5 (ν.2 4) then yl ((m8.1 4 5 2)) (fun t11 => (f_X8_byRank w m8 ν x2).bind (fun v12 => l_X8_quote_56  w w m8 ν t11 v12 (0 : Int32))) else none else none)) else none else none
theorem mb_X8_quote_24 {w : Nat} {μ : MP} {ν : NC} {x2 : Int32} {x3 : Int32} {x4 : Int32} {p5 : Nat} {r0 : (MP × NC) × Int32}   (h : b_X8_quote_24  w μ ν x2 x3 x4 p5 = some r0) : mn ν r0.1.2 := by
  unfold b_X8_quote_24 at h
  iterate 40 (try first | (with_reducible replace h := (of_guard h).2) | (with_reducible (replace h := of_guardP h; obtain ⟨hg, h⟩ := h)) | (with_reducible replace h := yl_of h rfl) | (with_reducible replace h := (of_thr h).2) | (with_reducible (replace h := bind_of h; obtain ⟨v, hv, h⟩ := h)) | (with_reducible split at h) | (with_reducible (exact ml_X8_quote_56  _ _ _ _ _ _ h)) | (with_reducible exact absurd (congrArg Prod.fst (Option.some.inj h)) (by simp)))
set_option maxHeartbeats 4000000 in
set_option maxRecDepth 100000 in
theorem lb_X8_quote_24 {p : Program} {l : Launch} {e : Env} {s : State} {m : MethodId} {args : Array Value} {below : List Frame} {meth : Method} {c : Code} {D : va_G} {E : Nat → ClassId} {sz : Nat} {μ0 : MP} {ν0 : NC} {a : AS} {Ad0 : Nat → Nat → Nat} {w : Nat} {B : Nat × (Nat → Nat)} {r0 : (MP × NC) × Int32} (C : cx p s m args meth c D E (Aof (zS μ0 ν0 a Ad0) [] s.heap.size) cX8_quote 9 "TradeLine") (hEv : eV (Ad0 30 0) (Ad0 31 0) B (Aof (zS μ0 ν0 a Ad0) [] s.heap.size) s s.heap) (hr : meth.sig.returnType = (some .int)) (hz : s.heap.size = sz) {μ : MP} {ν : NC} {Ad : Nat → Nat → Nat} (hm0 : mn ν0 ν) (hp0 : kp ν0 Ad0 Ad) {x2 : Int32} {x3 : Int32} {x4 : Int32} {p5 : Nat}   (h : b_X8_quote_24  w μ ν x2 x3 x4 p5 = some r0) : G p l e ({ frames := 9, cells := kc r0.1.2 - kc ν0, slots := ks r0.1.2 - ks ν0, locals := 271 } : Room) s m args below meth c D E (Aof (zS μ0 ν0 a Ad0) [] s.heap.size) 9 (MQ below (cQ D E sz (zS μ0 ν0 a Ad0) [] (pI (fun r u => r = r0.2 ∧ ∃ A1, u = (zS r0.1.1 r0.1.2 a A1, []) ∧ kp ν0 Ad0 A1))) args s (kc r0.1.2 - kc ν0) (ks r0.1.2 - ks ν0) (Aof (zS μ0 ν0 a Ad0) [] s.heap.size)) (zS μ ν a Ad) [] (kc ν - kc ν0) (ks ν - ks ν0) 24 [(0, .ref (Ad 0 0)), (2, .int x2), (3, .int x3), (4, .int x4), (5, nv (Ad 25) p5)] [] := by
  have m0 := mb_X8_quote_24  h
  have e1 := m0.2.1; have e2 := m0.2.2.1; have e3 := hm0.2.1; have e4 := hm0.2.2.1
  unfold b_X8_quote_24 at h
  refine z_aload C dX8_quote_24 4 rfl (nv_or _ _) ?_
  refine g_iload_n C dX8_quote_26 rfl 2 rfl ?_
  obtain ⟨g5, h⟩ := of_guard h
  rw [nzB_e g5]
  obtain ⟨g6, h⟩ := of_guard h
  refine z_put (k := 25) (i := (p5 - 1)) (ref := "TradeLine$Quote") C rfl g6 rfl rfl rfl inGX6 tyX6 tyX6_ok nmX6 1 (by decide) gw_159 (fun _ h => h) rfl (tyX6_ok 1 (by decide)) rfl rfl (by simp [fvs]) (by simp [fvs, up1]) dX8_quote_27 (fun m7 em7 => ?_)
  replace h := yl_of h em7
  refine g_aload C dX8_quote_30 4 rfl ?_
  refine g_iload C dX8_quote_32 3 rfl ?_
  refine z_put (k := 25) (i := (p5 - 1)) (ref := "TradeLine$Quote") C rfl g6 rfl rfl rfl inGX6 tyX6 tyX6_ok nmX6 2 (by decide) gw_162 (fun _ h => h) rfl (tyX6_ok 2 (by decide)) rfl rfl (by simp [fvs]) (by simp [fvs, up1]) dX8_quote_34 (fun m8 em8 => ?_)
  replace h := yl_of h em8
  refine g_aload_n C dX8_quote_37 rfl 0 rfl ?_
  obtain ⟨g9, h⟩ := of_guard h
  refine g_get (k := 0) (i := 0) (ref := "TradeLine") (v := .ref (Ad 4 5)) C rfl (lvZ g9 rfl) rfl rfl inGX8 5 (by decide) gw_175 (fun _ h => h) rfl dX8_quote_38 ?_
  obtain ⟨g10, h⟩ := of_guard h
  refine g_cVi (n := 0) (exc := []) (exr := []) C [] _ rfl rfl [] [] rfl rfl rfl rfl (fun _ h => absurd h (by simp)) (fun _ h => absurd h (by simp)) (fun _ h => absurd h (by simp)) (fun sz => c_Jx4a65c_size_8abf5 l m8 ν a Ad _ g10 D E sz) rfl gw_308 gw_5 gw_305 gw_306 gw_307 ⟨by decide +kernel, by decide +kernel, by decide +kernel⟩ ⟨rfl, rfl⟩ ⟨Nat.le_of_ble_eq_true rfl, Nat.le_of_ble_eq_true rfl⟩ (rcvT (lvZ g10 rfl) rfl rfl rfl) (by first | exact Nat.le_of_ble_eq_true rfl | simp [nv_cat, cat_i, cat_r, cat_n]) dX8_quote_41 ⟨by show (kc ν - kc ν0) + 0 ≤ kc r0.1.2 - kc ν0; omega, by show (ks ν - ks ν0) + 0 ≤ ks r0.1.2 - ks ν0; omega⟩ (fun r u hp hx => ?_)
  obtain ⟨er, rfl⟩ := hp
  rw [er]
  try dsimp only [List.append_nil]
  refine q_topi (fun t11 et11 => ?_)
  replace h := yl_of h et11
  refine g_istore (lv' := [(6, .int t11), (0, .ref (Ad 0 0)), (2, .int x2), (3, .int x3), (4, .int x4), (5, .ref (Ad 25 (p5 - 1)))]) C dX8_quote_44 (by decide) rfl ?_
  refine g_aload_n C dX8_quote_46 rfl 1 rfl ?_
  refine g_iload_n C dX8_quote_47 rfl 2 rfl ?_
  obtain ⟨v12, hv12, h⟩ := bind_of h
  refine g_cVq (n := 1) (exc := []) (exr := []) C [_] _ rfl rfl [] [] rfl rfl rfl rfl (fun _ h => absurd h (by simp)) (fun _ h => absurd h (by simp)) (fun _ h => absurd h (by simp)) (fun sz => c_X8_byRank l m8 ν a Ad w x2 _ hv12 D E sz) rfl gw_607 gw_1 gw_604 gw_606 gs_19 ⟨by decide +kernel, by decide +kernel, by decide +kernel⟩ ⟨rfl, rfl⟩ ⟨Nat.le_of_ble_eq_true rfl, Nat.le_of_ble_eq_true rfl⟩ (rcvT (lvZ g9 rfl) rfl rfl rfl) (by first | exact Nat.le_of_ble_eq_true rfl | simp [nv_cat, cat_i, cat_r, cat_n]) dX8_quote_48 ⟨by show (kc ν - kc ν0) + 0 ≤ kc r0.1.2 - kc ν0; omega, by show (ks ν - ks ν0) + 0 ≤ ks r0.1.2 - ks ν0; omega⟩ (fun r u hp hx => ?_)
  obtain ⟨er, rfl⟩ := hp
  rw [er]
  try dsimp only [List.append_nil]
  refine z_astore (lv' := [(7, nv (Ad 4) v12), (6, .int t11), (0, .ref (Ad 0 0)), (2, .int x2), (3, .int x3), (4, .int x4), (5, .ref (Ad 25 (p5 - 1)))]) C dX8_quote_51 (nv_or _ _) (by decide) (by simp [nv_cat, cat_i, cat_r, cat_n]) ?_
  refine g_iconst (v := (0 : Int32)) C dX8_quote_53 (by decide) ?_
  refine g_istore (lv' := [(8, .int (0 : Int32)), (7, nv (Ad 4) v12), (6, .int t11), (0, .ref (Ad 0 0)), (2, .int x2), (3, .int x3), (4, .int x4), (5, .ref (Ad 25 (p5 - 1)))]) C dX8_quote_54 (by decide) (by simp [nv_cat, cat_i, cat_r, cat_n]) ?_
  refine g_lv [3, 2, 1, 0] rfl ?_
  exact ll_X8_quote_56 C hEv hr hz   w _ _ _ _ _ _ hm0 hp0 h
noncomputable def f_X8_quote  (w : Nat) (μ : MP) (ν : NC) (x1 : Int32) (x2 : Int32) (x3 : Int32) (x4 : Int32) : Option (Nat × ((MP × NC) × Int32)) := bif ltB 0 (ν.2 0) then (f_X8_requireQuote w μ ν x1 x2).bind (fun v2 => bif eqB v2.1 0 then (f_X8_requireRange w μ ν x3 (1 : Int32) (100 : Int32)).bind (fun v3 => bif eqB v3.1 0 then (f_X8_requireRange w μ ν x4 (0 : Int32) (200 : Int32)).bind (fun v4 => bif eqB v4.1 0 then (b_X8_quote_24  w μ ν x2 x3 x4 v2.2).bind (fun r => some ((0 : Nat), r)) else some (v4.1, ((μ, ν), (0 : Int32)))) else some (v3.1, ((μ, ν), (0 : Int32)))) else some (v2.1, ((μ, ν), (0 : Int32)))) else none
theorem mb_X8_quote_0 {w : Nat} {μ : MP} {ν : NC} {x1 : Int32} {x2 : Int32} {x3 : Int32} {x4 : Int32} {r0 : (MP × NC) × Int32}   (h : f_X8_quote  w μ ν x1 x2 x3 x4 = some (0, r0)) : mn ν r0.1.2 := by
  unfold f_X8_quote at h
  iterate 40 (try first | (with_reducible (replace h := bind_of h; obtain ⟨rz, hrz, h⟩ := h; replace h := congrArg Prod.snd (Option.some.inj h); obtain rfl := h; exact mb_X8_quote_24  hrz)) | (with_reducible replace h := (of_guard h).2) | (with_reducible (replace h := of_guardP h; obtain ⟨hg, h⟩ := h)) | (with_reducible replace h := yl_of h rfl) | (with_reducible replace h := (of_thr h).2) | (with_reducible (replace h := bind_of h; obtain ⟨v, hv, h⟩ := h)) | (with_reducible split at h) | (with_reducible exact absurd (congrArg Prod.fst (Option.some.inj h)) (by simp)))
set_option maxHeartbeats 4000000 in
set_option maxRecDepth 100000 in
theorem lb_X8_quote_0 {p : Program} {l : Launch} {e : Env} {s : State} {m : MethodId} {args : Array Value} {below : List Frame} {meth : Method} {c : Code} {D : va_G} {E : Nat → ClassId} {sz : Nat} {μ0 : MP} {ν0 : NC} {a : AS} {Ad0 : Nat → Nat → Nat} {w : Nat} {B : Nat × (Nat → Nat)} {r0 : (MP × NC) × Int32} (C : cx p s m args meth c D E (Aof (zS μ0 ν0 a Ad0) [] s.heap.size) cX8_quote 9 "TradeLine") (hEv : eV (Ad0 30 0) (Ad0 31 0) B (Aof (zS μ0 ν0 a Ad0) [] s.heap.size) s s.heap) (hr : meth.sig.returnType = (some .int)) (hz : s.heap.size = sz) {μ : MP} {ν : NC} {Ad : Nat → Nat → Nat} (hm0 : mn ν0 ν) (hp0 : kp ν0 Ad0 Ad) {x1 : Int32} {x2 : Int32} {x3 : Int32} {x4 : Int32}   (h : f_X8_quote  w μ ν x1 x2 x3 x4 = some (0, r0)) : G p l e ({ frames := 9, cells := kc r0.1.2 - kc ν0, slots := ks r0.1.2 - ks ν0, locals := 271 } : Room) s m args below meth c D E (Aof (zS μ0 ν0 a Ad0) [] s.heap.size) 9 (MQ below (cQ D E sz (zS μ0 ν0 a Ad0) [] (pI (fun r u => r = r0.2 ∧ ∃ A1, u = (zS r0.1.1 r0.1.2 a A1, []) ∧ kp ν0 Ad0 A1))) args s (kc r0.1.2 - kc ν0) (ks r0.1.2 - ks ν0) (Aof (zS μ0 ν0 a Ad0) [] s.heap.size)) (zS μ ν a Ad) [] (kc ν - kc ν0) (ks ν - ks ν0) 0 [(0, .ref (Ad 0 0)), (1, .int x1), (2, .int x2), (3, .int x3), (4, .int x4)] [] := by
  have m0 := mb_X8_quote_0  h
  have e1 := m0.2.1; have e2 := m0.2.2.1; have e3 := hm0.2.1; have e4 := hm0.2.2.1
  unfold f_X8_quote at h
  refine g_aload_n C dX8_quote_0 rfl 0 rfl ?_
  refine g_iload_n C dX8_quote_1 rfl 1 rfl ?_
  refine g_iload_n C dX8_quote_2 rfl 2 rfl ?_
  obtain ⟨g1, h⟩ := of_guard h
  obtain ⟨v2, hv2, h⟩ := bind_of h
  obtain ⟨nv2, h⟩ := of_thr h
  refine g_cVq (n := 2) (exc := []) (exr := []) C [_, _] _ rfl rfl [] [] rfl rfl rfl rfl (fun _ h => absurd h (by simp)) (fun _ h => absurd h (by simp)) (fun _ h => absurd h (by simp)) (fun sz => c_X8_requireQuote l μ ν a Ad w x1 x2 _ (thr0 hv2 nv2) D E sz) rfl gw_1183 gw_1 gw_1180 gw_1182 gs_37 ⟨by decide +kernel, by decide +kernel, by decide +kernel⟩ ⟨rfl, rfl⟩ ⟨Nat.le_of_ble_eq_true rfl, Nat.le_of_ble_eq_true rfl⟩ (rcvT (lvZ g1 rfl) rfl rfl rfl) (by first | exact Nat.le_of_ble_eq_true rfl | simp [nv_cat, cat_i, cat_r, cat_n]) dX8_quote_3 ⟨by show (kc ν - kc ν0) + 0 ≤ kc r0.1.2 - kc ν0; omega, by show (ks ν - ks ν0) + 0 ≤ ks r0.1.2 - ks ν0; omega⟩ (fun r u hp hx => ?_)
  obtain ⟨er, rfl⟩ := hp
  rw [er]
  try dsimp only [List.append_nil]
  refine z_astore (lv' := [(5, nv (Ad 25) v2.2), (0, .ref (Ad 0 0)), (1, .int x1), (2, .int x2), (3, .int x3), (4, .int x4)]) C dX8_quote_6 (nv_or _ _) (by decide) (by simp [nv_cat, cat_i, cat_r, cat_n]) ?_
  refine g_iload_n C dX8_quote_8 rfl 4 rfl ?_
  refine g_iconst (v := (1 : Int32)) C dX8_quote_9 (by decide) ?_
  refine g_bipush (v := (100 : Int32)) C dX8_quote_10 (by decide) ?_
  obtain ⟨v3, hv3, h⟩ := bind_of h
  obtain ⟨nv3, h⟩ := of_thr h
  refine g_cSv (n := 3) (exc := []) (exr := []) C [_, _, _] _ rfl rfl [] [] rfl rfl rfl rfl (fun _ h => absurd h (by simp)) (fun _ h => absurd h (by simp)) (fun _ h => absurd h (by simp)) (fun sz => c_X8_requireRange l μ ν a Ad w x3 (1 : Int32) (100 : Int32) _ (thr0 hv3 nv3) D E sz) rfl gw_1075 gw_1 gw_1073 gw_1074 ⟨by decide +kernel, by decide +kernel, by decide +kernel⟩ ⟨rfl, rfl⟩ ⟨Nat.le_of_ble_eq_true rfl, Nat.le_of_ble_eq_true rfl⟩ (by first | exact Nat.le_of_ble_eq_true rfl | simp [nv_cat, cat_i, cat_r, cat_n]) dX8_quote_12 ⟨by show (kc ν - kc ν0) + 0 ≤ kc r0.1.2 - kc ν0; omega, by show (ks ν - ks ν0) + 0 ≤ ks r0.1.2 - ks ν0; omega⟩ (fun u hp hx => ?_)
  obtain rfl := hp
  try dsimp only [List.append_nil]
  refine g_iload C dX8_quote_15 5 rfl ?_
  refine g_iconst (v := (0 : Int32)) C dX8_quote_17 (by decide) ?_
  refine g_sipush (v := (200 : Int32)) C dX8_quote_18 (by decide) ?_
  obtain ⟨v4, hv4, h⟩ := bind_of h
  obtain ⟨nv4, h⟩ := of_thr h
  refine g_cSv (n := 3) (exc := []) (exr := []) C [_, _, _] _ rfl rfl [] [] rfl rfl rfl rfl (fun _ h => absurd h (by simp)) (fun _ h => absurd h (by simp)) (fun _ h => absurd h (by simp)) (fun sz => c_X8_requireRange l μ ν a Ad w x4 (0 : Int32) (200 : Int32) _ (thr0 hv4 nv4) D E sz) rfl gw_1075 gw_1 gw_1073 gw_1074 ⟨by decide +kernel, by decide +kernel, by decide +kernel⟩ ⟨rfl, rfl⟩ ⟨Nat.le_of_ble_eq_true rfl, Nat.le_of_ble_eq_true rfl⟩ (by first | exact Nat.le_of_ble_eq_true rfl | simp [nv_cat, cat_i, cat_r, cat_n]) dX8_quote_21 ⟨by show (kc ν - kc ν0) + 0 ≤ kc r0.1.2 - kc ν0; omega, by show (ks ν - ks ν0) + 0 ≤ ks r0.1.2 - ks ν0; omega⟩ (fun u hp hx => ?_)
  obtain rfl := hp
  try dsimp only [List.append_nil]
  refine g_lv [1, 3, 4, 5, 0] rfl ?_
  obtain ⟨rz, hrz, h⟩ := bind_of h
  obtain rfl := congrArg Prod.snd (Option.some.inj h)
  exact lb_X8_quote_24 C hEv hr hz hm0 hp0   hrz
theorem m_X8_quote {w : Nat} {μ : MP} {ν : NC} {x1 : Int32} {x2 : Int32} {x3 : Int32} {x4 : Int32} {r0 : (MP × NC) × Int32} (h : f_X8_quote w μ ν x1 x2 x3 x4 = some (0, r0)) : mn ν r0.1.2 := mb_X8_quote_0 h
theorem c_X8_quote (l : Launch) (B : Nat × (Nat → Nat)) (μ : MP) (ν : NC) (a : AS) (Ad : Nat → Nat → Nat) (w : Nat) (x1 : Int32) (x2 : Int32) (x3 : Int32) (x4 : Int32) (r0 : (MP × NC) × Int32) (h : f_X8_quote w μ ν x1 x2 x3 x4 = some (0, r0)) : ∀ D E sz, Met l yX8_quote gwX8_quote ({ frames := 9, cells := kc r0.1.2 - kc ν, slots := ks r0.1.2 - ks ν, locals := 271 } : Room) (cPe D E sz B (zS μ ν a Ad) [] [] [.ref (Ad 0 0), .int x1, .int x2, .int x3, .int x4]) (cQ D E sz (zS μ ν a Ad) [] (pI (fun r u => r = r0.2 ∧ ∃ A1, u = (zS r0.1.1 r0.1.2 a A1, []) ∧ kp ν Ad A1))) (kc r0.1.2 - kc ν) (ks r0.1.2 - ks ν) (Aof (zS μ ν a Ad) [] sz) := by
  intro D E sz
  refine g_ofe (cc := cX8_quote) (maxL := 9) (ret := (some .int)) (own := "TradeLine") (by decide) rfl rfl (Nat.le_of_ble_eq_true rfl) ?_
  intro p e s m args below meth c C hr hin hz ha hwr hEv
  refine g_lv (lv' := [(0, .ref (Ad 0 0)), (1, .int x1), (2, .int x2), (3, .int x3), (4, .int x4)]) [0, 1, 2, 3, 4] rfl ?_
  refine g_widen (k := kc ν - kc ν) (n := ks ν - ks ν) (Nat.zero_le _) (Nat.zero_le _) ?_
  exact lb_X8_quote_0 C hEv hr hz (mn_rfl _) (kp_rfl _ _) h
set_option maxHeartbeats 4000000 in
set_option maxRecDepth 100000 in
theorem lx_X8_quote_0 {p : Program} {l : Launch} {e : Env} {s : State} {m : MethodId} {args : Array Value} {below : List Frame} {meth : Method} {c : Code} {D : va_G} {E : Nat → ClassId} {sz : Nat} {μ : MP} {ν : NC} {a : AS} {Ad : Nat → Nat → Nat} {w nx : Nat} {B : Nat × (Nat → Nat)} {r0 : (MP × NC) × Int32} (C : cx p s m args meth c D E (Aof (zS μ ν a Ad) [] s.heap.size) cX8_quote 9 "TradeLine") (hEv : eV (Ad 30 0) (Ad 31 0) B (Aof (zS μ ν a Ad) [] s.heap.size) s s.heap) (hl : l.stackTraces = false) (hT : ∀ x ∈ c.exceptionTable.toList, False) (hz : s.heap.size = sz) {x1 : Int32} {x2 : Int32} {x3 : Int32} {x4 : Int32} (h : f_X8_quote  w μ ν x1 x2 x3 x4 = some (nx + 1, r0)) : G p l e ({ frames := 9, cells := 1, slots := 6, locals := 271 } : Room) s m args below meth c D E (Aof (zS μ ν a Ad) [] s.heap.size) 9 (vx_MQ below (fun _ _ _ _ => False) (cX D E sz (zS μ ν a Ad) (nx + 1)) args s 1 6 (Aof (zS μ ν a Ad) [] s.heap.size)) (zS μ ν a Ad) [] 0 0 0 [(0, .ref (Ad 0 0)), (1, .int x1), (2, .int x2), (3, .int x3), (4, .int x4)] [] := by
  unfold f_X8_quote at h
  refine g_aload_n C dX8_quote_0 rfl 0 rfl ?_
  refine g_iload_n C dX8_quote_1 rfl 1 rfl ?_
  refine g_iload_n C dX8_quote_2 rfl 2 rfl ?_
  obtain ⟨g1, h⟩ := of_guard h
  obtain ⟨v2, hv2, h⟩ := bind_of h
  rcases of_thx h with ⟨nv2, h⟩ | nv2
  · refine g_cVq (n := 2) (exc := []) (exr := []) C [_, _] _ rfl rfl [] [] rfl rfl rfl rfl (fun _ h => absurd h (by simp)) (fun _ h => absurd h (by simp)) (fun _ h => absurd h (by simp)) (fun sz => c_X8_requireQuote l μ ν a Ad w x1 x2 _ (thr0 hv2 nv2) D E sz) rfl gw_1183 gw_1 gw_1180 gw_1182 gs_37 ⟨by decide +kernel, by decide +kernel, by decide +kernel⟩ ⟨rfl, rfl⟩ ⟨Nat.le_of_ble_eq_true rfl, Nat.le_of_ble_eq_true rfl⟩ (rcvT (lvZ g1 rfl) rfl rfl rfl) (by first | exact Nat.le_of_ble_eq_true rfl | simp [nv_cat, cat_i, cat_r, cat_n]) dX8_quote_3 ⟨by decide, by decide⟩ (fun r u hp hx => ?_)
    obtain ⟨er, rfl⟩ := hp
    rw [er]
    try dsimp only [List.append_nil]
    refine z_astore (lv' := [(5, nv (Ad 25) v2.2), (0, .ref (Ad 0 0)), (1, .int x1), (2, .int x2), (3, .int x3), (4, .int x4)]) C dX8_quote_6 (nv_or _ _) (by decide) (by simp [nv_cat, cat_i, cat_r, cat_n]) ?_
    refine g_iload_n C dX8_quote_8 rfl 4 rfl ?_
    refine g_iconst (v := (1 : Int32)) C dX8_quote_9 (by decide) ?_
    refine g_bipush (v := (100 : Int32)) C dX8_quote_10 (by decide) ?_
    obtain ⟨v3, hv3, h⟩ := bind_of h
    rcases of_thx h with ⟨nv3, h⟩ | nv3
    · refine g_cSv (n := 3) (exc := []) (exr := []) C [_, _, _] _ rfl rfl [] [] rfl rfl rfl rfl (fun _ h => absurd h (by simp)) (fun _ h => absurd h (by simp)) (fun _ h => absurd h (by simp)) (fun sz => c_X8_requireRange l μ ν a Ad w x3 (1 : Int32) (100 : Int32) _ (thr0 hv3 nv3) D E sz) rfl gw_1075 gw_1 gw_1073 gw_1074 ⟨by decide +kernel, by decide +kernel, by decide +kernel⟩ ⟨rfl, rfl⟩ ⟨Nat.le_of_ble_eq_true rfl, Nat.le_of_ble_eq_true rfl⟩ (by first | exact Nat.le_of_ble_eq_true rfl | simp [nv_cat, cat_i, cat_r, cat_n]) dX8_quote_12 ⟨by decide, by decide⟩ (fun u hp hx => ?_)
      obtain rfl := hp
      try dsimp only [List.append_nil]
      refine g_iload C dX8_quote_15 5 rfl ?_
      refine g_iconst (v := (0 : Int32)) C dX8_quote_17 (by decide) ?_
      refine g_sipush (v := (200 : Int32)) C dX8_quote_18 (by decide) ?_
      obtain ⟨v4, hv4, h⟩ := bind_of h
      rcases of_thx h with ⟨nv4, h⟩ | nv4
      · refine g_cSv (n := 3) (exc := []) (exr := []) C [_, _, _] _ rfl rfl [] [] rfl rfl rfl rfl (fun _ h => absurd h (by simp)) (fun _ h => absurd h (by simp)) (fun _ h => absurd h (by simp)) (fun sz => c_X8_requireRange l μ ν a Ad w x4 (0 : Int32) (200 : Int32) _ (thr0 hv4 nv4) D E sz) rfl gw_1075 gw_1 gw_1073 gw_1074 ⟨by decide +kernel, by decide +kernel, by decide +kernel⟩ ⟨rfl, rfl⟩ ⟨Nat.le_of_ble_eq_true rfl, Nat.le_of_ble_eq_true rfl⟩ (by first | exact Nat.le_of_ble_eq_true rfl | simp [nv_cat, cat_i, cat_r, cat_n]) dX8_quote_21 ⟨by decide, by decide⟩ (fun u hp hx => ?_)
        obtain rfl := hp
        try dsimp only [List.append_nil]
        obtain ⟨_, _, h⟩ := bind_of h
        exact absurd (congrArg Prod.fst (Option.some.inj h)) (by simp)
      · exact g_xS (index := 3) C hEv ⟨rfl, rfl⟩ hT hz [_, _, _] _ rfl rfl (fun sz => x_X8_requireRange l hl B μ ν a Ad w x4 (0 : Int32) (200 : Int32) _ _ (thrS hv4 nv4) D E sz) rfl gw_1075 gw_1 gw_1073 gw_1074 ⟨by decide +kernel, by decide +kernel, by decide +kernel⟩ ⟨rfl, rfl⟩ ⟨Nat.le_of_ble_eq_true rfl, Nat.le_of_ble_eq_true rfl⟩ (Nat.le_of_ble_eq_true rfl) dX8_quote_21 ⟨by decide, by decide⟩
    · exact g_xS (index := 3) C hEv ⟨rfl, rfl⟩ hT hz [_, _, _] _ rfl rfl (fun sz => x_X8_requireRange l hl B μ ν a Ad w x3 (1 : Int32) (100 : Int32) _ _ (thrS hv3 nv3) D E sz) rfl gw_1075 gw_1 gw_1073 gw_1074 ⟨by decide +kernel, by decide +kernel, by decide +kernel⟩ ⟨rfl, rfl⟩ ⟨Nat.le_of_ble_eq_true rfl, Nat.le_of_ble_eq_true rfl⟩ (Nat.le_of_ble_eq_true rfl) dX8_quote_12 ⟨by decide, by decide⟩
  · exact g_xV (index := 2) C hEv ⟨rfl, rfl⟩ hT hz [_, _] _ rfl rfl (fun sz => x_X8_requireQuote l hl B μ ν a Ad w x1 x2 _ _ (thrS hv2 nv2) D E sz) rfl gw_1183 gw_1 gw_1180 gw_1182 gs_37 ⟨by decide +kernel, by decide +kernel, by decide +kernel⟩ ⟨rfl, rfl⟩ ⟨Nat.le_of_ble_eq_true rfl, Nat.le_of_ble_eq_true rfl⟩ (rcvT (lvZ g1 rfl) rfl rfl rfl) (Nat.le_of_ble_eq_true rfl) dX8_quote_3 ⟨by decide, by decide⟩
theorem x_X8_quote (l : Launch) (hl : l.stackTraces = false) (B : Nat × (Nat → Nat)) (μ : MP) (ν : NC) (a : AS) (Ad : Nat → Nat → Nat) (w : Nat) (x1 : Int32) (x2 : Int32) (x3 : Int32) (x4 : Int32) (nx : Nat) (r0 : (MP × NC) × Int32) (h : f_X8_quote w μ ν x1 x2 x3 x4 = some (nx + 1, r0)) : ∀ D E sz, vx_Met l yX8_quote gwX8_quote ({ frames := 9, cells := 1, slots := 6, locals := 271 } : Room) (cPe D E sz B (zS μ ν a Ad) [] [] [.ref (Ad 0 0), .int x1, .int x2, .int x3, .int x4]) (fun _ _ _ _ => False) (cX D E sz (zS μ ν a Ad) (nx + 1)) 1 6 (Aof (zS μ ν a Ad) [] sz) := by
  intro D E sz
  refine g_ofx (cc := cX8_quote) (maxL := 9) (ret := (some .int)) (own := "TradeLine") (by decide) rfl rfl (Nat.le_of_ble_eq_true rfl) ?_
  intro p e s m args below meth c C hT hz ha hEv
  refine g_lv (lv' := [(0, .ref (Ad 0 0)), (1, .int x1), (2, .int x2), (3, .int x3), (4, .int x4)]) [0, 1, 2, 3, 4] rfl ?_
  exact lx_X8_quote_0 C hEv hl hT hz h
noncomputable def b_X8_houseTakesOrder_70  (w : Nat) (μ : MP) (ν : NC) : Option ((MP × NC) × Int32) := some ((μ, ν), (0 : Int32))
theorem mb_X8_houseTakesOrder_70 {w : Nat} {μ : MP} {ν : NC} {r0 : (MP × NC) × Int32}   (h : b_X8_houseTakesOrder_70  w μ ν  = some r0) : mn ν r0.1.2 := by
  unfold b_X8_houseTakesOrder_70 at h
  iterate 40 (try first | (with_reducible replace h := (of_guard h).2) | (with_reducible (replace h := of_guardP h; obtain ⟨hg, h⟩ := h)) | (with_reducible replace h := yl_of h rfl) | (with_reducible replace h := (of_thr h).2) | (with_reducible (replace h := bind_of h; obtain ⟨v, hv, h⟩ := h)) | (with_reducible split at h) | (with_reducible (replace h := Option.some.inj h; obtain rfl := h; exact mn_rfl _)) | (with_reducible exact absurd (congrArg Prod.fst (Option.some.inj h)) (by simp)))
set_option maxHeartbeats 4000000 in
set_option maxRecDepth 100000 in
theorem lb_X8_houseTakesOrder_70 {p : Program} {l : Launch} {e : Env} {s : State} {m : MethodId} {args : Array Value} {below : List Frame} {meth : Method} {c : Code} {D : va_G} {E : Nat → ClassId} {sz : Nat} {μ0 : MP} {ν0 : NC} {a : AS} {Ad0 : Nat → Nat → Nat} {w : Nat} {B : Nat × (Nat → Nat)} {r0 : (MP × NC) × Int32} (C : cx p s m args meth c D E (Aof (zS μ0 ν0 a Ad0) [] s.heap.size) cX8_houseTakesOrder 3 "TradeLine") (hEv : eV (Ad0 30 0) (Ad0 31 0) B (Aof (zS μ0 ν0 a Ad0) [] s.heap.size) s s.heap) (hr : meth.sig.returnType = none) (hz : s.heap.size = sz) {μ : MP} {ν : NC} {Ad : Nat → Nat → Nat} (hm0 : mn ν0 ν) (hp0 : kp ν0 Ad0 Ad)   (h : b_X8_houseTakesOrder_70  w μ ν  = some r0) : G p l e ({ frames := 9, cells := kc r0.1.2 - kc ν0, slots := ks r0.1.2 - ks ν0, locals := 271 } : Room) s m args below meth c D E (Aof (zS μ0 ν0 a Ad0) [] s.heap.size) 3 (MQ below (cQ D E sz (zS μ0 ν0 a Ad0) [] (pV (fun u => ∃ A1, u = (zS r0.1.1 r0.1.2 a A1, []) ∧ kp ν0 Ad0 A1))) args s (kc r0.1.2 - kc ν0) (ks r0.1.2 - ks ν0) (Aof (zS μ0 ν0 a Ad0) [] s.heap.size)) (zS μ ν a Ad) [] (kc ν - kc ν0) (ks ν - ks ν0) 70 [(0, .ref (Ad 0 0))] [] := by
  have m0 := mb_X8_houseTakesOrder_70  h
  have e1 := m0.2.1; have e2 := m0.2.2.1; have e3 := hm0.2.1; have e4 := hm0.2.2.1
  unfold b_X8_houseTakesOrder_70 at h
  obtain rfl := Option.some.inj h
  exact g_vret C hr hz ⟨(hm0.2.2.2 30 (by decide) (by decide)).1, (hm0.2.2.2 31 (by decide) (by decide)).1, hp0.2.1, hp0.2.2⟩ ⟨Ad, rfl, hp0⟩ (fun j x h => by simp at h) dX8_houseTakesOrder_70
noncomputable def b_X8_houseTakesOrder_65  (w : Nat) (μ : MP) (ν : NC) (p2 : Nat) : Option ((MP × NC) × Int32) := bif ltB 0 (ν.2 0) then (f_X8_route w μ ν p2).bind (fun v18 => b_X8_houseTakesOrder_70  w v18.1.1 v18.1.2 ) else none
theorem mb_X8_houseTakesOrder_65 {w : Nat} {μ : MP} {ν : NC} {p2 : Nat} {r0 : (MP × NC) × Int32}   (h : b_X8_houseTakesOrder_65  w μ ν p2 = some r0) : mn ν r0.1.2 := by
  unfold b_X8_houseTakesOrder_65 at h
  iterate 40 (try first | (with_reducible replace h := (of_guard h).2) | (with_reducible (replace h := of_guardP h; obtain ⟨hg, h⟩ := h)) | (with_reducible replace h := yl_of h rfl) | (with_reducible replace h := (of_thr h).2) | (with_reducible (replace h := bind_of h; obtain ⟨v, hv, h⟩ := h)) | (with_reducible split at h) | (with_reducible (exact mn_trans (m_X8_route hv) (mb_X8_houseTakesOrder_70  h))) | (with_reducible exact absurd (congrArg Prod.fst (Option.some.inj h)) (by simp)))
set_option maxHeartbeats 4000000 in
set_option maxRecDepth 100000 in
theorem lb_X8_houseTakesOrder_65 {p : Program} {l : Launch} {e : Env} {s : State} {m : MethodId} {args : Array Value} {below : List Frame} {meth : Method} {c : Code} {D : va_G} {E : Nat → ClassId} {sz : Nat} {μ0 : MP} {ν0 : NC} {a : AS} {Ad0 : Nat → Nat → Nat} {w : Nat} {B : Nat × (Nat → Nat)} {r0 : (MP × NC) × Int32} (C : cx p s m args meth c D E (Aof (zS μ0 ν0 a Ad0) [] s.heap.size) cX8_houseTakesOrder 3 "TradeLine") (hEv : eV (Ad0 30 0) (Ad0 31 0) B (Aof (zS μ0 ν0 a Ad0) [] s.heap.size) s s.heap) (hr : meth.sig.returnType = none) (hz : s.heap.size = sz) {μ : MP} {ν : NC} {Ad : Nat → Nat → Nat} (hm0 : mn ν0 ν) (hp0 : kp ν0 Ad0 Ad) {p2 : Nat}   (h : b_X8_houseTakesOrder_65  w μ ν p2 = some r0) : G p l e ({ frames := 9, cells := kc r0.1.2 - kc ν0, slots := ks r0.1.2 - ks ν0, locals := 271 } : Room) s m args below meth c D E (Aof (zS μ0 ν0 a Ad0) [] s.heap.size) 3 (MQ below (cQ D E sz (zS μ0 ν0 a Ad0) [] (pV (fun u => ∃ A1, u = (zS r0.1.1 r0.1.2 a A1, []) ∧ kp ν0 Ad0 A1))) args s (kc r0.1.2 - kc ν0) (ks r0.1.2 - ks ν0) (Aof (zS μ0 ν0 a Ad0) [] s.heap.size)) (zS μ ν a Ad) [] (kc ν - kc ν0) (ks ν - ks ν0) 65 [(0, .ref (Ad 0 0)), (2, nv (Ad 20) p2)] [] := by
  have m0 := mb_X8_houseTakesOrder_65  h
  have e1 := m0.2.1; have e2 := m0.2.2.1; have e3 := hm0.2.1; have e4 := hm0.2.2.1
  unfold b_X8_houseTakesOrder_65 at h
  refine g_aload_n C dX8_houseTakesOrder_65 rfl 0 rfl ?_
  refine z_aload_n C dX8_houseTakesOrder_66 rfl 1 rfl (nv_or _ _) ?_
  obtain ⟨g17, h⟩ := of_guard h
  obtain ⟨v18, hv18, h⟩ := bind_of h
  have m2 := m_X8_route hv18
  have m3 := mb_X8_houseTakesOrder_70  h
  have a1 := hm0.2.1; have a2 := hm0.2.2.1; have b1 := m2.2.1; have b2 := m2.2.2.1; have d1 := m3.2.1; have d2 := m3.2.2.1
  refine g_lv [0] rfl ?_
  refine g_cVve (n := 1) (exc := []) (exr := []) C hEv ⟨hp0.2.1 0, hp0.2.2 0⟩ [_] _ rfl rfl [] [] rfl rfl rfl rfl (fun _ h => absurd h (by simp)) (fun _ h => absurd h (by simp)) (fun _ h => absurd h (by simp)) (fun sz => c_X8_route l B μ ν a Ad w p2 _ hv18 D E sz) rfl gw_871 gw_1 gw_868 gw_870 gs_24 ⟨by decide +kernel, by decide +kernel, by decide +kernel⟩ ⟨rfl, rfl⟩ ⟨Nat.le_of_ble_eq_true rfl, Nat.le_of_ble_eq_true rfl⟩ (rcvT (lvZ g17 rfl) rfl rfl rfl) (by first | exact Nat.le_of_ble_eq_true rfl | simp [nv_cat, cat_i, cat_r, cat_n]) dX8_houseTakesOrder_67 ⟨by show (kc ν - kc ν0) + (kc v18.1.2 - kc ν) ≤ kc r0.1.2 - kc ν0; omega, by show (ks ν - ks ν0) + (ks v18.1.2 - ks ν) ≤ ks r0.1.2 - ks ν0; omega⟩ (fun u hp hx => ?_)
  obtain ⟨A1, rfl, hkp⟩ := hp
  try dsimp only [List.append_nil]
  refine g_widen (k := kc v18.1.2 - kc ν0) (n := ks v18.1.2 - ks ν0) (by omega) (by omega) ?_
  rw [show Ad 0 0 = A1 0 0 from (hkp.1 0 _ rfl (of_decide_eq_true g17)).symm]
  exact lb_X8_houseTakesOrder_70 C hEv hr hz (mn_trans hm0 m2) (kp_trans hp0 hm0 hkp)   h
noncomputable def b_X8_houseTakesOrder_59  (w : Nat) (μ : MP) (ν : NC) (p2 : Nat) : Option ((MP × NC) × Int32) := bif ltB 0 (ν.2 0) then bif decide (p2 ≤ ν.2 20) then (f_X8_reportPlainly w μ ν (0 : Int32) p2).bind (fun v15 => b_X8_houseTakesOrder_65  w v15.1.1 v15.1.2 p2) else none else none
theorem mb_X8_houseTakesOrder_59 {w : Nat} {μ : MP} {ν : NC} {p2 : Nat} {r0 : (MP × NC) × Int32}   (h : b_X8_houseTakesOrder_59  w μ ν p2 = some r0) : mn ν r0.1.2 := by
  unfold b_X8_houseTakesOrder_59 at h
  iterate 40 (try first | (with_reducible replace h := (of_guard h).2) | (with_reducible (replace h := of_guardP h; obtain ⟨hg, h⟩ := h)) | (with_reducible replace h := yl_of h rfl) | (with_reducible replace h := (of_thr h).2) | (with_reducible (replace h := bind_of h; obtain ⟨v, hv, h⟩ := h)) | (with_reducible split at h) | (with_reducible (exact mn_trans (m_X8_reportPlainly hv) (mb_X8_houseTakesOrder_65  h))) | (with_reducible exact absurd (congrArg Prod.fst (Option.some.inj h)) (by simp)))
set_option maxHeartbeats 4000000 in
set_option maxRecDepth 100000 in
theorem lb_X8_houseTakesOrder_59 {p : Program} {l : Launch} {e : Env} {s : State} {m : MethodId} {args : Array Value} {below : List Frame} {meth : Method} {c : Code} {D : va_G} {E : Nat → ClassId} {sz : Nat} {μ0 : MP} {ν0 : NC} {a : AS} {Ad0 : Nat → Nat → Nat} {w : Nat} {B : Nat × (Nat → Nat)} {r0 : (MP × NC) × Int32} (C : cx p s m args meth c D E (Aof (zS μ0 ν0 a Ad0) [] s.heap.size) cX8_houseTakesOrder 3 "TradeLine") (hEv : eV (Ad0 30 0) (Ad0 31 0) B (Aof (zS μ0 ν0 a Ad0) [] s.heap.size) s s.heap) (hr : meth.sig.returnType = none) (hz : s.heap.size = sz) {μ : MP} {ν : NC} {Ad : Nat → Nat → Nat} (hm0 : mn ν0 ν) (hp0 : kp ν0 Ad0 Ad) {p2 : Nat}   (h : b_X8_houseTakesOrder_59  w μ ν p2 = some r0) : G p l e ({ frames := 9, cells := kc r0.1.2 - kc ν0, slots := ks r0.1.2 - ks ν0, locals := 271 } : Room) s m args below meth c D E (Aof (zS μ0 ν0 a Ad0) [] s.heap.size) 3 (MQ below (cQ D E sz (zS μ0 ν0 a Ad0) [] (pV (fun u => ∃ A1, u = (zS r0.1.1 r0.1.2 a A1, []) ∧ kp ν0 Ad0 A1))) args s (kc r0.1.2 - kc ν0) (ks r0.1.2 - ks ν0) (Aof (zS μ0 ν0 a Ad0) [] s.heap.size)) (zS μ ν a Ad) [] (kc ν - kc ν0) (ks ν - ks ν0) 59 [(0, .ref (Ad 0 0)), (2, nv (Ad 20) p2)] [] := by
  have m0 := mb_X8_houseTakesOrder_59  h
  have e1 := m0.2.1; have e2 := m0.2.2.1; have e3 := hm0.2.1; have e4 := hm0.2.2.1
  unfold b_X8_houseTakesOrder_59 at h
  refine g_aload_n C dX8_houseTakesOrder_59 rfl 0 rfl ?_
  refine g_iconst (v := (0 : Int32)) C dX8_houseTakesOrder_60 (by decide) ?_
  refine z_aload_n C dX8_houseTakesOrder_61 rfl 1 rfl (nv_or _ _) ?_
  obtain ⟨g14, h⟩ := of_guard h
  obtain ⟨g16, h⟩ := of_guard h
  obtain ⟨v15, hv15, h⟩ := bind_of h
  have m2 := m_X8_reportPlainly hv15
  have m3 := mb_X8_houseTakesOrder_65  h
  have a1 := hm0.2.1; have a2 := hm0.2.2.1; have b1 := m2.2.1; have b2 := m2.2.2.1; have d1 := m3.2.1; have d2 := m3.2.2.1
  refine g_lv [0, 1] rfl ?_
  refine g_cVve (n := 2) (exc := []) (exr := []) C hEv ⟨hp0.2.1 0, hp0.2.2 0⟩ [_, _] _ rfl rfl [] [] rfl rfl rfl rfl (fun _ h => absurd h (by simp)) (fun _ h => absurd h (by simp)) (fun _ h => absurd h (by simp)) (fun sz => c_X8_reportPlainly l B μ ν a Ad w (0 : Int32) p2 _ hv15 D E sz) rfl gw_867 gw_1 gw_864 gw_866 gs_23 ⟨by decide +kernel, by decide +kernel, by decide +kernel⟩ ⟨rfl, rfl⟩ ⟨Nat.le_of_ble_eq_true rfl, Nat.le_of_ble_eq_true rfl⟩ (rcvT (lvZ g14 rfl) rfl rfl rfl) (by first | exact Nat.le_of_ble_eq_true rfl | simp [nv_cat, cat_i, cat_r, cat_n]) dX8_houseTakesOrder_62 ⟨by show (kc ν - kc ν0) + (kc v15.1.2 - kc ν) ≤ kc r0.1.2 - kc ν0; omega, by show (ks ν - ks ν0) + (ks v15.1.2 - ks ν) ≤ ks r0.1.2 - ks ν0; omega⟩ (fun u hp hx => ?_)
  obtain ⟨A1, rfl, hkp⟩ := hp
  try dsimp only [List.append_nil]
  refine g_widen (k := kc v15.1.2 - kc ν0) (n := ks v15.1.2 - ks ν0) (by omega) (by omega) ?_
  rw [show Ad 0 0 = A1 0 0 from (hkp.1 0 _ rfl (of_decide_eq_true g14)).symm]
  rw [show nv (Ad 20) p2 = nv (A1 20) p2 from (kp_nv hkp rfl g16).symm]
  exact lb_X8_houseTakesOrder_65 C hEv hr hz (mn_trans hm0 m2) (kp_trans hp0 hm0 hkp)   h
noncomputable def f_X8_houseTakesOrder  (w : Nat) (μ : MP) (ν : NC) (p1 : Nat) : Option ((MP × NC) × Int32) := bif nzB p1 then bif ltB (p1 - 1) (ν.2 6) then (f_X3_valueOf w μ ν (p1 - 1) (11 : Int32)).bind (fun v3 => bif ltB 0 (ν.2 0) then (f_X8_findOrder w μ ν v3).bind (fun v5 => (if v5 = 0 then (some ((μ, ν), (0 : Int32))) else (bif ltB (v5 - 1) (ν.2 20) then (if (μ.1 20 (v5 - 1) 6) = (0 : Int32) then (yl (uM μ 20 (v5 - 1) 6 (1 : Int32)) (fun m7 => (f_X3_valueOf w m7 ν (p1 - 1) (44 : Int32)).bind (fun v8 => bif ltB (2 * (v5 - 1) + 1) (ν.2 21) then yl (uM m7 21 (2 * (v5 - 1) + 1) 0 v8) (fun m10 => (f_X3_valueOf w m10 ν (p1 - 1) (38 : Int32)).bind (fun v11 => yl (uM m10 21 (2 * (v5 - 1) + 1) 1 v11) (fun m12 => (f_X8_rankBehindItsPrice w m12 ν ((v5 - 1) + 1)).bind (fun v13 => b_X8_houseTakesOrder_59  w v13.1.1 v13.1.2 ((v5 - 1) + 1))))) else none))) else (some ((μ, ν), (0 : Int32)))) else none))) else none) else none else none
theorem mb_X8_houseTakesOrder_0 {w : Nat} {μ : MP} {ν : NC} {p1 : Nat} {r0 : (MP × NC) × Int32}   (h : f_X8_houseTakesOrder  w μ ν p1 = some r0) : mn ν r0.1.2 := by
  unfold f_X8_houseTakesOrder at h
  iterate 40 (try first | (with_reducible replace h := (of_guard h).2) | (with_reducible (replace h := of_guardP h; obtain ⟨hg, h⟩ := h)) | (with_reducible replace h := yl_of h rfl) | (with_reducible replace h := (of_thr h).2) | (with_reducible (replace h := bind_of h; obtain ⟨v, hv, h⟩ := h)) | (with_reducible split at h) | (with_reducible (replace h := Option.some.inj h; obtain rfl := h; exact mn_rfl _)) | (with_reducible (exact mn_trans (m_X8_rankBehindItsPrice hv) (mb_X8_houseTakesOrder_59  h))) | (with_reducible exact absurd (congrArg Prod.fst (Option.some.inj h)) (by simp)))
set_option maxHeartbeats 4000000 in
set_option maxRecDepth 100000 in
theorem lb_X8_houseTakesOrder_0 {p : Program} {l : Launch} {e : Env} {s : State} {m : MethodId} {args : Array Value} {below : List Frame} {meth : Method} {c : Code} {D : va_G} {E : Nat → ClassId} {sz : Nat} {μ0 : MP} {ν0 : NC} {a : AS} {Ad0 : Nat → Nat → Nat} {w : Nat} {B : Nat × (Nat → Nat)} {r0 : (MP × NC) × Int32} (C : cx p s m args meth c D E (Aof (zS μ0 ν0 a Ad0) [] s.heap.size) cX8_houseTakesOrder 3 "TradeLine") (hEv : eV (Ad0 30 0) (Ad0 31 0) B (Aof (zS μ0 ν0 a Ad0) [] s.heap.size) s s.heap) (hr : meth.sig.returnType = none) (hz : s.heap.size = sz) {μ : MP} {ν : NC} {Ad : Nat → Nat → Nat} (hm0 : mn ν0 ν) (hp0 : kp ν0 Ad0 Ad) {p1 : Nat}   (h : f_X8_houseTakesOrder  w μ ν p1 = some r0) : G p l e ({ frames := 9, cells := kc r0.1.2 - kc ν0, slots := ks r0.1.2 - ks ν0, locals := 271 } : Room) s m args below meth c D E (Aof (zS μ0 ν0 a Ad0) [] s.heap.size) 3 (MQ below (cQ D E sz (zS μ0 ν0 a Ad0) [] (pV (fun u => ∃ A1, u = (zS r0.1.1 r0.1.2 a A1, []) ∧ kp ν0 Ad0 A1))) args s (kc r0.1.2 - kc ν0) (ks r0.1.2 - ks ν0) (Aof (zS μ0 ν0 a Ad0) [] s.heap.size)) (zS μ ν a Ad) [] (kc ν - kc ν0) (ks ν - ks ν0) 0 [(0, .ref (Ad 0 0)), (1, nv (Ad 6) p1)] [] := by
  have m0 := mb_X8_houseTakesOrder_0  h
  have e1 := m0.2.1; have e2 := m0.2.2.1; have e3 := hm0.2.1; have e4 := hm0.2.2.1
  unfold f_X8_houseTakesOrder at h
  refine g_aload_n C dX8_houseTakesOrder_0 rfl 0 rfl ?_
  refine z_aload_n C dX8_houseTakesOrder_1 rfl 1 rfl (nv_or _ _) ?_
  refine g_bipush (v := (11 : Int32)) C dX8_houseTakesOrder_2 (by decide) ?_
  obtain ⟨g1, h⟩ := of_guard h
  rw [nzB_e g1]
  obtain ⟨g2, h⟩ := of_guard h
  obtain ⟨v3, hv3, h⟩ := bind_of h
  refine g_cVi (n := 1) (exc := []) (exr := []) C [_] _ rfl rfl [] [] rfl rfl rfl rfl (fun _ h => absurd h (by simp)) (fun _ h => absurd h (by simp)) (fun _ h => absurd h (by simp)) (fun sz => c_X3_valueOf l μ ν a Ad w (p1 - 1) (11 : Int32) _ hv3 D E sz) rfl gw_558 gw_18 gw_555 gw_556 gw_557 ⟨by decide +kernel, by decide +kernel, by decide +kernel⟩ ⟨rfl, rfl⟩ ⟨Nat.le_of_ble_eq_true rfl, Nat.le_of_ble_eq_true rfl⟩ (rcvT (lvZ g2 rfl) rfl rfl rfl) (by first | exact Nat.le_of_ble_eq_true rfl | simp [nv_cat, cat_i, cat_r, cat_n]) dX8_houseTakesOrder_4 ⟨by show (kc ν - kc ν0) + 0 ≤ kc r0.1.2 - kc ν0; omega, by show (ks ν - ks ν0) + 0 ≤ ks r0.1.2 - ks ν0; omega⟩ (fun r u hp hx => ?_)
  obtain ⟨er, rfl⟩ := hp
  rw [er]
  try dsimp only [List.append_nil]
  obtain ⟨g4, h⟩ := of_guard h
  obtain ⟨v5, hv5, h⟩ := bind_of h
  refine g_cVq (n := 1) (exc := []) (exr := []) C [_] _ rfl rfl [] [] rfl rfl rfl rfl (fun _ h => absurd h (by simp)) (fun _ h => absurd h (by simp)) (fun _ h => absurd h (by simp)) (fun sz => c_X8_findOrder l μ ν a Ad w v3 _ hv5 D E sz) rfl gw_575 gw_1 gw_572 gw_574 gs_13 ⟨by decide +kernel, by decide +kernel, by decide +kernel⟩ ⟨rfl, rfl⟩ ⟨Nat.le_of_ble_eq_true rfl, Nat.le_of_ble_eq_true rfl⟩ (rcvT (lvZ g4 rfl) rfl rfl rfl) (by first | exact Nat.le_of_ble_eq_true rfl | simp [nv_cat, cat_i, cat_r, cat_n]) dX8_houseTakesOrder_7 ⟨by show (kc ν - kc ν0) + 0 ≤ kc r0.1.2 - kc ν0; omega, by show (ks ν - ks ν0) + 0 ≤ ks r0.1.2 - ks ν0; omega⟩ (fun r u hp hx => ?_)
  obtain ⟨er, rfl⟩ := hp
  rw [er]
  try dsimp only [List.append_nil]
  refine z_astore_n (i := 2) (lv' := [(2, nv (Ad 20) v5), (0, .ref (Ad 0 0)), (1, .ref (Ad 6 (p1 - 1)))]) C dX8_houseTakesOrder_10 (nv_or _ _) rfl (by decide) (by simp [nv_cat, cat_i, cat_r, cat_n]) ?_
  refine z_aload_n C dX8_houseTakesOrder_11 rfl 0 rfl (nv_or _ _) ?_
  by_cases c12 : v5 = 0
  · replace h := (if_pos c12).symm.trans h
    rw [nv_z c12]
    refine z_ifnullN (tgt := 22) C dX8_houseTakesOrder_12 (by decide) ?_
    obtain rfl := Option.some.inj h
    exact g_vret C hr hz ⟨(hm0.2.2.2 30 (by decide) (by decide)).1, (hm0.2.2.2 31 (by decide) (by decide)).1, hp0.2.1, hp0.2.2⟩ ⟨Ad, rfl, hp0⟩ (fun j x h => by simp at h) dX8_houseTakesOrder_22
  · replace h := (if_neg c12).symm.trans h
    rw [nv_n c12]
    refine z_ifnull C dX8_houseTakesOrder_12 ?_
    refine g_aload_n C dX8_houseTakesOrder_15 rfl 0 rfl ?_
    obtain ⟨g6, h⟩ := of_guard h
    refine g_get (k := 20) (i := (v5 - 1)) (ref := "TradeLine$Order") (v := .int (μ.1 20 (v5 - 1) 6)) C rfl (lvZ g6 rfl) rfl rfl inGX4 6 (by decide) gw_1121 (fun _ h => h) rfl dX8_houseTakesOrder_16 ?_
    refine g_if_eq (tgt := 23) C dX8_houseTakesOrder_19 (by decide) (fun c19 => ?_) (fun c19 => ?_)
    · replace h := (if_pos c19).symm.trans h
      refine g_aload_n C dX8_houseTakesOrder_23 rfl 0 rfl ?_
      refine g_iconst (v := (1 : Int32)) C dX8_houseTakesOrder_24 (by decide) ?_
      refine z_put (k := 20) (i := (v5 - 1)) (ref := "TradeLine$Order") C rfl g6 rfl rfl rfl inGX4 tyX4 tyX4_ok nmX4 6 (by decide) gw_1121 (fun _ h => h) rfl (tyX4_ok 6 (by decide)) rfl rfl (by simp [fvs]) (by simp [fvs, up1]) dX8_houseTakesOrder_25 (fun m7 em7 => ?_)
      replace h := yl_of h em7
      refine g_aload_n C dX8_houseTakesOrder_28 rfl 0 rfl ?_
      refine g_get (k := 20) (i := (v5 - 1)) (ref := "TradeLine$Order") (v := .ref (Ad 21 (2 * (v5 - 1) + 1))) C rfl (lvZ g6 rfl) rfl rfl inGX4 3 (by decide) gw_1116 (fun _ h => h) rfl dX8_houseTakesOrder_29 ?_
      refine g_aload_n C dX8_houseTakesOrder_32 rfl 2 rfl ?_
      refine g_bipush (v := (44 : Int32)) C dX8_houseTakesOrder_33 (by decide) ?_
      obtain ⟨v8, hv8, h⟩ := bind_of h
      refine g_cVi (n := 1) (exc := []) (exr := []) C [_] _ rfl rfl [] [] rfl rfl rfl rfl (fun _ h => absurd h (by simp)) (fun _ h => absurd h (by simp)) (fun _ h => absurd h (by simp)) (fun sz => c_X3_valueOf l m7 ν a Ad w (p1 - 1) (44 : Int32) _ hv8 D E sz) rfl gw_558 gw_18 gw_555 gw_556 gw_557 ⟨by decide +kernel, by decide +kernel, by decide +kernel⟩ ⟨rfl, rfl⟩ ⟨Nat.le_of_ble_eq_true rfl, Nat.le_of_ble_eq_true rfl⟩ (rcvT (lvZ g2 rfl) rfl rfl rfl) (by first | exact Nat.le_of_ble_eq_true rfl | simp [nv_cat, cat_i, cat_r, cat_n]) dX8_houseTakesOrder_35 ⟨by show (kc ν - kc ν0) + 0 ≤ kc r0.1.2 - kc ν0; omega, by show (ks ν - ks ν0) + 0 ≤ ks r0.1.2 - ks ν0; omega⟩ (fun r u hp hx => ?_)
      obtain ⟨er, rfl⟩ := hp
      rw [er]
      try dsimp only [List.append_nil]
      obtain ⟨g9, h⟩ := of_guard h
      refine z_put (k := 21) (i := (2 * (v5 - 1) + 1)) (ref := "TradeLine$Book") C rfl g9 rfl rfl rfl inGX1 tyX1 tyX1_ok nmX1 0 (by decide) gw_1091 (fun _ h => h) rfl (tyX1_ok 0 (by decide)) rfl rfl (by simp [fvs]) (by simp [fvs, up1]) dX8_houseTakesOrder_38 (fun m10 em10 => ?_)
      replace h := yl_of h em10
      refine g_aload_n C dX8_houseTakesOrder_41 rfl 0 rfl ?_
      refine g_get (k := 20) (i := (v5 - 1)) (ref := "TradeLine$Order") (v := .ref (Ad 21 (2 * (v5 - 1) + 1))) C rfl (lvZ g6 rfl) rfl rfl inGX4 3 (by decide) gw_1116 (fun _ h => h) rfl dX8_houseTakesOrder_42 ?_
      refine g_aload_n C dX8_houseTakesOrder_45 rfl 2 rfl ?_
      refine g_bipush (v := (38 : Int32)) C dX8_houseTakesOrder_46 (by decide) ?_
      obtain ⟨v11, hv11, h⟩ := bind_of h
      refine g_cVi (n := 1) (exc := []) (exr := []) C [_] _ rfl rfl [] [] rfl rfl rfl rfl (fun _ h => absurd h (by simp)) (fun _ h => absurd h (by simp)) (fun _ h => absurd h (by simp)) (fun sz => c_X3_valueOf l m10 ν a Ad w (p1 - 1) (38 : Int32) _ hv11 D E sz) rfl gw_558 gw_18 gw_555 gw_556 gw_557 ⟨by decide +kernel, by decide +kernel, by decide +kernel⟩ ⟨rfl, rfl⟩ ⟨Nat.le_of_ble_eq_true rfl, Nat.le_of_ble_eq_true rfl⟩ (rcvT (lvZ g2 rfl) rfl rfl rfl) (by first | exact Nat.le_of_ble_eq_true rfl | simp [nv_cat, cat_i, cat_r, cat_n]) dX8_houseTakesOrder_48 ⟨by show (kc ν - kc ν0) + 0 ≤ kc r0.1.2 - kc ν0; omega, by show (ks ν - ks ν0) + 0 ≤ ks r0.1.2 - ks ν0; omega⟩ (fun r u hp hx => ?_)
      obtain ⟨er, rfl⟩ := hp
      rw [er]
      try dsimp only [List.append_nil]
      refine z_put (k := 21) (i := (2 * (v5 - 1) + 1)) (ref := "TradeLine$Book") C rfl g9 rfl rfl rfl inGX1 tyX1 tyX1_ok nmX1 1 (by decide) gw_1093 (fun _ h => h) rfl (tyX1_ok 1 (by decide)) rfl rfl (by simp [fvs]) (by simp [fvs, up1]) dX8_houseTakesOrder_51 (fun m12 em12 => ?_)
      replace h := yl_of h em12
      refine g_aload_n C dX8_houseTakesOrder_54 rfl 1 rfl ?_
      refine g_aload_n C dX8_houseTakesOrder_55 rfl 0 rfl ?_
      obtain ⟨v13, hv13, h⟩ := bind_of h
      have m2 := m_X8_rankBehindItsPrice hv13
      have m3 := mb_X8_houseTakesOrder_59  h
      have a1 := hm0.2.1; have a2 := hm0.2.2.1; have b1 := m2.2.1; have b2 := m2.2.2.1; have d1 := m3.2.1; have d2 := m3.2.2.1
      refine g_lv [1, 0] rfl ?_
      refine g_cVve (n := 1) (exc := []) (exr := []) C hEv ⟨hp0.2.1 0, hp0.2.2 0⟩ [_] _ rfl rfl [] [] rfl rfl rfl rfl (fun _ h => absurd h (by simp)) (fun _ h => absurd h (by simp)) (fun _ h => absurd h (by simp)) (fun sz => c_X8_rankBehindItsPrice l B m12 ν a Ad w ((v5 - 1) + 1) _ hv13 D E sz) rfl gw_603 gw_1 gw_600 gw_602 gs_18 ⟨by decide +kernel, by decide +kernel, by decide +kernel⟩ ⟨rfl, rfl⟩ ⟨Nat.le_of_ble_eq_true rfl, Nat.le_of_ble_eq_true rfl⟩ (rcvT (lvZ g4 rfl) rfl rfl rfl) (by first | exact Nat.le_of_ble_eq_true rfl | simp [nv_cat, cat_i, cat_r, cat_n]) dX8_houseTakesOrder_56 ⟨by show (kc ν - kc ν0) + (kc v13.1.2 - kc ν) ≤ kc r0.1.2 - kc ν0; omega, by show (ks ν - ks ν0) + (ks v13.1.2 - ks ν) ≤ ks r0.1.2 - ks ν0; omega⟩ (fun u hp hx => ?_)
      obtain ⟨A1, rfl, hkp⟩ := hp
      try dsimp only [List.append_nil]
      refine g_widen (k := kc v13.1.2 - kc ν0) (n := ks v13.1.2 - ks ν0) (by omega) (by omega) ?_
      rw [show Ad 0 0 = A1 0 0 from (hkp.1 0 _ rfl (of_decide_eq_true g4)).symm]
      rw [show Ad 20 (v5 - 1) = A1 20 (v5 - 1) from (hkp.1 20 _ rfl (of_decide_eq_true g6)).symm]
      exact lb_X8_houseTakesOrder_59 C hEv hr hz (mn_trans hm0 m2) (kp_trans hp0 hm0 hkp)   h
    · replace h := (if_neg c19).symm.trans h
      obtain rfl := Option.some.inj h
      exact g_vret C hr hz ⟨(hm0.2.2.2 30 (by decide) (by decide)).1, (hm0.2.2.2 31 (by decide) (by decide)).1, hp0.2.1, hp0.2.2⟩ ⟨Ad, rfl, hp0⟩ (fun j x h => by simp at h) dX8_houseTakesOrder_22
theorem m_X8_houseTakesOrder {w : Nat} {μ : MP} {ν : NC} {p1 : Nat} {r0 : (MP × NC) × Int32} (h : f_X8_houseTakesOrder w μ ν p1 = some r0) : mn ν r0.1.2 := mb_X8_houseTakesOrder_0 h
theorem c_X8_houseTakesOrder (l : Launch) (B : Nat × (Nat → Nat)) (μ : MP) (ν : NC) (a : AS) (Ad : Nat → Nat → Nat) (w : Nat) (p1 : Nat) (r0 : (MP × NC) × Int32) (h : f_X8_houseTakesOrder w μ ν p1 = some r0) : ∀ D E sz, Met l yX8_houseTakesOrder gwX8_houseTakesOrder ({ frames := 9, cells := kc r0.1.2 - kc ν, slots := ks r0.1.2 - ks ν, locals := 271 } : Room) (cPe D E sz B (zS μ ν a Ad) [] [] [.ref (Ad 0 0), nv (Ad 6) p1]) (cQ D E sz (zS μ ν a Ad) [] (pV (fun u => ∃ A1, u = (zS r0.1.1 r0.1.2 a A1, []) ∧ kp ν Ad A1))) (kc r0.1.2 - kc ν) (ks r0.1.2 - ks ν) (Aof (zS μ ν a Ad) [] sz) := by
  intro D E sz
  refine g_ofe (cc := cX8_houseTakesOrder) (maxL := 3) (ret := none) (own := "TradeLine") (by decide) rfl rfl (by cases p1 <;> exact Nat.le_of_ble_eq_true rfl) ?_
  intro p e s m args below meth c C hr hin hz ha hwr hEv
  refine g_lv (lv' := [(0, .ref (Ad 0 0)), (1, nv (Ad 6) p1)]) [0, 1] (by cases p1 <;> rfl) ?_
  refine g_widen (k := kc ν - kc ν) (n := ks ν - ks ν) (Nat.zero_le _) (Nat.zero_le _) ?_
  exact lb_X8_houseTakesOrder_0 C hEv hr hz (mn_rfl _) (kp_rfl _ _) h
noncomputable def b_X8_houseReplaces_60  (w : Nat) (μ : MP) (ν : NC) : Option ((MP × NC) × Int32) := some ((μ, ν), (0 : Int32))
theorem mb_X8_houseReplaces_60 {w : Nat} {μ : MP} {ν : NC} {r0 : (MP × NC) × Int32}   (h : b_X8_houseReplaces_60  w μ ν  = some r0) : mn ν r0.1.2 := by
  unfold b_X8_houseReplaces_60 at h
  iterate 40 (try first | (with_reducible replace h := (of_guard h).2) | (with_reducible (replace h := of_guardP h; obtain ⟨hg, h⟩ := h)) | (with_reducible replace h := yl_of h rfl) | (with_reducible replace h := (of_thr h).2) | (with_reducible (replace h := bind_of h; obtain ⟨v, hv, h⟩ := h)) | (with_reducible split at h) | (with_reducible (replace h := Option.some.inj h; obtain rfl := h; exact mn_rfl _)) | (with_reducible exact absurd (congrArg Prod.fst (Option.some.inj h)) (by simp)))
set_option maxHeartbeats 4000000 in
set_option maxRecDepth 100000 in
theorem lb_X8_houseReplaces_60 {p : Program} {l : Launch} {e : Env} {s : State} {m : MethodId} {args : Array Value} {below : List Frame} {meth : Method} {c : Code} {D : va_G} {E : Nat → ClassId} {sz : Nat} {μ0 : MP} {ν0 : NC} {a : AS} {Ad0 : Nat → Nat → Nat} {w : Nat} {B : Nat × (Nat → Nat)} {r0 : (MP × NC) × Int32} (C : cx p s m args meth c D E (Aof (zS μ0 ν0 a Ad0) [] s.heap.size) cX8_houseReplaces 6 "TradeLine") (hEv : eV (Ad0 30 0) (Ad0 31 0) B (Aof (zS μ0 ν0 a Ad0) [] s.heap.size) s s.heap) (hr : meth.sig.returnType = none) (hz : s.heap.size = sz) {μ : MP} {ν : NC} {Ad : Nat → Nat → Nat} (hm0 : mn ν0 ν) (hp0 : kp ν0 Ad0 Ad)   (h : b_X8_houseReplaces_60  w μ ν  = some r0) : G p l e ({ frames := 9, cells := kc r0.1.2 - kc ν0, slots := ks r0.1.2 - ks ν0, locals := 271 } : Room) s m args below meth c D E (Aof (zS μ0 ν0 a Ad0) [] s.heap.size) 6 (MQ below (cQ D E sz (zS μ0 ν0 a Ad0) [] (pV (fun u => ∃ A1, u = (zS r0.1.1 r0.1.2 a A1, []) ∧ kp ν0 Ad0 A1))) args s (kc r0.1.2 - kc ν0) (ks r0.1.2 - ks ν0) (Aof (zS μ0 ν0 a Ad0) [] s.heap.size)) (zS μ ν a Ad) [] (kc ν - kc ν0) (ks ν - ks ν0) 60 [(0, .ref (Ad 0 0))] [] := by
  have m0 := mb_X8_houseReplaces_60  h
  have e1 := m0.2.1; have e2 := m0.2.2.1; have e3 := hm0.2.1; have e4 := hm0.2.2.1
  unfold b_X8_houseReplaces_60 at h
  obtain rfl := Option.some.inj h
  exact g_vret C hr hz ⟨(hm0.2.2.2 30 (by decide) (by decide)).1, (hm0.2.2.2 31 (by decide) (by decide)).1, hp0.2.1, hp0.2.2⟩ ⟨Ad, rfl, hp0⟩ (fun j x h => by simp at h) dX8_houseReplaces_60
noncomputable def b_X8_houseReplaces_54  (w : Nat) (μ : MP) (ν : NC) (p1 : Nat) : Option ((MP × NC) × Int32) := bif ltB 0 (ν.2 0) then (f_X8_reportPlainly w μ ν (4 : Int32) p1).bind (fun v7 => b_X8_houseReplaces_60  w v7.1.1 v7.1.2 ) else none
theorem mb_X8_houseReplaces_54 {w : Nat} {μ : MP} {ν : NC} {p1 : Nat} {r0 : (MP × NC) × Int32}   (h : b_X8_houseReplaces_54  w μ ν p1 = some r0) : mn ν r0.1.2 := by
  unfold b_X8_houseReplaces_54 at h
  iterate 40 (try first | (with_reducible replace h := (of_guard h).2) | (with_reducible (replace h := of_guardP h; obtain ⟨hg, h⟩ := h)) | (with_reducible replace h := yl_of h rfl) | (with_reducible replace h := (of_thr h).2) | (with_reducible (replace h := bind_of h; obtain ⟨v, hv, h⟩ := h)) | (with_reducible split at h) | (with_reducible (exact mn_trans (m_X8_reportPlainly hv) (mb_X8_houseReplaces_60  h))) | (with_reducible exact absurd (congrArg Prod.fst (Option.some.inj h)) (by simp)))
set_option maxHeartbeats 4000000 in
set_option maxRecDepth 100000 in
theorem lb_X8_houseReplaces_54 {p : Program} {l : Launch} {e : Env} {s : State} {m : MethodId} {args : Array Value} {below : List Frame} {meth : Method} {c : Code} {D : va_G} {E : Nat → ClassId} {sz : Nat} {μ0 : MP} {ν0 : NC} {a : AS} {Ad0 : Nat → Nat → Nat} {w : Nat} {B : Nat × (Nat → Nat)} {r0 : (MP × NC) × Int32} (C : cx p s m args meth c D E (Aof (zS μ0 ν0 a Ad0) [] s.heap.size) cX8_houseReplaces 6 "TradeLine") (hEv : eV (Ad0 30 0) (Ad0 31 0) B (Aof (zS μ0 ν0 a Ad0) [] s.heap.size) s s.heap) (hr : meth.sig.returnType = none) (hz : s.heap.size = sz) {μ : MP} {ν : NC} {Ad : Nat → Nat → Nat} (hm0 : mn ν0 ν) (hp0 : kp ν0 Ad0 Ad) {p1 : Nat}   (h : b_X8_houseReplaces_54  w μ ν p1 = some r0) : G p l e ({ frames := 9, cells := kc r0.1.2 - kc ν0, slots := ks r0.1.2 - ks ν0, locals := 271 } : Room) s m args below meth c D E (Aof (zS μ0 ν0 a Ad0) [] s.heap.size) 6 (MQ below (cQ D E sz (zS μ0 ν0 a Ad0) [] (pV (fun u => ∃ A1, u = (zS r0.1.1 r0.1.2 a A1, []) ∧ kp ν0 Ad0 A1))) args s (kc r0.1.2 - kc ν0) (ks r0.1.2 - ks ν0) (Aof (zS μ0 ν0 a Ad0) [] s.heap.size)) (zS μ ν a Ad) [] (kc ν - kc ν0) (ks ν - ks ν0) 54 [(0, .ref (Ad 0 0)), (1, nv (Ad 20) p1)] [] := by
  have m0 := mb_X8_houseReplaces_54  h
  have e1 := m0.2.1; have e2 := m0.2.2.1; have e3 := hm0.2.1; have e4 := hm0.2.2.1
  unfold b_X8_houseReplaces_54 at h
  refine g_aload_n C dX8_houseReplaces_54 rfl 0 rfl ?_
  refine g_iconst (v := (4 : Int32)) C dX8_houseReplaces_55 (by decide) ?_
  refine z_aload_n C dX8_houseReplaces_56 rfl 1 rfl (nv_or _ _) ?_
  obtain ⟨g6, h⟩ := of_guard h
  obtain ⟨v7, hv7, h⟩ := bind_of h
  have m2 := m_X8_reportPlainly hv7
  have m3 := mb_X8_houseReplaces_60  h
  have a1 := hm0.2.1; have a2 := hm0.2.2.1; have b1 := m2.2.1; have b2 := m2.2.2.1; have d1 := m3.2.1; have d2 := m3.2.2.1
  refine g_lv [0] rfl ?_
  refine g_cVve (n := 2) (exc := []) (exr := []) C hEv ⟨hp0.2.1 0, hp0.2.2 0⟩ [_, _] _ rfl rfl [] [] rfl rfl rfl rfl (fun _ h => absurd h (by simp)) (fun _ h => absurd h (by simp)) (fun _ h => absurd h (by simp)) (fun sz => c_X8_reportPlainly l B μ ν a Ad w (4 : Int32) p1 _ hv7 D E sz) rfl gw_867 gw_1 gw_864 gw_866 gs_23 ⟨by decide +kernel, by decide +kernel, by decide +kernel⟩ ⟨rfl, rfl⟩ ⟨Nat.le_of_ble_eq_true rfl, Nat.le_of_ble_eq_true rfl⟩ (rcvT (lvZ g6 rfl) rfl rfl rfl) (by first | exact Nat.le_of_ble_eq_true rfl | simp [nv_cat, cat_i, cat_r, cat_n]) dX8_houseReplaces_57 ⟨by show (kc ν - kc ν0) + (kc v7.1.2 - kc ν) ≤ kc r0.1.2 - kc ν0; omega, by show (ks ν - ks ν0) + (ks v7.1.2 - ks ν) ≤ ks r0.1.2 - ks ν0; omega⟩ (fun u hp hx => ?_)
  obtain ⟨A1, rfl, hkp⟩ := hp
  try dsimp only [List.append_nil]
  refine g_widen (k := kc v7.1.2 - kc ν0) (n := ks v7.1.2 - ks ν0) (by omega) (by omega) ?_
  rw [show Ad 0 0 = A1 0 0 from (hkp.1 0 _ rfl (of_decide_eq_true g6)).symm]
  exact lb_X8_houseReplaces_60 C hEv hr hz (mn_trans hm0 m2) (kp_trans hp0 hm0 hkp)   h
noncomputable def b_X8_houseReplaces_138  (w : Nat) (μ : MP) (ν : NC) : Option ((MP × NC) × Int32) := some ((μ, ν), (0 : Int32))
theorem mb_X8_houseReplaces_138 {w : Nat} {μ : MP} {ν : NC} {r0 : (MP × NC) × Int32}   (h : b_X8_houseReplaces_138  w μ ν  = some r0) : mn ν r0.1.2 := by
  unfold b_X8_houseReplaces_138 at h
  iterate 40 (try first | (with_reducible replace h := (of_guard h).2) | (with_reducible (replace h := of_guardP h; obtain ⟨hg, h⟩ := h)) | (with_reducible replace h := yl_of h rfl) | (with_reducible replace h := (of_thr h).2) | (with_reducible (replace h := bind_of h; obtain ⟨v, hv, h⟩ := h)) | (with_reducible split at h) | (with_reducible (replace h := Option.some.inj h; obtain rfl := h; exact mn_rfl _)) | (with_reducible exact absurd (congrArg Prod.fst (Option.some.inj h)) (by simp)))
set_option maxHeartbeats 4000000 in
set_option maxRecDepth 100000 in
theorem lb_X8_houseReplaces_138 {p : Program} {l : Launch} {e : Env} {s : State} {m : MethodId} {args : Array Value} {below : List Frame} {meth : Method} {c : Code} {D : va_G} {E : Nat → ClassId} {sz : Nat} {μ0 : MP} {ν0 : NC} {a : AS} {Ad0 : Nat → Nat → Nat} {w : Nat} {B : Nat × (Nat → Nat)} {r0 : (MP × NC) × Int32} (C : cx p s m args meth c D E (Aof (zS μ0 ν0 a Ad0) [] s.heap.size) cX8_houseReplaces 6 "TradeLine") (hEv : eV (Ad0 30 0) (Ad0 31 0) B (Aof (zS μ0 ν0 a Ad0) [] s.heap.size) s s.heap) (hr : meth.sig.returnType = none) (hz : s.heap.size = sz) {μ : MP} {ν : NC} {Ad : Nat → Nat → Nat} (hm0 : mn ν0 ν) (hp0 : kp ν0 Ad0 Ad)   (h : b_X8_houseReplaces_138  w μ ν  = some r0) : G p l e ({ frames := 9, cells := kc r0.1.2 - kc ν0, slots := ks r0.1.2 - ks ν0, locals := 271 } : Room) s m args below meth c D E (Aof (zS μ0 ν0 a Ad0) [] s.heap.size) 6 (MQ below (cQ D E sz (zS μ0 ν0 a Ad0) [] (pV (fun u => ∃ A1, u = (zS r0.1.1 r0.1.2 a A1, []) ∧ kp ν0 Ad0 A1))) args s (kc r0.1.2 - kc ν0) (ks r0.1.2 - ks ν0) (Aof (zS μ0 ν0 a Ad0) [] s.heap.size)) (zS μ ν a Ad) [] (kc ν - kc ν0) (ks ν - ks ν0) 138 [(0, .ref (Ad 0 0))] [] := by
  have m0 := mb_X8_houseReplaces_138  h
  have e1 := m0.2.1; have e2 := m0.2.2.1; have e3 := hm0.2.1; have e4 := hm0.2.2.1
  unfold b_X8_houseReplaces_138 at h
  obtain rfl := Option.some.inj h
  exact g_vret C hr hz ⟨(hm0.2.2.2 30 (by decide) (by decide)).1, (hm0.2.2.2 31 (by decide) (by decide)).1, hp0.2.1, hp0.2.2⟩ ⟨Ad, rfl, hp0⟩ (fun j x h => by simp at h) dX8_houseReplaces_138
noncomputable def b_X8_houseReplaces_133  (w : Nat) (μ : MP) (ν : NC) (p1 : Nat) : Option ((MP × NC) × Int32) := bif ltB 0 (ν.2 0) then (f_X8_route w μ ν p1).bind (fun v19 => b_X8_houseReplaces_138  w v19.1.1 v19.1.2 ) else none
theorem mb_X8_houseReplaces_133 {w : Nat} {μ : MP} {ν : NC} {p1 : Nat} {r0 : (MP × NC) × Int32}   (h : b_X8_houseReplaces_133  w μ ν p1 = some r0) : mn ν r0.1.2 := by
  unfold b_X8_houseReplaces_133 at h
  iterate 40 (try first | (with_reducible replace h := (of_guard h).2) | (with_reducible (replace h := of_guardP h; obtain ⟨hg, h⟩ := h)) | (with_reducible replace h := yl_of h rfl) | (with_reducible replace h := (of_thr h).2) | (with_reducible (replace h := bind_of h; obtain ⟨v, hv, h⟩ := h)) | (with_reducible split at h) | (with_reducible (exact mn_trans (m_X8_route hv) (mb_X8_houseReplaces_138  h))) | (with_reducible exact absurd (congrArg Prod.fst (Option.some.inj h)) (by simp)))
set_option maxHeartbeats 4000000 in
set_option maxRecDepth 100000 in
theorem lb_X8_houseReplaces_133 {p : Program} {l : Launch} {e : Env} {s : State} {m : MethodId} {args : Array Value} {below : List Frame} {meth : Method} {c : Code} {D : va_G} {E : Nat → ClassId} {sz : Nat} {μ0 : MP} {ν0 : NC} {a : AS} {Ad0 : Nat → Nat → Nat} {w : Nat} {B : Nat × (Nat → Nat)} {r0 : (MP × NC) × Int32} (C : cx p s m args meth c D E (Aof (zS μ0 ν0 a Ad0) [] s.heap.size) cX8_houseReplaces 6 "TradeLine") (hEv : eV (Ad0 30 0) (Ad0 31 0) B (Aof (zS μ0 ν0 a Ad0) [] s.heap.size) s s.heap) (hr : meth.sig.returnType = none) (hz : s.heap.size = sz) {μ : MP} {ν : NC} {Ad : Nat → Nat → Nat} (hm0 : mn ν0 ν) (hp0 : kp ν0 Ad0 Ad) {p1 : Nat}   (h : b_X8_houseReplaces_133  w μ ν p1 = some r0) : G p l e ({ frames := 9, cells := kc r0.1.2 - kc ν0, slots := ks r0.1.2 - ks ν0, locals := 271 } : Room) s m args below meth c D E (Aof (zS μ0 ν0 a Ad0) [] s.heap.size) 6 (MQ below (cQ D E sz (zS μ0 ν0 a Ad0) [] (pV (fun u => ∃ A1, u = (zS r0.1.1 r0.1.2 a A1, []) ∧ kp ν0 Ad0 A1))) args s (kc r0.1.2 - kc ν0) (ks r0.1.2 - ks ν0) (Aof (zS μ0 ν0 a Ad0) [] s.heap.size)) (zS μ ν a Ad) [] (kc ν - kc ν0) (ks ν - ks ν0) 133 [(0, .ref (Ad 0 0)), (1, nv (Ad 20) p1)] [] := by
  have m0 := mb_X8_houseReplaces_133  h
  have e1 := m0.2.1; have e2 := m0.2.2.1; have e3 := hm0.2.1; have e4 := hm0.2.2.1
  unfold b_X8_houseReplaces_133 at h
  refine g_aload_n C dX8_houseReplaces_133 rfl 0 rfl ?_
  refine z_aload_n C dX8_houseReplaces_134 rfl 1 rfl (nv_or _ _) ?_
  obtain ⟨g18, h⟩ := of_guard h
  obtain ⟨v19, hv19, h⟩ := bind_of h
  have m2 := m_X8_route hv19
  have m3 := mb_X8_houseReplaces_138  h
  have a1 := hm0.2.1; have a2 := hm0.2.2.1; have b1 := m2.2.1; have b2 := m2.2.2.1; have d1 := m3.2.1; have d2 := m3.2.2.1
  refine g_lv [0] rfl ?_
  refine g_cVve (n := 1) (exc := []) (exr := []) C hEv ⟨hp0.2.1 0, hp0.2.2 0⟩ [_] _ rfl rfl [] [] rfl rfl rfl rfl (fun _ h => absurd h (by simp)) (fun _ h => absurd h (by simp)) (fun _ h => absurd h (by simp)) (fun sz => c_X8_route l B μ ν a Ad w p1 _ hv19 D E sz) rfl gw_871 gw_1 gw_868 gw_870 gs_24 ⟨by decide +kernel, by decide +kernel, by decide +kernel⟩ ⟨rfl, rfl⟩ ⟨Nat.le_of_ble_eq_true rfl, Nat.le_of_ble_eq_true rfl⟩ (rcvT (lvZ g18 rfl) rfl rfl rfl) (by first | exact Nat.le_of_ble_eq_true rfl | simp [nv_cat, cat_i, cat_r, cat_n]) dX8_houseReplaces_135 ⟨by show (kc ν - kc ν0) + (kc v19.1.2 - kc ν) ≤ kc r0.1.2 - kc ν0; omega, by show (ks ν - ks ν0) + (ks v19.1.2 - ks ν) ≤ ks r0.1.2 - ks ν0; omega⟩ (fun u hp hx => ?_)
  obtain ⟨A1, rfl, hkp⟩ := hp
  try dsimp only [List.append_nil]
  refine g_widen (k := kc v19.1.2 - kc ν0) (n := ks v19.1.2 - ks ν0) (by omega) (by omega) ?_
  rw [show Ad 0 0 = A1 0 0 from (hkp.1 0 _ rfl (of_decide_eq_true g18)).symm]
  exact lb_X8_houseReplaces_138 C hEv hr hz (mn_trans hm0 m2) (kp_trans hp0 hm0 hkp)   h
noncomputable def b_X8_houseReplaces_86  (w : Nat) (μ : MP) (ν : NC) (p1 : Nat) (x4 : Int32) (x5 : Int32) (s1 : Int32) (s2 : Int32) (f0 : Nat → Int32) : Option ((MP × NC) × Int32) := bif nzB p1 then bif ltB (p1 - 1) (ν.2 20) then bif ltB 0 (ν.2 0) then (f_X8_send_L w μ ν s2 s1 8 (up1 (up1 (up1 (up1 (up1 (up1 (up1 (up1 f0 0 (150 : Int32)) 1 (3 : Int32)) 2 (37 : Int32)) 3 (μ.1 20 (p1 - 1) 0)) 4 (44 : Int32)) 5 x4) 6 (38 : Int32)) 7 x5)).bind (fun v17 => b_X8_houseReplaces_133  w v17.1.1 v17.1.2 ((p1 - 1) + 1)) else none else none else none
theorem mb_X8_houseReplaces_86 {w : Nat} {μ : MP} {ν : NC} {p1 : Nat} {x4 : Int32} {x5 : Int32} {s1 : Int32} {s2 : Int32} {f0 : Nat → Int32} {r0 : (MP × NC) × Int32}   (h : b_X8_houseReplaces_86  w μ ν p1 x4 x5 s1 s2 f0 = some r0) : mn ν r0.1.2 := by
  unfold b_X8_houseReplaces_86 at h
  iterate 40 (try first | (with_reducible replace h := (of_guard h).2) | (with_reducible (replace h := of_guardP h; obtain ⟨hg, h⟩ := h)) | (with_reducible replace h := yl_of h rfl) | (with_reducible replace h := (of_thr h).2) | (with_reducible (replace h := bind_of h; obtain ⟨v, hv, h⟩ := h)) | (with_reducible split at h) | (with_reducible (exact mn_trans (m_X8_send_L hv) (mb_X8_houseReplaces_133  h))) | (with_reducible exact absurd (congrArg Prod.fst (Option.some.inj h)) (by simp)))
set_option maxHeartbeats 4000000 in
set_option maxRecDepth 100000 in
theorem lb_X8_houseReplaces_86 {p : Program} {l : Launch} {e : Env} {s : State} {m : MethodId} {args : Array Value} {below : List Frame} {meth : Method} {c : Code} {D : va_G} {E : Nat → ClassId} {sz : Nat} {μ0 : MP} {ν0 : NC} {a : AS} {Ad0 : Nat → Nat → Nat} {w : Nat} {B : Nat × (Nat → Nat)} {r0 : (MP × NC) × Int32} (C : cx p s m args meth c D E (Aof (zS μ0 ν0 a Ad0) [] s.heap.size) cX8_houseReplaces 6 "TradeLine") (hEv : eV (Ad0 30 0) (Ad0 31 0) B (Aof (zS μ0 ν0 a Ad0) [] s.heap.size) s s.heap) (hr : meth.sig.returnType = none) (hz : s.heap.size = sz) {μ : MP} {ν : NC} {Ad : Nat → Nat → Nat} (hm0 : mn ν0 ν) (hp0 : kp ν0 Ad0 Ad) {p1 : Nat} {x4 : Int32} {x5 : Int32} {s1 : Int32} {s2 : Int32} {f0 : Nat → Int32} {q0 : Nat} (hq0 : (Aof (zS μ0 ν0 a Ad0) [] s.heap.size) q0)   (h : b_X8_houseReplaces_86  w μ ν p1 x4 x5 s1 s2 f0 = some r0) : G p l e ({ frames := 9, cells := kc r0.1.2 - kc ν0, slots := ks r0.1.2 - ks ν0, locals := 271 } : Room) s m args below meth c D E (Aof (zS μ0 ν0 a Ad0) [] s.heap.size) 6 (MQ below (cQ D E sz (zS μ0 ν0 a Ad0) [] (pV (fun u => ∃ A1, u = (zS r0.1.1 r0.1.2 a A1, []) ∧ kp ν0 Ad0 A1))) args s (kc r0.1.2 - kc ν0) (ks r0.1.2 - ks ν0) (Aof (zS μ0 ν0 a Ad0) [] s.heap.size)) (zS μ ν a Ad) [(q0, .inl (E 0, 8, .inl f0))] (kc ν - kc ν0) (ks ν - ks ν0) 86 [(0, .ref (Ad 0 0)), (1, nv (Ad 20) p1), (4, .int x4), (5, .int x5)] [.ref q0, .int s1, .int s2, .ref (Ad 0 0)] := by
  have m0 := mb_X8_houseReplaces_86  h
  have e1 := m0.2.1; have e2 := m0.2.2.1; have e3 := hm0.2.1; have e4 := hm0.2.2.1
  unfold b_X8_houseReplaces_86 at h
  refine g_dup C dX8_houseReplaces_86 rfl ?_
  refine g_iconst (v := (0 : Int32)) C dX8_houseReplaces_87 (by decide) ?_
  refine g_sipush (v := (150 : Int32)) C dX8_houseReplaces_88 (by decide) ?_
  refine g_iastL C 0 rfl hq0 (ixB_in rfl) (ex' := [(q0, .inl (E 0, 8, .inl (up1 f0 0 (150 : Int32))))]) rfl dX8_houseReplaces_91 ?_
  refine g_dup C dX8_houseReplaces_92 rfl ?_
  refine g_iconst (v := (1 : Int32)) C dX8_houseReplaces_93 (by decide) ?_
  refine g_iconst (v := (3 : Int32)) C dX8_houseReplaces_94 (by decide) ?_
  refine g_iastL C 0 rfl hq0 (ixB_in rfl) (ex' := [(q0, .inl (E 0, 8, .inl (up1 (up1 f0 0 (150 : Int32)) 1 (3 : Int32))))]) rfl dX8_houseReplaces_95 ?_
  refine g_dup C dX8_houseReplaces_96 rfl ?_
  refine g_iconst (v := (2 : Int32)) C dX8_houseReplaces_97 (by decide) ?_
  refine g_bipush (v := (37 : Int32)) C dX8_houseReplaces_98 (by decide) ?_
  refine g_iastL C 0 rfl hq0 (ixB_in rfl) (ex' := [(q0, .inl (E 0, 8, .inl (up1 (up1 (up1 f0 0 (150 : Int32)) 1 (3 : Int32)) 2 (37 : Int32))))]) rfl dX8_houseReplaces_100 ?_
  refine g_dup C dX8_houseReplaces_101 rfl ?_
  refine g_iconst (v := (3 : Int32)) C dX8_houseReplaces_102 (by decide) ?_
  refine z_aload_n C dX8_houseReplaces_103 rfl 1 rfl (nv_or _ _) ?_
  obtain ⟨g14, h⟩ := of_guard h
  rw [nzB_e g14]
  obtain ⟨g15, h⟩ := of_guard h
  refine g_get (k := 20) (i := (p1 - 1)) (ref := "TradeLine$Order") (v := .int (μ.1 20 (p1 - 1) 0)) C rfl (lvZ g15 rfl) rfl rfl inGX4 0 (by decide) gw_1110 (fun _ h => h) rfl dX8_houseReplaces_104 ?_
  refine g_iastL C 0 rfl hq0 (ixB_in rfl) (ex' := [(q0, .inl (E 0, 8, .inl (up1 (up1 (up1 (up1 f0 0 (150 : Int32)) 1 (3 : Int32)) 2 (37 : Int32)) 3 (μ.1 20 (p1 - 1) 0))))]) rfl dX8_houseReplaces_107 ?_
  refine g_dup C dX8_houseReplaces_108 rfl ?_
  refine g_iconst (v := (4 : Int32)) C dX8_houseReplaces_109 (by decide) ?_
  refine g_bipush (v := (44 : Int32)) C dX8_houseReplaces_110 (by decide) ?_
  refine g_iastL C 0 rfl hq0 (ixB_in rfl) (ex' := [(q0, .inl (E 0, 8, .inl (up1 (up1 (up1 (up1 (up1 f0 0 (150 : Int32)) 1 (3 : Int32)) 2 (37 : Int32)) 3 (μ.1 20 (p1 - 1) 0)) 4 (44 : Int32))))]) rfl dX8_houseReplaces_112 ?_
  refine g_dup C dX8_houseReplaces_113 rfl ?_
  refine g_iconst (v := (5 : Int32)) C dX8_houseReplaces_114 (by decide) ?_
  refine g_iload C dX8_houseReplaces_115 2 rfl ?_
  refine g_iastL C 0 rfl hq0 (ixB_in rfl) (ex' := [(q0, .inl (E 0, 8, .inl (up1 (up1 (up1 (up1 (up1 (up1 f0 0 (150 : Int32)) 1 (3 : Int32)) 2 (37 : Int32)) 3 (μ.1 20 (p1 - 1) 0)) 4 (44 : Int32)) 5 x4)))]) rfl dX8_houseReplaces_117 ?_
  refine g_dup C dX8_houseReplaces_118 rfl ?_
  refine g_bipush (v := (6 : Int32)) C dX8_houseReplaces_119 (by decide) ?_
  refine g_bipush (v := (38 : Int32)) C dX8_houseReplaces_121 (by decide) ?_
  refine g_iastL C 0 rfl hq0 (ixB_in rfl) (ex' := [(q0, .inl (E 0, 8, .inl (up1 (up1 (up1 (up1 (up1 (up1 (up1 f0 0 (150 : Int32)) 1 (3 : Int32)) 2 (37 : Int32)) 3 (μ.1 20 (p1 - 1) 0)) 4 (44 : Int32)) 5 x4) 6 (38 : Int32))))]) rfl dX8_houseReplaces_123 ?_
  refine g_dup C dX8_houseReplaces_124 rfl ?_
  refine g_bipush (v := (7 : Int32)) C dX8_houseReplaces_125 (by decide) ?_
  refine g_iload C dX8_houseReplaces_127 3 rfl ?_
  refine g_iastL C 0 rfl hq0 (ixB_in rfl) (ex' := [(q0, .inl (E 0, 8, .inl (up1 (up1 (up1 (up1 (up1 (up1 (up1 (up1 f0 0 (150 : Int32)) 1 (3 : Int32)) 2 (37 : Int32)) 3 (μ.1 20 (p1 - 1) 0)) 4 (44 : Int32)) 5 x4) 6 (38 : Int32)) 7 x5)))]) rfl dX8_houseReplaces_129 ?_
  obtain ⟨g16, h⟩ := of_guard h
  obtain ⟨v17, hv17, h⟩ := bind_of h
  have m2 := m_X8_send_L hv17
  have m3 := mb_X8_houseReplaces_133  h
  have a1 := hm0.2.1; have a2 := hm0.2.2.1; have b1 := m2.2.1; have b2 := m2.2.2.1; have d1 := m3.2.1; have d2 := m3.2.2.1
  refine g_lv [0, 1] rfl ?_
  refine g_cVve (n := 3) (exc := [(q0, .inl (E 0, 8, .inl (up1 (up1 (up1 (up1 (up1 (up1 (up1 (up1 f0 0 (150 : Int32)) 1 (3 : Int32)) 2 (37 : Int32)) 3 (μ.1 20 (p1 - 1) 0)) 4 (44 : Int32)) 5 x4) 6 (38 : Int32)) 7 x5)))]) (exr := []) C hEv ⟨hp0.2.1 0, hp0.2.2 0⟩ [_, _, _] _ rfl rfl [0] [] rfl rfl rfl rfl (fun _ h => by simp at h) (fun _ h => absurd h (by simp)) (fun _ h => absurd h (by simp)) (fun sz => c_X8_send_L l B μ ν a Ad w s2 s1 q0 8 (up1 (up1 (up1 (up1 (up1 (up1 (up1 (up1 f0 0 (150 : Int32)) 1 (3 : Int32)) 2 (37 : Int32)) 3 (μ.1 20 (p1 - 1) 0)) 4 (44 : Int32)) 5 x4) 6 (38 : Int32)) 7 x5) _ hv17 D E sz) rfl gw_300 gw_1 gw_297 gw_299 gs_1 ⟨by decide +kernel, by decide +kernel, by decide +kernel⟩ ⟨rfl, rfl⟩ ⟨Nat.le_of_ble_eq_true rfl, Nat.le_of_ble_eq_true rfl⟩ (rcvT (lvZ g16 rfl) rfl rfl rfl) (by first | exact Nat.le_of_ble_eq_true rfl | simp [nv_cat, cat_i, cat_r, cat_n]) dX8_houseReplaces_130 ⟨by show (kc ν - kc ν0) + (kc v17.1.2 - kc ν) ≤ kc r0.1.2 - kc ν0; omega, by show (ks ν - ks ν0) + (ks v17.1.2 - ks ν) ≤ ks r0.1.2 - ks ν0; omega⟩ (fun u hp hx => ?_)
  obtain ⟨A1, rfl, hkp⟩ := hp
  try dsimp only [List.append_nil]
  refine g_widen (k := kc v17.1.2 - kc ν0) (n := ks v17.1.2 - ks ν0) (by omega) (by omega) ?_
  rw [show Ad 0 0 = A1 0 0 from (hkp.1 0 _ rfl (of_decide_eq_true g16)).symm]
  rw [show Ad 20 (p1 - 1) = A1 20 (p1 - 1) from (hkp.1 20 _ rfl (of_decide_eq_true g15)).symm]
  exact lb_X8_houseReplaces_133 C hEv hr hz (mn_trans hm0 m2) (kp_trans hp0 hm0 hkp)   h
noncomputable def b_X8_houseReplaces_78  (w : Nat) (μ : MP) (ν : NC) (p1 : Nat) (x4 : Int32) (x5 : Int32) : Option ((MP × NC) × Int32) := b_X8_houseReplaces_86  w μ (chg ν 1 8) p1 x4 x5 (8 : Int32) (1 : Int32) (fun _ => 0)
theorem mb_X8_houseReplaces_78 {w : Nat} {μ : MP} {ν : NC} {p1 : Nat} {x4 : Int32} {x5 : Int32} {r0 : (MP × NC) × Int32}   (h : b_X8_houseReplaces_78  w μ ν p1 x4 x5 = some r0) : mn ν r0.1.2 := by
  unfold b_X8_houseReplaces_78 at h
  iterate 40 (try first | (with_reducible replace h := (of_guard h).2) | (with_reducible (replace h := of_guardP h; obtain ⟨hg, h⟩ := h)) | (with_reducible replace h := yl_of h rfl) | (with_reducible replace h := (of_thr h).2) | (with_reducible (replace h := bind_of h; obtain ⟨v, hv, h⟩ := h)) | (with_reducible split at h) | (with_reducible (exact mn_trans (mn_chg _ _ _) (mb_X8_houseReplaces_86  h))) | (with_reducible exact absurd (congrArg Prod.fst (Option.some.inj h)) (by simp)))
set_option maxHeartbeats 4000000 in
set_option maxRecDepth 100000 in
theorem lb_X8_houseReplaces_78 {p : Program} {l : Launch} {e : Env} {s : State} {m : MethodId} {args : Array Value} {below : List Frame} {meth : Method} {c : Code} {D : va_G} {E : Nat → ClassId} {sz : Nat} {μ0 : MP} {ν0 : NC} {a : AS} {Ad0 : Nat → Nat → Nat} {w : Nat} {B : Nat × (Nat → Nat)} {r0 : (MP × NC) × Int32} (C : cx p s m args meth c D E (Aof (zS μ0 ν0 a Ad0) [] s.heap.size) cX8_houseReplaces 6 "TradeLine") (hEv : eV (Ad0 30 0) (Ad0 31 0) B (Aof (zS μ0 ν0 a Ad0) [] s.heap.size) s s.heap) (hr : meth.sig.returnType = none) (hz : s.heap.size = sz) {μ : MP} {ν : NC} {Ad : Nat → Nat → Nat} (hm0 : mn ν0 ν) (hp0 : kp ν0 Ad0 Ad) {p1 : Nat} {x4 : Int32} {x5 : Int32}   (h : b_X8_houseReplaces_78  w μ ν p1 x4 x5 = some r0) : G p l e ({ frames := 9, cells := kc r0.1.2 - kc ν0, slots := ks r0.1.2 - ks ν0, locals := 271 } : Room) s m args below meth c D E (Aof (zS μ0 ν0 a Ad0) [] s.heap.size) 6 (MQ below (cQ D E sz (zS μ0 ν0 a Ad0) [] (pV (fun u => ∃ A1, u = (zS r0.1.1 r0.1.2 a A1, []) ∧ kp ν0 Ad0 A1))) args s (kc r0.1.2 - kc ν0) (ks r0.1.2 - ks ν0) (Aof (zS μ0 ν0 a Ad0) [] s.heap.size)) (zS μ ν a Ad) [] (kc ν - kc ν0) (ks ν - ks ν0) 78 [(0, .ref (Ad 0 0)), (1, nv (Ad 20) p1), (4, .int x4), (5, .int x5)] [] := by
  have m0 := mb_X8_houseReplaces_78  h
  have e1 := m0.2.1; have e2 := m0.2.2.1; have e3 := hm0.2.1; have e4 := hm0.2.2.1
  unfold b_X8_houseReplaces_78 at h
  refine g_aload_n C dX8_houseReplaces_78 rfl 0 rfl ?_
  refine g_iconst (v := (1 : Int32)) C dX8_houseReplaces_79 (by decide) ?_
  refine g_bipush (v := (8 : Int32)) C dX8_houseReplaces_80 (by decide) ?_
  refine g_bipush (v := (8 : Int32)) C dX8_houseReplaces_82 (by decide) ?_
  refine g_lv [0, 1, 2, 3] rfl ?_
  have m2 := mn_chg ν 1 8
  have m3 := mb_X8_houseReplaces_86  h
  have a1 := hm0.2.1; have a2 := hm0.2.2.1; have b1 := m2.2.1; have b2 := m2.2.2.1; have d1 := m3.2.1; have d2 := m3.2.2.1
  rw [kc_chg] at b1 d1
  rw [ks_chg] at b2 d2
  refine g_newa (atype := .int) (ty := .int) (t := 0) (N' := 8) (a0 := (8, .inl (fun _ => 0))) C gw_95 rfl rfl (fun _ h => by cases h) (fun _ => rfl) (by decide) (by decide) (by decide) (by show (kc ν - kc ν0) + 1 ≤ kc r0.1.2 - kc ν0; omega) (by show (ks ν - ks ν0) + 8 ≤ ks r0.1.2 - ks ν0; omega) dX8_houseReplaces_84 (fun q0 hq0 hs0 => ?_)
  refine g_chg 1 8 ?_
  refine g_widen (k := kc (chg ν 1 8) - kc ν0) (n := ks (chg ν 1 8) - ks ν0) (by rw [kc_chg]; omega) (by rw [ks_chg]; omega) ?_
  exact lb_X8_houseReplaces_86 C hEv hr hz (mn_trans hm0 m2) hp0 hq0  h
noncomputable def f_X8_houseReplaces  (w : Nat) (μ : MP) (ν : NC) (p1 : Nat) (p2 : Nat) : Option ((MP × NC) × Int32) := (if p1 = 0 then (some ((μ, ν), (0 : Int32))) else (bif ltB (p1 - 1) (ν.2 20) then bif nzB p2 then bif ltB (p2 - 1) (ν.2 6) then (f_X3_valueOf w μ ν (p2 - 1) (44 : Int32)).bind (fun v4 => (f_X3_valueOf w μ ν (p2 - 1) (38 : Int32)).bind (fun v5 => (if (μ.1 20 (p1 - 1) 6) = (0 : Int32) then (b_X8_houseReplaces_54  w μ ν ((p1 - 1) + 1)) else (bif ltB (2 * (p1 - 1) + 1) (ν.2 21) then (f_X1_rest w μ ν (2 * (p1 - 1) + 1) ).bind (fun v9 => (if v9 ≤ (0 : Int32) then (b_X8_houseReplaces_54  w μ ν ((p1 - 1) + 1)) else ((if ((μ.1 21 (2 * (p1 - 1) + 1) 2) + (μ.1 21 (2 * (p1 - 1) + 1) 3)) < v5 then (yl (uM μ 21 (2 * (p1 - 1) + 1) 0 v4) (fun m10 => yl (uM m10 21 (2 * (p1 - 1) + 1) 1 v5) (fun m11 => bif ltB 0 (ν.2 0) then (f_X8_rankBehindItsPrice w m11 ν ((p1 - 1) + 1)).bind (fun v13 => b_X8_houseReplaces_78  w v13.1.1 v13.1.2 ((p1 - 1) + 1) v4 v5) else none))) else (b_X8_houseReplaces_54  w μ ν ((p1 - 1) + 1)))))) else none)))) else none else none else none))
theorem mb_X8_houseReplaces_0 {w : Nat} {μ : MP} {ν : NC} {p1 : Nat} {p2 : Nat} {r0 : (MP × NC) × Int32}   (h : f_X8_houseReplaces  w μ ν p1 p2 = some r0) : mn ν r0.1.2 := by
  unfold f_X8_houseReplaces at h
  iterate 40 (try first | (with_reducible replace h := (of_guard h).2) | (with_reducible (replace h := of_guardP h; obtain ⟨hg, h⟩ := h)) | (with_reducible replace h := yl_of h rfl) | (with_reducible replace h := (of_thr h).2) | (with_reducible (replace h := bind_of h; obtain ⟨v, hv, h⟩ := h)) | (with_reducible split at h) | (with_reducible (replace h := Option.some.inj h; obtain rfl := h; exact mn_rfl _)) | (with_reducible (exact mb_X8_houseReplaces_54  h)) | (with_reducible (exact mn_trans (m_X8_rankBehindItsPrice hv) (mb_X8_houseReplaces_78  h))) | (with_reducible exact absurd (congrArg Prod.fst (Option.some.inj h)) (by simp)))
set_option maxHeartbeats 4000000 in
set_option maxRecDepth 100000 in
theorem lb_X8_houseReplaces_0 {p : Program} {l : Launch} {e : Env} {s : State} {m : MethodId} {args : Array Value} {below : List Frame} {meth : Method} {c : Code} {D : va_G} {E : Nat → ClassId} {sz : Nat} {μ0 : MP} {ν0 : NC} {a : AS} {Ad0 : Nat → Nat → Nat} {w : Nat} {B : Nat × (Nat → Nat)} {r0 : (MP × NC) × Int32} (C : cx p s m args meth c D E (Aof (zS μ0 ν0 a Ad0) [] s.heap.size) cX8_houseReplaces 6 "TradeLine") (hEv : eV (Ad0 30 0) (Ad0 31 0) B (Aof (zS μ0 ν0 a Ad0) [] s.heap.size) s s.heap) (hr : meth.sig.returnType = none) (hz : s.heap.size = sz) {μ : MP} {ν : NC} {Ad : Nat → Nat → Nat} (hm0 : mn ν0 ν) (hp0 : kp ν0 Ad0 Ad) {p1 : Nat} {p2 : Nat}   (h : f_X8_houseReplaces  w μ ν p1 p2 = some r0) : G p l e ({ frames := 9, cells := kc r0.1.2 - kc ν0, slots := ks r0.1.2 - ks ν0, locals := 271 } : Room) s m args below meth c D E (Aof (zS μ0 ν0 a Ad0) [] s.heap.size) 6 (MQ below (cQ D E sz (zS μ0 ν0 a Ad0) [] (pV (fun u => ∃ A1, u = (zS r0.1.1 r0.1.2 a A1, []) ∧ kp ν0 Ad0 A1))) args s (kc r0.1.2 - kc ν0) (ks r0.1.2 - ks ν0) (Aof (zS μ0 ν0 a Ad0) [] s.heap.size)) (zS μ ν a Ad) [] (kc ν - kc ν0) (ks ν - ks ν0) 0 [(0, .ref (Ad 0 0)), (1, nv (Ad 20) p1), (2, nv (Ad 6) p2)] [] := by
  have m0 := mb_X8_houseReplaces_0  h
  have e1 := m0.2.1; have e2 := m0.2.2.1; have e3 := hm0.2.1; have e4 := hm0.2.2.1
  unfold f_X8_houseReplaces at h
  refine z_aload_n C dX8_houseReplaces_0 rfl 1 rfl (nv_or _ _) ?_
  by_cases c1 : p1 = 0
  · replace h := (if_pos c1).symm.trans h
    rw [nv_z c1]
    refine z_ifnonnullN C dX8_houseReplaces_1 ?_
    obtain rfl := Option.some.inj h
    exact g_vret C hr hz ⟨(hm0.2.2.2 30 (by decide) (by decide)).1, (hm0.2.2.2 31 (by decide) (by decide)).1, hp0.2.1, hp0.2.2⟩ ⟨Ad, rfl, hp0⟩ (fun j x h => by simp at h) dX8_houseReplaces_4
  · replace h := (if_neg c1).symm.trans h
    rw [nv_n c1]
    refine z_ifnonnull (tgt := 5) C dX8_houseReplaces_1 (by decide) ?_
    refine g_aload_n C dX8_houseReplaces_5 rfl 1 rfl ?_
    obtain ⟨g1, h⟩ := of_guard h
    refine g_get (k := 20) (i := (p1 - 1)) (ref := "TradeLine$Order") (v := .ref (Ad 21 (2 * (p1 - 1) + 1))) C rfl (lvZ g1 rfl) rfl rfl inGX4 3 (by decide) gw_1116 (fun _ h => h) rfl dX8_houseReplaces_6 ?_
    refine z_astore_n (i := 3) (lv' := [(3, .ref (Ad 21 (2 * (p1 - 1) + 1))), (0, .ref (Ad 0 0)), (1, .ref (Ad 20 (p1 - 1))), (2, nv (Ad 6) p2)]) C dX8_houseReplaces_9 (Or.inr ⟨_, rfl⟩) rfl (by decide) (by simp [nv_cat, cat_i, cat_r, cat_n]) ?_
    refine z_aload_n C dX8_houseReplaces_10 rfl 3 rfl (nv_or _ _) ?_
    refine g_bipush (v := (44 : Int32)) C dX8_houseReplaces_11 (by decide) ?_
    obtain ⟨g2, h⟩ := of_guard h
    rw [nzB_e g2]
    obtain ⟨g3, h⟩ := of_guard h
    obtain ⟨v4, hv4, h⟩ := bind_of h
    refine g_cVi (n := 1) (exc := []) (exr := []) C [_] _ rfl rfl [] [] rfl rfl rfl rfl (fun _ h => absurd h (by simp)) (fun _ h => absurd h (by simp)) (fun _ h => absurd h (by simp)) (fun sz => c_X3_valueOf l μ ν a Ad w (p2 - 1) (44 : Int32) _ hv4 D E sz) rfl gw_558 gw_18 gw_555 gw_556 gw_557 ⟨by decide +kernel, by decide +kernel, by decide +kernel⟩ ⟨rfl, rfl⟩ ⟨Nat.le_of_ble_eq_true rfl, Nat.le_of_ble_eq_true rfl⟩ (rcvT (lvZ g3 rfl) rfl rfl rfl) (by first | exact Nat.le_of_ble_eq_true rfl | simp [nv_cat, cat_i, cat_r, cat_n]) dX8_houseReplaces_13 ⟨by show (kc ν - kc ν0) + 0 ≤ kc r0.1.2 - kc ν0; omega, by show (ks ν - ks ν0) + 0 ≤ ks r0.1.2 - ks ν0; omega⟩ (fun r u hp hx => ?_)
    obtain ⟨er, rfl⟩ := hp
    rw [er]
    try dsimp only [List.append_nil]
    refine g_istore (lv' := [(4, .int v4), (3, .ref (Ad 21 (2 * (p1 - 1) + 1))), (0, .ref (Ad 0 0)), (1, .ref (Ad 20 (p1 - 1))), (2, .ref (Ad 6 (p2 - 1)))]) C dX8_houseReplaces_16 (by decide) rfl ?_
    refine g_aload_n C dX8_houseReplaces_18 rfl 4 rfl ?_
    refine g_bipush (v := (38 : Int32)) C dX8_houseReplaces_19 (by decide) ?_
    obtain ⟨v5, hv5, h⟩ := bind_of h
    refine g_cVi (n := 1) (exc := []) (exr := []) C [_] _ rfl rfl [] [] rfl rfl rfl rfl (fun _ h => absurd h (by simp)) (fun _ h => absurd h (by simp)) (fun _ h => absurd h (by simp)) (fun sz => c_X3_valueOf l μ ν a Ad w (p2 - 1) (38 : Int32) _ hv5 D E sz) rfl gw_558 gw_18 gw_555 gw_556 gw_557 ⟨by decide +kernel, by decide +kernel, by decide +kernel⟩ ⟨rfl, rfl⟩ ⟨Nat.le_of_ble_eq_true rfl, Nat.le_of_ble_eq_true rfl⟩ (rcvT (lvZ g3 rfl) rfl rfl rfl) (by first | exact Nat.le_of_ble_eq_true rfl | simp [nv_cat, cat_i, cat_r, cat_n]) dX8_houseReplaces_21 ⟨by show (kc ν - kc ν0) + 0 ≤ kc r0.1.2 - kc ν0; omega, by show (ks ν - ks ν0) + 0 ≤ ks r0.1.2 - ks ν0; omega⟩ (fun r u hp hx => ?_)
    obtain ⟨er, rfl⟩ := hp
    rw [er]
    try dsimp only [List.append_nil]
    refine g_istore (lv' := [(5, .int v5), (4, .int v4), (3, .ref (Ad 21 (2 * (p1 - 1) + 1))), (0, .ref (Ad 0 0)), (1, .ref (Ad 20 (p1 - 1))), (2, .ref (Ad 6 (p2 - 1)))]) C dX8_houseReplaces_24 (by decide) rfl ?_
    refine g_aload_n C dX8_houseReplaces_26 rfl 4 rfl ?_
    refine g_get (k := 20) (i := (p1 - 1)) (ref := "TradeLine$Order") (v := .int (μ.1 20 (p1 - 1) 6)) C rfl (lvZ g1 rfl) rfl rfl inGX4 6 (by decide) gw_1121 (fun _ h => h) rfl dX8_houseReplaces_27 ?_
    refine g_if_eq (tgt := 54) C dX8_houseReplaces_30 (by decide) (fun c30 => ?_) (fun c30 => ?_)
    · replace h := (if_pos c30).symm.trans h
      refine g_lv [3, 4] rfl ?_
      exact lb_X8_houseReplaces_54 C hEv hr hz hm0 hp0   h
    · replace h := (if_neg c30).symm.trans h
      refine g_aload_n C dX8_houseReplaces_33 rfl 2 rfl ?_
      obtain ⟨g8, h⟩ := of_guard h
      obtain ⟨v9, hv9, h⟩ := bind_of h
      refine g_cVi (n := 0) (exc := []) (exr := []) C [] _ rfl rfl [] [] rfl rfl rfl rfl (fun _ h => absurd h (by simp)) (fun _ h => absurd h (by simp)) (fun _ h => absurd h (by simp)) (fun sz => c_X1_rest l μ ν a Ad w (2 * (p1 - 1) + 1)  _ hv9 D E sz) rfl gw_887 gw_31 gw_892 gw_885 gw_886 ⟨by decide +kernel, by decide +kernel, by decide +kernel⟩ ⟨rfl, rfl⟩ ⟨Nat.le_of_ble_eq_true rfl, Nat.le_of_ble_eq_true rfl⟩ (rcvT (lvZ g8 rfl) rfl rfl rfl) (by first | exact Nat.le_of_ble_eq_true rfl | simp [nv_cat, cat_i, cat_r, cat_n]) dX8_houseReplaces_34 ⟨by show (kc ν - kc ν0) + 0 ≤ kc r0.1.2 - kc ν0; omega, by show (ks ν - ks ν0) + 0 ≤ ks r0.1.2 - ks ν0; omega⟩ (fun r u hp hx => ?_)
      obtain ⟨er, rfl⟩ := hp
      rw [er]
      try dsimp only [List.append_nil]
      refine g_if_le (tgt := 54) C dX8_houseReplaces_37 (by decide) (fun c37 => ?_) (fun c37 => ?_)
      · replace h := (if_pos c37).symm.trans h
        refine g_lv [3, 4] rfl ?_
        exact lb_X8_houseReplaces_54 C hEv hr hz hm0 hp0   h
      · replace h := (if_neg c37).symm.trans h
        refine g_iload C dX8_houseReplaces_40 0 rfl ?_
        refine g_aload_n C dX8_houseReplaces_42 rfl 2 rfl ?_
        refine g_get (k := 21) (i := (2 * (p1 - 1) + 1)) (ref := "TradeLine$Book") (v := .int (μ.1 21 (2 * (p1 - 1) + 1) 2)) C rfl (lvZ g8 rfl) rfl rfl inGX1 2 (by decide) gw_1096 (fun _ h => h) rfl dX8_houseReplaces_43 ?_
        refine g_aload_n C dX8_houseReplaces_46 rfl 2 rfl ?_
        refine g_get (k := 21) (i := (2 * (p1 - 1) + 1)) (ref := "TradeLine$Book") (v := .int (μ.1 21 (2 * (p1 - 1) + 1) 3)) C rfl (lvZ g8 rfl) rfl rfl inGX1 3 (by decide) gw_1099 (fun _ h => h) rfl dX8_houseReplaces_47 ?_
        refine g_iadd C dX8_houseReplaces_50 ?_
        refine g_icmp_gt (tgt := 61) C dX8_houseReplaces_51 (by decide) (fun c51 => ?_) (fun c51 => ?_)
        · replace h := (if_pos c51).symm.trans h
          refine g_aload_n C dX8_houseReplaces_61 rfl 2 rfl ?_
          refine g_iload C dX8_houseReplaces_62 1 rfl ?_
          refine z_put (k := 21) (i := (2 * (p1 - 1) + 1)) (ref := "TradeLine$Book") C rfl g8 rfl rfl rfl inGX1 tyX1 tyX1_ok nmX1 0 (by decide) gw_1091 (fun _ h => h) rfl (tyX1_ok 0 (by decide)) rfl rfl (by simp [fvs]) (by simp [fvs, up1]) dX8_houseReplaces_64 (fun m10 em10 => ?_)
          replace h := yl_of h em10
          refine g_aload_n C dX8_houseReplaces_67 rfl 2 rfl ?_
          refine g_iload C dX8_houseReplaces_68 0 rfl ?_
          refine z_put (k := 21) (i := (2 * (p1 - 1) + 1)) (ref := "TradeLine$Book") C rfl g8 rfl rfl rfl inGX1 tyX1 tyX1_ok nmX1 1 (by decide) gw_1093 (fun _ h => h) rfl (tyX1_ok 1 (by decide)) rfl rfl (by simp [fvs]) (by simp [fvs, up1]) dX8_houseReplaces_70 (fun m11 em11 => ?_)
          replace h := yl_of h em11
          refine g_aload_n C dX8_houseReplaces_73 rfl 3 rfl ?_
          refine g_aload_n C dX8_houseReplaces_74 rfl 4 rfl ?_
          obtain ⟨g12, h⟩ := of_guard h
          obtain ⟨v13, hv13, h⟩ := bind_of h
          have m2 := m_X8_rankBehindItsPrice hv13
          have m3 := mb_X8_houseReplaces_78  h
          have a1 := hm0.2.1; have a2 := hm0.2.2.1; have b1 := m2.2.1; have b2 := m2.2.2.1; have d1 := m3.2.1; have d2 := m3.2.2.1
          refine g_lv [3, 4, 1, 0] rfl ?_
          refine g_cVve (n := 1) (exc := []) (exr := []) C hEv ⟨hp0.2.1 0, hp0.2.2 0⟩ [_] _ rfl rfl [] [] rfl rfl rfl rfl (fun _ h => absurd h (by simp)) (fun _ h => absurd h (by simp)) (fun _ h => absurd h (by simp)) (fun sz => c_X8_rankBehindItsPrice l B m11 ν a Ad w ((p1 - 1) + 1) _ hv13 D E sz) rfl gw_603 gw_1 gw_600 gw_602 gs_18 ⟨by decide +kernel, by decide +kernel, by decide +kernel⟩ ⟨rfl, rfl⟩ ⟨Nat.le_of_ble_eq_true rfl, Nat.le_of_ble_eq_true rfl⟩ (rcvT (lvZ g12 rfl) rfl rfl rfl) (by first | exact Nat.le_of_ble_eq_true rfl | simp [nv_cat, cat_i, cat_r, cat_n]) dX8_houseReplaces_75 ⟨by show (kc ν - kc ν0) + (kc v13.1.2 - kc ν) ≤ kc r0.1.2 - kc ν0; omega, by show (ks ν - ks ν0) + (ks v13.1.2 - ks ν) ≤ ks r0.1.2 - ks ν0; omega⟩ (fun u hp hx => ?_)
          obtain ⟨A1, rfl, hkp⟩ := hp
          try dsimp only [List.append_nil]
          refine g_widen (k := kc v13.1.2 - kc ν0) (n := ks v13.1.2 - ks ν0) (by omega) (by omega) ?_
          rw [show Ad 0 0 = A1 0 0 from (hkp.1 0 _ rfl (of_decide_eq_true g12)).symm]
          rw [show Ad 20 (p1 - 1) = A1 20 (p1 - 1) from (hkp.1 20 _ rfl (of_decide_eq_true g1)).symm]
          exact lb_X8_houseReplaces_78 C hEv hr hz (mn_trans hm0 m2) (kp_trans hp0 hm0 hkp)   h
        · replace h := (if_neg c51).symm.trans h
          refine g_lv [3, 4] rfl ?_
          exact lb_X8_houseReplaces_54 C hEv hr hz hm0 hp0   h
theorem m_X8_houseReplaces {w : Nat} {μ : MP} {ν : NC} {p1 : Nat} {p2 : Nat} {r0 : (MP × NC) × Int32} (h : f_X8_houseReplaces w μ ν p1 p2 = some r0) : mn ν r0.1.2 := mb_X8_houseReplaces_0 h
theorem c_X8_houseReplaces (l : Launch) (B : Nat × (Nat → Nat)) (μ : MP) (ν : NC) (a : AS) (Ad : Nat → Nat → Nat) (w : Nat) (p1 : Nat) (p2 : Nat) (r0 : (MP × NC) × Int32) (h : f_X8_houseReplaces w μ ν p1 p2 = some r0) : ∀ D E sz, Met l yX8_houseReplaces gwX8_houseReplaces ({ frames := 9, cells := kc r0.1.2 - kc ν, slots := ks r0.1.2 - ks ν, locals := 271 } : Room) (cPe D E sz B (zS μ ν a Ad) [] [] [.ref (Ad 0 0), nv (Ad 20) p1, nv (Ad 6) p2]) (cQ D E sz (zS μ ν a Ad) [] (pV (fun u => ∃ A1, u = (zS r0.1.1 r0.1.2 a A1, []) ∧ kp ν Ad A1))) (kc r0.1.2 - kc ν) (ks r0.1.2 - ks ν) (Aof (zS μ ν a Ad) [] sz) := by
  intro D E sz
  refine g_ofe (cc := cX8_houseReplaces) (maxL := 6) (ret := none) (own := "TradeLine") (by decide) rfl rfl (by cases p1 <;> cases p2 <;> exact Nat.le_of_ble_eq_true rfl) ?_
  intro p e s m args below meth c C hr hin hz ha hwr hEv
  refine g_lv (lv' := [(0, .ref (Ad 0 0)), (1, nv (Ad 20) p1), (2, nv (Ad 6) p2)]) [0, 1, 2] (by cases p1 <;> cases p2 <;> rfl) ?_
  refine g_widen (k := kc ν - kc ν) (n := ks ν - ks ν) (Nat.zero_le _) (Nat.zero_le _) ?_
  exact lb_X8_houseReplaces_0 C hEv hr hz (mn_rfl _) (kp_rfl _ _) h
noncomputable def b_X8_workOff_61  (w : Nat) (μ : MP) (ν : NC) : Option ((MP × NC) × Int32) := some ((μ, ν), (0 : Int32))
theorem mb_X8_workOff_61 {w : Nat} {μ : MP} {ν : NC} {r0 : (MP × NC) × Int32}   (h : b_X8_workOff_61  w μ ν  = some r0) : mn ν r0.1.2 := by
  unfold b_X8_workOff_61 at h
  iterate 40 (try first | (with_reducible replace h := (of_guard h).2) | (with_reducible (replace h := of_guardP h; obtain ⟨hg, h⟩ := h)) | (with_reducible replace h := yl_of h rfl) | (with_reducible replace h := (of_thr h).2) | (with_reducible (replace h := bind_of h; obtain ⟨v, hv, h⟩ := h)) | (with_reducible split at h) | (with_reducible (replace h := Option.some.inj h; obtain rfl := h; exact mn_rfl _)) | (with_reducible exact absurd (congrArg Prod.fst (Option.some.inj h)) (by simp)))
set_option maxHeartbeats 4000000 in
set_option maxRecDepth 100000 in
theorem lb_X8_workOff_61 {p : Program} {l : Launch} {e : Env} {s : State} {m : MethodId} {args : Array Value} {below : List Frame} {meth : Method} {c : Code} {D : va_G} {E : Nat → ClassId} {sz : Nat} {μ0 : MP} {ν0 : NC} {a : AS} {Ad0 : Nat → Nat → Nat} {w : Nat} {B : Nat × (Nat → Nat)} {r0 : (MP × NC) × Int32} (C : cx p s m args meth c D E (Aof (zS μ0 ν0 a Ad0) [] s.heap.size) cX8_workOff 3 "TradeLine") (hEv : eV (Ad0 30 0) (Ad0 31 0) B (Aof (zS μ0 ν0 a Ad0) [] s.heap.size) s s.heap) (hr : meth.sig.returnType = none) (hz : s.heap.size = sz) {μ : MP} {ν : NC} {Ad : Nat → Nat → Nat} (hm0 : mn ν0 ν) (hp0 : kp ν0 Ad0 Ad)   (h : b_X8_workOff_61  w μ ν  = some r0) : G p l e ({ frames := 10, cells := kc r0.1.2 - kc ν0, slots := ks r0.1.2 - ks ν0, locals := 296 } : Room) s m args below meth c D E (Aof (zS μ0 ν0 a Ad0) [] s.heap.size) 3 (MQ below (cQ D E sz (zS μ0 ν0 a Ad0) [] (pV (fun u => ∃ A1, u = (zS r0.1.1 r0.1.2 a A1, []) ∧ kp ν0 Ad0 A1))) args s (kc r0.1.2 - kc ν0) (ks r0.1.2 - ks ν0) (Aof (zS μ0 ν0 a Ad0) [] s.heap.size)) (zS μ ν a Ad) [] (kc ν - kc ν0) (ks ν - ks ν0) 61 [(0, .ref (Ad 0 0))] [] := by
  have m0 := mb_X8_workOff_61  h
  have e1 := m0.2.1; have e2 := m0.2.2.1; have e3 := hm0.2.1; have e4 := hm0.2.2.1
  unfold b_X8_workOff_61 at h
  refine g_goto (tgt := 115) C dX8_workOff_61 (by decide) ?_
  obtain rfl := Option.some.inj h
  exact g_vret C hr hz ⟨(hm0.2.2.2 30 (by decide) (by decide)).1, (hm0.2.2.2 31 (by decide) (by decide)).1, hp0.2.1, hp0.2.2⟩ ⟨Ad, rfl, hp0⟩ (fun j x h => by simp at h) dX8_workOff_115
noncomputable def b_X8_workOff_69  (w : Nat) (μ : MP) (ν : NC) : Option ((MP × NC) × Int32) := some ((μ, ν), (0 : Int32))
theorem mb_X8_workOff_69 {w : Nat} {μ : MP} {ν : NC} {r0 : (MP × NC) × Int32}   (h : b_X8_workOff_69  w μ ν  = some r0) : mn ν r0.1.2 := by
  unfold b_X8_workOff_69 at h
  iterate 40 (try first | (with_reducible replace h := (of_guard h).2) | (with_reducible (replace h := of_guardP h; obtain ⟨hg, h⟩ := h)) | (with_reducible replace h := yl_of h rfl) | (with_reducible replace h := (of_thr h).2) | (with_reducible (replace h := bind_of h; obtain ⟨v, hv, h⟩ := h)) | (with_reducible split at h) | (with_reducible (replace h := Option.some.inj h; obtain rfl := h; exact mn_rfl _)) | (with_reducible exact absurd (congrArg Prod.fst (Option.some.inj h)) (by simp)))
set_option maxHeartbeats 4000000 in
set_option maxRecDepth 100000 in
theorem lb_X8_workOff_69 {p : Program} {l : Launch} {e : Env} {s : State} {m : MethodId} {args : Array Value} {below : List Frame} {meth : Method} {c : Code} {D : va_G} {E : Nat → ClassId} {sz : Nat} {μ0 : MP} {ν0 : NC} {a : AS} {Ad0 : Nat → Nat → Nat} {w : Nat} {B : Nat × (Nat → Nat)} {r0 : (MP × NC) × Int32} (C : cx p s m args meth c D E (Aof (zS μ0 ν0 a Ad0) [] s.heap.size) cX8_workOff 3 "TradeLine") (hEv : eV (Ad0 30 0) (Ad0 31 0) B (Aof (zS μ0 ν0 a Ad0) [] s.heap.size) s s.heap) (hr : meth.sig.returnType = none) (hz : s.heap.size = sz) {μ : MP} {ν : NC} {Ad : Nat → Nat → Nat} (hm0 : mn ν0 ν) (hp0 : kp ν0 Ad0 Ad)   (h : b_X8_workOff_69  w μ ν  = some r0) : G p l e ({ frames := 10, cells := kc r0.1.2 - kc ν0, slots := ks r0.1.2 - ks ν0, locals := 296 } : Room) s m args below meth c D E (Aof (zS μ0 ν0 a Ad0) [] s.heap.size) 3 (MQ below (cQ D E sz (zS μ0 ν0 a Ad0) [] (pV (fun u => ∃ A1, u = (zS r0.1.1 r0.1.2 a A1, []) ∧ kp ν0 Ad0 A1))) args s (kc r0.1.2 - kc ν0) (ks r0.1.2 - ks ν0) (Aof (zS μ0 ν0 a Ad0) [] s.heap.size)) (zS μ ν a Ad) [] (kc ν - kc ν0) (ks ν - ks ν0) 69 [(0, .ref (Ad 0 0))] [] := by
  have m0 := mb_X8_workOff_69  h
  have e1 := m0.2.1; have e2 := m0.2.2.1; have e3 := hm0.2.1; have e4 := hm0.2.2.1
  unfold b_X8_workOff_69 at h
  refine g_goto (tgt := 115) C dX8_workOff_69 (by decide) ?_
  obtain rfl := Option.some.inj h
  exact g_vret C hr hz ⟨(hm0.2.2.2 30 (by decide) (by decide)).1, (hm0.2.2.2 31 (by decide) (by decide)).1, hp0.2.1, hp0.2.2⟩ ⟨Ad, rfl, hp0⟩ (fun j x h => by simp at h) dX8_workOff_115
noncomputable def b_X8_workOff_86  (w : Nat) (μ : MP) (ν : NC) : Option ((MP × NC) × Int32) := some ((μ, ν), (0 : Int32))
theorem mb_X8_workOff_86 {w : Nat} {μ : MP} {ν : NC} {r0 : (MP × NC) × Int32}   (h : b_X8_workOff_86  w μ ν  = some r0) : mn ν r0.1.2 := by
  unfold b_X8_workOff_86 at h
  iterate 40 (try first | (with_reducible replace h := (of_guard h).2) | (with_reducible (replace h := of_guardP h; obtain ⟨hg, h⟩ := h)) | (with_reducible replace h := yl_of h rfl) | (with_reducible replace h := (of_thr h).2) | (with_reducible (replace h := bind_of h; obtain ⟨v, hv, h⟩ := h)) | (with_reducible split at h) | (with_reducible (replace h := Option.some.inj h; obtain rfl := h; exact mn_rfl _)) | (with_reducible exact absurd (congrArg Prod.fst (Option.some.inj h)) (by simp)))
set_option maxHeartbeats 4000000 in
set_option maxRecDepth 100000 in
theorem lb_X8_workOff_86 {p : Program} {l : Launch} {e : Env} {s : State} {m : MethodId} {args : Array Value} {below : List Frame} {meth : Method} {c : Code} {D : va_G} {E : Nat → ClassId} {sz : Nat} {μ0 : MP} {ν0 : NC} {a : AS} {Ad0 : Nat → Nat → Nat} {w : Nat} {B : Nat × (Nat → Nat)} {r0 : (MP × NC) × Int32} (C : cx p s m args meth c D E (Aof (zS μ0 ν0 a Ad0) [] s.heap.size) cX8_workOff 3 "TradeLine") (hEv : eV (Ad0 30 0) (Ad0 31 0) B (Aof (zS μ0 ν0 a Ad0) [] s.heap.size) s s.heap) (hr : meth.sig.returnType = none) (hz : s.heap.size = sz) {μ : MP} {ν : NC} {Ad : Nat → Nat → Nat} (hm0 : mn ν0 ν) (hp0 : kp ν0 Ad0 Ad)   (h : b_X8_workOff_86  w μ ν  = some r0) : G p l e ({ frames := 10, cells := kc r0.1.2 - kc ν0, slots := ks r0.1.2 - ks ν0, locals := 296 } : Room) s m args below meth c D E (Aof (zS μ0 ν0 a Ad0) [] s.heap.size) 3 (MQ below (cQ D E sz (zS μ0 ν0 a Ad0) [] (pV (fun u => ∃ A1, u = (zS r0.1.1 r0.1.2 a A1, []) ∧ kp ν0 Ad0 A1))) args s (kc r0.1.2 - kc ν0) (ks r0.1.2 - ks ν0) (Aof (zS μ0 ν0 a Ad0) [] s.heap.size)) (zS μ ν a Ad) [] (kc ν - kc ν0) (ks ν - ks ν0) 86 [(0, .ref (Ad 0 0))] [] := by
  have m0 := mb_X8_workOff_86  h
  have e1 := m0.2.1; have e2 := m0.2.2.1; have e3 := hm0.2.1; have e4 := hm0.2.2.1
  unfold b_X8_workOff_86 at h
  refine g_goto (tgt := 115) C dX8_workOff_86 (by decide) ?_
  obtain rfl := Option.some.inj h
  exact g_vret C hr hz ⟨(hm0.2.2.2 30 (by decide) (by decide)).1, (hm0.2.2.2 31 (by decide) (by decide)).1, hp0.2.1, hp0.2.2⟩ ⟨Ad, rfl, hp0⟩ (fun j x h => by simp at h) dX8_workOff_115
noncomputable def b_X8_workOff_104  (w : Nat) (μ : MP) (ν : NC) : Option ((MP × NC) × Int32) := some ((μ, ν), (0 : Int32))
theorem mb_X8_workOff_104 {w : Nat} {μ : MP} {ν : NC} {r0 : (MP × NC) × Int32}   (h : b_X8_workOff_104  w μ ν  = some r0) : mn ν r0.1.2 := by
  unfold b_X8_workOff_104 at h
  iterate 40 (try first | (with_reducible replace h := (of_guard h).2) | (with_reducible (replace h := of_guardP h; obtain ⟨hg, h⟩ := h)) | (with_reducible replace h := yl_of h rfl) | (with_reducible replace h := (of_thr h).2) | (with_reducible (replace h := bind_of h; obtain ⟨v, hv, h⟩ := h)) | (with_reducible split at h) | (with_reducible (replace h := Option.some.inj h; obtain rfl := h; exact mn_rfl _)) | (with_reducible exact absurd (congrArg Prod.fst (Option.some.inj h)) (by simp)))
set_option maxHeartbeats 4000000 in
set_option maxRecDepth 100000 in
theorem lb_X8_workOff_104 {p : Program} {l : Launch} {e : Env} {s : State} {m : MethodId} {args : Array Value} {below : List Frame} {meth : Method} {c : Code} {D : va_G} {E : Nat → ClassId} {sz : Nat} {μ0 : MP} {ν0 : NC} {a : AS} {Ad0 : Nat → Nat → Nat} {w : Nat} {B : Nat × (Nat → Nat)} {r0 : (MP × NC) × Int32} (C : cx p s m args meth c D E (Aof (zS μ0 ν0 a Ad0) [] s.heap.size) cX8_workOff 3 "TradeLine") (hEv : eV (Ad0 30 0) (Ad0 31 0) B (Aof (zS μ0 ν0 a Ad0) [] s.heap.size) s s.heap) (hr : meth.sig.returnType = none) (hz : s.heap.size = sz) {μ : MP} {ν : NC} {Ad : Nat → Nat → Nat} (hm0 : mn ν0 ν) (hp0 : kp ν0 Ad0 Ad)   (h : b_X8_workOff_104  w μ ν  = some r0) : G p l e ({ frames := 10, cells := kc r0.1.2 - kc ν0, slots := ks r0.1.2 - ks ν0, locals := 296 } : Room) s m args below meth c D E (Aof (zS μ0 ν0 a Ad0) [] s.heap.size) 3 (MQ below (cQ D E sz (zS μ0 ν0 a Ad0) [] (pV (fun u => ∃ A1, u = (zS r0.1.1 r0.1.2 a A1, []) ∧ kp ν0 Ad0 A1))) args s (kc r0.1.2 - kc ν0) (ks r0.1.2 - ks ν0) (Aof (zS μ0 ν0 a Ad0) [] s.heap.size)) (zS μ ν a Ad) [] (kc ν - kc ν0) (ks ν - ks ν0) 104 [(0, .ref (Ad 0 0))] [] := by
  have m0 := mb_X8_workOff_104  h
  have e1 := m0.2.1; have e2 := m0.2.2.1; have e3 := hm0.2.1; have e4 := hm0.2.2.1
  unfold b_X8_workOff_104 at h
  refine g_goto (tgt := 115) C dX8_workOff_104 (by decide) ?_
  obtain rfl := Option.some.inj h
  exact g_vret C hr hz ⟨(hm0.2.2.2 30 (by decide) (by decide)).1, (hm0.2.2.2 31 (by decide) (by decide)).1, hp0.2.1, hp0.2.2⟩ ⟨Ad, rfl, hp0⟩ (fun j x h => by simp at h) dX8_workOff_115
noncomputable def f_X8_workOff  (w : Nat) (μ : MP) (ν : NC) (x1 : Int32) (p2 : Nat) : Option ((MP × NC) × Int32) := (if p2 = 0 then (some ((μ, ν), (0 : Int32))) else (bif ltB (p2 - 1) (ν.2 6) then (if (μ.1 6 (p2 - 1) 0) = (2 : Int32) then (bif ltB 0 (ν.2 0) then (f_X8_send_N w μ ν x1 (1 : Int32)).bind (fun v3 => b_X8_workOff_61  w v3.1.1 v3.1.2 ) else none) else (if (μ.1 6 (p2 - 1) 0) = (3 : Int32) then (some ((μ, ν), (0 : Int32))) else (if (μ.1 6 (p2 - 1) 0) = (4 : Int32) then (some ((μ, ν), (0 : Int32))) else (if (μ.1 6 (p2 - 1) 0) = (5 : Int32) then (bif ltB 0 (ν.2 0) then (f_X8_houseTakesOrder w μ ν ((p2 - 1) + 1)).bind (fun v5 => b_X8_workOff_69  w v5.1.1 v5.1.2 ) else none) else (if (μ.1 6 (p2 - 1) 0) = (6 : Int32) then ((f_X3_valueOf w μ ν (p2 - 1) (41 : Int32)).bind (fun v6 => bif ltB 0 (ν.2 0) then (f_X8_findOrder w μ ν v6).bind (fun v8 => (f_X8_houseCancels w μ ν v8).bind (fun v9 => b_X8_workOff_86  w v9.1.1 v9.1.2 )) else none)) else (if (μ.1 6 (p2 - 1) 0) = (7 : Int32) then ((f_X3_valueOf w μ ν (p2 - 1) (41 : Int32)).bind (fun v10 => bif ltB 0 (ν.2 0) then (f_X8_findOrder w μ ν v10).bind (fun v12 => (f_X8_houseReplaces w μ ν v12 ((p2 - 1) + 1)).bind (fun v13 => b_X8_workOff_104  w v13.1.1 v13.1.2 )) else none)) else (if (μ.1 6 (p2 - 1) 0) = (8 : Int32) then (bif ltB 0 (ν.2 0) then (f_X8_traderReads w μ ν ((p2 - 1) + 1)).bind (fun v15 => some ((v15.1, ν), (0 : Int32))) else none) else some ((μ, ν), (0 : Int32))))))))) else none))
theorem mb_X8_workOff_0 {w : Nat} {μ : MP} {ν : NC} {x1 : Int32} {p2 : Nat} {r0 : (MP × NC) × Int32}   (h : f_X8_workOff  w μ ν x1 p2 = some r0) : mn ν r0.1.2 := by
  unfold f_X8_workOff at h
  iterate 40 (try first | (with_reducible replace h := (of_guard h).2) | (with_reducible (replace h := of_guardP h; obtain ⟨hg, h⟩ := h)) | (with_reducible replace h := yl_of h rfl) | (with_reducible replace h := (of_thr h).2) | (with_reducible (replace h := bind_of h; obtain ⟨v, hv, h⟩ := h)) | (with_reducible split at h) | (with_reducible (replace h := Option.some.inj h; obtain rfl := h; exact mn_rfl _)) | (with_reducible (exact mn_trans (m_X8_send_N hv) (mb_X8_workOff_61  h))) | (with_reducible (exact mn_trans (m_X8_houseTakesOrder hv) (mb_X8_workOff_69  h))) | (with_reducible (exact mn_trans (m_X8_houseCancels hv) (mb_X8_workOff_86  h))) | (with_reducible (exact mn_trans (m_X8_houseReplaces hv) (mb_X8_workOff_104  h))) | (with_reducible exact absurd (congrArg Prod.fst (Option.some.inj h)) (by simp)))
set_option maxHeartbeats 4000000 in
set_option maxRecDepth 100000 in
theorem lb_X8_workOff_0 {p : Program} {l : Launch} {e : Env} {s : State} {m : MethodId} {args : Array Value} {below : List Frame} {meth : Method} {c : Code} {D : va_G} {E : Nat → ClassId} {sz : Nat} {μ0 : MP} {ν0 : NC} {a : AS} {Ad0 : Nat → Nat → Nat} {w : Nat} {B : Nat × (Nat → Nat)} {r0 : (MP × NC) × Int32} (C : cx p s m args meth c D E (Aof (zS μ0 ν0 a Ad0) [] s.heap.size) cX8_workOff 3 "TradeLine") (hEv : eV (Ad0 30 0) (Ad0 31 0) B (Aof (zS μ0 ν0 a Ad0) [] s.heap.size) s s.heap) (hr : meth.sig.returnType = none) (hz : s.heap.size = sz) {μ : MP} {ν : NC} {Ad : Nat → Nat → Nat} (hm0 : mn ν0 ν) (hp0 : kp ν0 Ad0 Ad) {x1 : Int32} {p2 : Nat}   (h : f_X8_workOff  w μ ν x1 p2 = some r0) : G p l e ({ frames := 10, cells := kc r0.1.2 - kc ν0, slots := ks r0.1.2 - ks ν0, locals := 296 } : Room) s m args below meth c D E (Aof (zS μ0 ν0 a Ad0) [] s.heap.size) 3 (MQ below (cQ D E sz (zS μ0 ν0 a Ad0) [] (pV (fun u => ∃ A1, u = (zS r0.1.1 r0.1.2 a A1, []) ∧ kp ν0 Ad0 A1))) args s (kc r0.1.2 - kc ν0) (ks r0.1.2 - ks ν0) (Aof (zS μ0 ν0 a Ad0) [] s.heap.size)) (zS μ ν a Ad) [] (kc ν - kc ν0) (ks ν - ks ν0) 0 [(0, .ref (Ad 0 0)), (1, .int x1), (2, nv (Ad 6) p2)] [] := by
  have m0 := mb_X8_workOff_0  h
  have e1 := m0.2.1; have e2 := m0.2.2.1; have e3 := hm0.2.1; have e4 := hm0.2.2.1
  unfold f_X8_workOff at h
  refine z_aload_n C dX8_workOff_0 rfl 2 rfl (nv_or _ _) ?_
  by_cases c1 : p2 = 0
  · replace h := (if_pos c1).symm.trans h
    rw [nv_z c1]
    refine z_ifnonnullN C dX8_workOff_1 ?_
    obtain rfl := Option.some.inj h
    exact g_vret C hr hz ⟨(hm0.2.2.2 30 (by decide) (by decide)).1, (hm0.2.2.2 31 (by decide) (by decide)).1, hp0.2.1, hp0.2.2⟩ ⟨Ad, rfl, hp0⟩ (fun j x h => by simp at h) dX8_workOff_4
  · replace h := (if_neg c1).symm.trans h
    rw [nv_n c1]
    refine z_ifnonnull (tgt := 5) C dX8_workOff_1 (by decide) ?_
    refine g_aload_n C dX8_workOff_5 rfl 2 rfl ?_
    obtain ⟨g1, h⟩ := of_guard h
    refine g_get (k := 6) (i := (p2 - 1)) (ref := "TradeLine$Message") (v := .int (μ.1 6 (p2 - 1) 0)) C rfl (lvZ g1 rfl) rfl rfl inGX3 0 (by decide) gw_337 (fun _ h => h) rfl dX8_workOff_6 ?_
    by_cases w9_2 : (μ.1 6 (p2 - 1) 0) = (2 : Int32)
    · replace h := (if_pos w9_2).symm.trans h
      refine g_tswI (v := (2 : Int32)) (off := 43) (tgt := 52) C dX8_workOff_9 w9_2 (by decide) (by decide) (by decide) ?_
      refine g_aload_n C dX8_workOff_52 rfl 0 rfl ?_
      refine g_iload_n C dX8_workOff_53 rfl 1 rfl ?_
      refine g_iconst (v := (1 : Int32)) C dX8_workOff_54 (by decide) ?_
      refine g_getsN C hEv gw_295 dX8_workOff_55 ?_
      rw [show Ad0 30 0 = Ad 30 0 from (hp0.2.1 0).symm]
      obtain ⟨g2, h⟩ := of_guard h
      obtain ⟨v3, hv3, h⟩ := bind_of h
      have m2 := m_X8_send_N hv3
      have m3 := mb_X8_workOff_61  h
      have a1 := hm0.2.1; have a2 := hm0.2.2.1; have b1 := m2.2.1; have b2 := m2.2.2.1; have d1 := m3.2.1; have d2 := m3.2.2.1
      refine g_lv [0] rfl ?_
      refine g_cVve (n := 3) (exc := []) (exr := []) C hEv ⟨hp0.2.1 0, hp0.2.2 0⟩ [_, _, _] _ rfl rfl [] [] rfl rfl rfl rfl (fun _ h => absurd h (by simp)) (fun _ h => absurd h (by simp)) (fun _ h => absurd h (by simp)) (fun sz => c_X8_send_N l B μ ν a Ad w x1 (1 : Int32) _ hv3 D E sz) rfl gw_300 gw_1 gw_297 gw_299 gs_1 ⟨by decide +kernel, by decide +kernel, by decide +kernel⟩ ⟨rfl, rfl⟩ ⟨Nat.le_of_ble_eq_true rfl, Nat.le_of_ble_eq_true rfl⟩ (rcvT (lvZ g2 rfl) rfl rfl rfl) (by first | exact Nat.le_of_ble_eq_true rfl | simp [nv_cat, cat_i, cat_r, cat_n]) dX8_workOff_58 ⟨by show (kc ν - kc ν0) + (kc v3.1.2 - kc ν) ≤ kc r0.1.2 - kc ν0; omega, by show (ks ν - ks ν0) + (ks v3.1.2 - ks ν) ≤ ks r0.1.2 - ks ν0; omega⟩ (fun u hp hx => ?_)
      obtain ⟨A1, rfl, hkp⟩ := hp
      try dsimp only [List.append_nil]
      refine g_widen (k := kc v3.1.2 - kc ν0) (n := ks v3.1.2 - ks ν0) (by omega) (by omega) ?_
      rw [show Ad 0 0 = A1 0 0 from (hkp.1 0 _ rfl (of_decide_eq_true g2)).symm]
      exact lb_X8_workOff_61 C hEv hr hz (mn_trans hm0 m2) (kp_trans hp0 hm0 hkp)   h
    replace h := (if_neg w9_2).symm.trans h
    by_cases w9_3 : (μ.1 6 (p2 - 1) 0) = (3 : Int32)
    · replace h := (if_pos w9_3).symm.trans h
      refine g_tswI (v := (3 : Int32)) (off := 106) (tgt := 115) C dX8_workOff_9 w9_3 (by decide) (by decide) (by decide) ?_
      obtain rfl := Option.some.inj h
      exact g_vret C hr hz ⟨(hm0.2.2.2 30 (by decide) (by decide)).1, (hm0.2.2.2 31 (by decide) (by decide)).1, hp0.2.1, hp0.2.2⟩ ⟨Ad, rfl, hp0⟩ (fun j x h => by simp at h) dX8_workOff_115
    replace h := (if_neg w9_3).symm.trans h
    by_cases w9_4 : (μ.1 6 (p2 - 1) 0) = (4 : Int32)
    · replace h := (if_pos w9_4).symm.trans h
      refine g_tswI (v := (4 : Int32)) (off := 106) (tgt := 115) C dX8_workOff_9 w9_4 (by decide) (by decide) (by decide) ?_
      obtain rfl := Option.some.inj h
      exact g_vret C hr hz ⟨(hm0.2.2.2 30 (by decide) (by decide)).1, (hm0.2.2.2 31 (by decide) (by decide)).1, hp0.2.1, hp0.2.2⟩ ⟨Ad, rfl, hp0⟩ (fun j x h => by simp at h) dX8_workOff_115
    replace h := (if_neg w9_4).symm.trans h
    by_cases w9_5 : (μ.1 6 (p2 - 1) 0) = (5 : Int32)
    · replace h := (if_pos w9_5).symm.trans h
      refine g_tswI (v := (5 : Int32)) (off := 55) (tgt := 64) C dX8_workOff_9 w9_5 (by decide) (by decide) (by decide) ?_
      refine g_aload_n C dX8_workOff_64 rfl 0 rfl ?_
      refine g_aload_n C dX8_workOff_65 rfl 2 rfl ?_
      obtain ⟨g4, h⟩ := of_guard h
      obtain ⟨v5, hv5, h⟩ := bind_of h
      have m2 := m_X8_houseTakesOrder hv5
      have m3 := mb_X8_workOff_69  h
      have a1 := hm0.2.1; have a2 := hm0.2.2.1; have b1 := m2.2.1; have b2 := m2.2.2.1; have d1 := m3.2.1; have d2 := m3.2.2.1
      refine g_lv [0] rfl ?_
      refine g_cVve (n := 1) (exc := []) (exr := []) C hEv ⟨hp0.2.1 0, hp0.2.2 0⟩ [_] _ rfl rfl [] [] rfl rfl rfl rfl (fun _ h => absurd h (by simp)) (fun _ h => absurd h (by simp)) (fun _ h => absurd h (by simp)) (fun sz => c_X8_houseTakesOrder l B μ ν a Ad w ((p2 - 1) + 1) _ hv5 D E sz) rfl gw_599 gw_1 gw_596 gw_598 gs_17 ⟨by decide +kernel, by decide +kernel, by decide +kernel⟩ ⟨rfl, rfl⟩ ⟨Nat.le_of_ble_eq_true rfl, Nat.le_of_ble_eq_true rfl⟩ (rcvT (lvZ g4 rfl) rfl rfl rfl) (by first | exact Nat.le_of_ble_eq_true rfl | simp [nv_cat, cat_i, cat_r, cat_n]) dX8_workOff_66 ⟨by show (kc ν - kc ν0) + (kc v5.1.2 - kc ν) ≤ kc r0.1.2 - kc ν0; omega, by show (ks ν - ks ν0) + (ks v5.1.2 - ks ν) ≤ ks r0.1.2 - ks ν0; omega⟩ (fun u hp hx => ?_)
      obtain ⟨A1, rfl, hkp⟩ := hp
      try dsimp only [List.append_nil]
      refine g_widen (k := kc v5.1.2 - kc ν0) (n := ks v5.1.2 - ks ν0) (by omega) (by omega) ?_
      rw [show Ad 0 0 = A1 0 0 from (hkp.1 0 _ rfl (of_decide_eq_true g4)).symm]
      exact lb_X8_workOff_69 C hEv hr hz (mn_trans hm0 m2) (kp_trans hp0 hm0 hkp)   h
    replace h := (if_neg w9_5).symm.trans h
    by_cases w9_6 : (μ.1 6 (p2 - 1) 0) = (6 : Int32)
    · replace h := (if_pos w9_6).symm.trans h
      refine g_tswI (v := (6 : Int32)) (off := 63) (tgt := 72) C dX8_workOff_9 w9_6 (by decide) (by decide) (by decide) ?_
      refine g_aload_n C dX8_workOff_72 rfl 0 rfl ?_
      refine g_aload_n C dX8_workOff_73 rfl 0 rfl ?_
      refine g_aload_n C dX8_workOff_74 rfl 2 rfl ?_
      refine g_bipush (v := (41 : Int32)) C dX8_workOff_75 (by decide) ?_
      obtain ⟨v6, hv6, h⟩ := bind_of h
      refine g_cVi (n := 1) (exc := []) (exr := []) C [_] _ rfl rfl [] [] rfl rfl rfl rfl (fun _ h => absurd h (by simp)) (fun _ h => absurd h (by simp)) (fun _ h => absurd h (by simp)) (fun sz => c_X3_valueOf l μ ν a Ad w (p2 - 1) (41 : Int32) _ hv6 D E sz) rfl gw_558 gw_18 gw_555 gw_556 gw_557 ⟨by decide +kernel, by decide +kernel, by decide +kernel⟩ ⟨rfl, rfl⟩ ⟨Nat.le_of_ble_eq_true rfl, Nat.le_of_ble_eq_true rfl⟩ (rcvT (lvZ g1 rfl) rfl rfl rfl) (by first | exact Nat.le_of_ble_eq_true rfl | simp [nv_cat, cat_i, cat_r, cat_n]) dX8_workOff_77 ⟨by show (kc ν - kc ν0) + 0 ≤ kc r0.1.2 - kc ν0; omega, by show (ks ν - ks ν0) + 0 ≤ ks r0.1.2 - ks ν0; omega⟩ (fun r u hp hx => ?_)
      obtain ⟨er, rfl⟩ := hp
      rw [er]
      try dsimp only [List.append_nil]
      obtain ⟨g7, h⟩ := of_guard h
      obtain ⟨v8, hv8, h⟩ := bind_of h
      refine g_cVq (n := 1) (exc := []) (exr := []) C [_] _ rfl rfl [] [] rfl rfl rfl rfl (fun _ h => absurd h (by simp)) (fun _ h => absurd h (by simp)) (fun _ h => absurd h (by simp)) (fun sz => c_X8_findOrder l μ ν a Ad w v6 _ hv8 D E sz) rfl gw_575 gw_1 gw_572 gw_574 gs_13 ⟨by decide +kernel, by decide +kernel, by decide +kernel⟩ ⟨rfl, rfl⟩ ⟨Nat.le_of_ble_eq_true rfl, Nat.le_of_ble_eq_true rfl⟩ (rcvT (lvZ g7 rfl) rfl rfl rfl) (by first | exact Nat.le_of_ble_eq_true rfl | simp [nv_cat, cat_i, cat_r, cat_n]) dX8_workOff_80 ⟨by show (kc ν - kc ν0) + 0 ≤ kc r0.1.2 - kc ν0; omega, by show (ks ν - ks ν0) + 0 ≤ ks r0.1.2 - ks ν0; omega⟩ (fun r u hp hx => ?_)
      obtain ⟨er, rfl⟩ := hp
      rw [er]
      try dsimp only [List.append_nil]
      obtain ⟨v9, hv9, h⟩ := bind_of h
      have m2 := m_X8_houseCancels hv9
      have m3 := mb_X8_workOff_86  h
      have a1 := hm0.2.1; have a2 := hm0.2.2.1; have b1 := m2.2.1; have b2 := m2.2.2.1; have d1 := m3.2.1; have d2 := m3.2.2.1
      refine g_lv [0] rfl ?_
      refine g_cVve (n := 1) (exc := []) (exr := []) C hEv ⟨hp0.2.1 0, hp0.2.2 0⟩ [_] _ rfl rfl [] [] rfl rfl rfl rfl (fun _ h => absurd h (by simp)) (fun _ h => absurd h (by simp)) (fun _ h => absurd h (by simp)) (fun sz => c_X8_houseCancels l B μ ν a Ad w v8 _ hv9 D E sz) rfl gw_944 gw_1 gw_941 gw_943 gs_28 ⟨by decide +kernel, by decide +kernel, by decide +kernel⟩ ⟨rfl, rfl⟩ ⟨Nat.le_of_ble_eq_true rfl, Nat.le_of_ble_eq_true rfl⟩ (rcvT (lvZ g7 rfl) rfl rfl rfl) (by first | exact Nat.le_of_ble_eq_true rfl | simp [nv_cat, cat_i, cat_r, cat_n]) dX8_workOff_83 ⟨by show (kc ν - kc ν0) + (kc v9.1.2 - kc ν) ≤ kc r0.1.2 - kc ν0; omega, by show (ks ν - ks ν0) + (ks v9.1.2 - ks ν) ≤ ks r0.1.2 - ks ν0; omega⟩ (fun u hp hx => ?_)
      obtain ⟨A1, rfl, hkp⟩ := hp
      try dsimp only [List.append_nil]
      refine g_widen (k := kc v9.1.2 - kc ν0) (n := ks v9.1.2 - ks ν0) (by omega) (by omega) ?_
      rw [show Ad 0 0 = A1 0 0 from (hkp.1 0 _ rfl (of_decide_eq_true g7)).symm]
      exact lb_X8_workOff_86 C hEv hr hz (mn_trans hm0 m2) (kp_trans hp0 hm0 hkp)   h
    replace h := (if_neg w9_6).symm.trans h
    by_cases w9_7 : (μ.1 6 (p2 - 1) 0) = (7 : Int32)
    · replace h := (if_pos w9_7).symm.trans h
      refine g_tswI (v := (7 : Int32)) (off := 80) (tgt := 89) C dX8_workOff_9 w9_7 (by decide) (by decide) (by decide) ?_
      refine g_aload_n C dX8_workOff_89 rfl 0 rfl ?_
      refine g_aload_n C dX8_workOff_90 rfl 0 rfl ?_
      refine g_aload_n C dX8_workOff_91 rfl 2 rfl ?_
      refine g_bipush (v := (41 : Int32)) C dX8_workOff_92 (by decide) ?_
      obtain ⟨v10, hv10, h⟩ := bind_of h
      refine g_cVi (n := 1) (exc := []) (exr := []) C [_] _ rfl rfl [] [] rfl rfl rfl rfl (fun _ h => absurd h (by simp)) (fun _ h => absurd h (by simp)) (fun _ h => absurd h (by simp)) (fun sz => c_X3_valueOf l μ ν a Ad w (p2 - 1) (41 : Int32) _ hv10 D E sz) rfl gw_558 gw_18 gw_555 gw_556 gw_557 ⟨by decide +kernel, by decide +kernel, by decide +kernel⟩ ⟨rfl, rfl⟩ ⟨Nat.le_of_ble_eq_true rfl, Nat.le_of_ble_eq_true rfl⟩ (rcvT (lvZ g1 rfl) rfl rfl rfl) (by first | exact Nat.le_of_ble_eq_true rfl | simp [nv_cat, cat_i, cat_r, cat_n]) dX8_workOff_94 ⟨by show (kc ν - kc ν0) + 0 ≤ kc r0.1.2 - kc ν0; omega, by show (ks ν - ks ν0) + 0 ≤ ks r0.1.2 - ks ν0; omega⟩ (fun r u hp hx => ?_)
      obtain ⟨er, rfl⟩ := hp
      rw [er]
      try dsimp only [List.append_nil]
      obtain ⟨g11, h⟩ := of_guard h
      obtain ⟨v12, hv12, h⟩ := bind_of h
      refine g_cVq (n := 1) (exc := []) (exr := []) C [_] _ rfl rfl [] [] rfl rfl rfl rfl (fun _ h => absurd h (by simp)) (fun _ h => absurd h (by simp)) (fun _ h => absurd h (by simp)) (fun sz => c_X8_findOrder l μ ν a Ad w v10 _ hv12 D E sz) rfl gw_575 gw_1 gw_572 gw_574 gs_13 ⟨by decide +kernel, by decide +kernel, by decide +kernel⟩ ⟨rfl, rfl⟩ ⟨Nat.le_of_ble_eq_true rfl, Nat.le_of_ble_eq_true rfl⟩ (rcvT (lvZ g11 rfl) rfl rfl rfl) (by first | exact Nat.le_of_ble_eq_true rfl | simp [nv_cat, cat_i, cat_r, cat_n]) dX8_workOff_97 ⟨by show (kc ν - kc ν0) + 0 ≤ kc r0.1.2 - kc ν0; omega, by show (ks ν - ks ν0) + 0 ≤ ks r0.1.2 - ks ν0; omega⟩ (fun r u hp hx => ?_)
      obtain ⟨er, rfl⟩ := hp
      rw [er]
      try dsimp only [List.append_nil]
      refine g_aload_n C dX8_workOff_100 rfl 2 rfl ?_
      obtain ⟨v13, hv13, h⟩ := bind_of h
      have m2 := m_X8_houseReplaces hv13
      have m3 := mb_X8_workOff_104  h
      have a1 := hm0.2.1; have a2 := hm0.2.2.1; have b1 := m2.2.1; have b2 := m2.2.2.1; have d1 := m3.2.1; have d2 := m3.2.2.1
      refine g_lv [0] rfl ?_
      refine g_cVve (n := 2) (exc := []) (exr := []) C hEv ⟨hp0.2.1 0, hp0.2.2 0⟩ [_, _] _ rfl rfl [] [] rfl rfl rfl rfl (fun _ h => absurd h (by simp)) (fun _ h => absurd h (by simp)) (fun _ h => absurd h (by simp)) (fun sz => c_X8_houseReplaces l B μ ν a Ad w v12 ((p2 - 1) + 1) _ hv13 D E sz) rfl gw_948 gw_1 gw_945 gw_947 gs_29 ⟨by decide +kernel, by decide +kernel, by decide +kernel⟩ ⟨rfl, rfl⟩ ⟨Nat.le_of_ble_eq_true rfl, Nat.le_of_ble_eq_true rfl⟩ (rcvT (lvZ g11 rfl) rfl rfl rfl) (by first | exact Nat.le_of_ble_eq_true rfl | simp [nv_cat, cat_i, cat_r, cat_n]) dX8_workOff_101 ⟨by show (kc ν - kc ν0) + (kc v13.1.2 - kc ν) ≤ kc r0.1.2 - kc ν0; omega, by show (ks ν - ks ν0) + (ks v13.1.2 - ks ν) ≤ ks r0.1.2 - ks ν0; omega⟩ (fun u hp hx => ?_)
      obtain ⟨A1, rfl, hkp⟩ := hp
      try dsimp only [List.append_nil]
      refine g_widen (k := kc v13.1.2 - kc ν0) (n := ks v13.1.2 - ks ν0) (by omega) (by omega) ?_
      rw [show Ad 0 0 = A1 0 0 from (hkp.1 0 _ rfl (of_decide_eq_true g11)).symm]
      exact lb_X8_workOff_104 C hEv hr hz (mn_trans hm0 m2) (kp_trans hp0 hm0 hkp)   h
    replace h := (if_neg w9_7).symm.trans h
    by_cases w9_8 : (μ.1 6 (p2 - 1) 0) = (8 : Int32)
    · replace h := (if_pos w9_8).symm.trans h
      refine g_tswI (v := (8 : Int32)) (off := 98) (tgt := 107) C dX8_workOff_9 w9_8 (by decide) (by decide) (by decide) ?_
      refine g_aload_n C dX8_workOff_107 rfl 0 rfl ?_
      refine g_aload_n C dX8_workOff_108 rfl 2 rfl ?_
      obtain ⟨g14, h⟩ := of_guard h
      obtain ⟨v15, hv15, h⟩ := bind_of h
      refine g_cVv (n := 1) (exc := []) (exr := []) C [_] _ rfl rfl [] [] rfl rfl rfl rfl (fun _ h => absurd h (by simp)) (fun _ h => absurd h (by simp)) (fun _ h => absurd h (by simp)) (fun sz => c_X8_traderReads l μ ν a Ad w ((p2 - 1) + 1) _ hv15 D E sz) rfl gw_952 gw_1 gw_949 gw_951 gs_30 ⟨by decide +kernel, by decide +kernel, by decide +kernel⟩ ⟨rfl, rfl⟩ ⟨Nat.le_of_ble_eq_true rfl, Nat.le_of_ble_eq_true rfl⟩ (rcvT (lvZ g14 rfl) rfl rfl rfl) (by first | exact Nat.le_of_ble_eq_true rfl | simp [nv_cat, cat_i, cat_r, cat_n]) dX8_workOff_109 ⟨by show (kc ν - kc ν0) + 0 ≤ kc r0.1.2 - kc ν0; omega, by show (ks ν - ks ν0) + 0 ≤ ks r0.1.2 - ks ν0; omega⟩ (fun u hp hx => ?_)
      obtain rfl := hp
      try dsimp only [List.append_nil]
      refine g_goto (tgt := 115) C dX8_workOff_112 (by decide) ?_
      obtain rfl := Option.some.inj h
      exact g_vret C hr hz ⟨(hm0.2.2.2 30 (by decide) (by decide)).1, (hm0.2.2.2 31 (by decide) (by decide)).1, hp0.2.1, hp0.2.2⟩ ⟨Ad, rfl, hp0⟩ (fun j x h => by simp at h) dX8_workOff_115
    replace h := (if_neg w9_8).symm.trans h
    replace w9_2 := ne_i (n := 2) w9_2 (by decide)
    replace w9_3 := ne_i (n := 3) w9_3 (by decide)
    replace w9_4 := ne_i (n := 4) w9_4 (by decide)
    replace w9_5 := ne_i (n := 5) w9_5 (by decide)
    replace w9_6 := ne_i (n := 6) w9_6 (by decide)
    replace w9_7 := ne_i (n := 7) w9_7 (by decide)
    replace w9_8 := ne_i (n := 8) w9_8 (by decide)
    refine g_tswO (tgt := 115) C dX8_workOff_9 (by omega) (by decide) ?_
    obtain rfl := Option.some.inj h
    exact g_vret C hr hz ⟨(hm0.2.2.2 30 (by decide) (by decide)).1, (hm0.2.2.2 31 (by decide) (by decide)).1, hp0.2.1, hp0.2.2⟩ ⟨Ad, rfl, hp0⟩ (fun j x h => by simp at h) dX8_workOff_115
theorem m_X8_workOff {w : Nat} {μ : MP} {ν : NC} {x1 : Int32} {p2 : Nat} {r0 : (MP × NC) × Int32} (h : f_X8_workOff w μ ν x1 p2 = some r0) : mn ν r0.1.2 := mb_X8_workOff_0 h
theorem c_X8_workOff (l : Launch) (B : Nat × (Nat → Nat)) (μ : MP) (ν : NC) (a : AS) (Ad : Nat → Nat → Nat) (w : Nat) (x1 : Int32) (p2 : Nat) (r0 : (MP × NC) × Int32) (h : f_X8_workOff w μ ν x1 p2 = some r0) : ∀ D E sz, Met l yX8_workOff gwX8_workOff ({ frames := 10, cells := kc r0.1.2 - kc ν, slots := ks r0.1.2 - ks ν, locals := 296 } : Room) (cPe D E sz B (zS μ ν a Ad) [] [] [.ref (Ad 0 0), .int x1, nv (Ad 6) p2]) (cQ D E sz (zS μ ν a Ad) [] (pV (fun u => ∃ A1, u = (zS r0.1.1 r0.1.2 a A1, []) ∧ kp ν Ad A1))) (kc r0.1.2 - kc ν) (ks r0.1.2 - ks ν) (Aof (zS μ ν a Ad) [] sz) := by
  intro D E sz
  refine g_ofe (cc := cX8_workOff) (maxL := 3) (ret := none) (own := "TradeLine") (by decide) rfl rfl (by cases p2 <;> exact Nat.le_of_ble_eq_true rfl) ?_
  intro p e s m args below meth c C hr hin hz ha hwr hEv
  refine g_lv (lv' := [(0, .ref (Ad 0 0)), (1, .int x1), (2, nv (Ad 6) p2)]) [0, 1, 2] (by cases p2 <;> rfl) ?_
  refine g_widen (k := kc ν - kc ν) (n := ks ν - ks ν) (Nat.zero_le _) (Nat.zero_le _) ?_
  exact lb_X8_workOff_0 C hEv hr hz (mn_rfl _) (kp_rfl _ _) h
noncomputable def b_X8_workInTurn_81 (k32 : MP → NC → Int32 → Nat → Nat → Int32 → Int32 → Int32 → Option ((MP × NC) × Int32)) (w : Nat) (μ : MP) (ν : NC) (x1 : Int32) (p3 : Nat) (p4 : Nat) (x6 : Int32) (x7 : Int32) (x8 : Int32) : Option ((MP × NC) × Int32) := bif nzB p3 then bif ltB (p3 - 1) (ν.2 1) then bif ltB (p3 - 1) (ν.2 3) then (f_X0_dropBetween w μ ν (p3 - 1) x8 (μ.1 1 (p3 - 1) 4)).bind (fun v16 => (f_X0_take w v16.1 ν (p3 - 1) (v16.1.1 1 (p3 - 1) 4)).bind (fun v17 => yl (v17.2) (fun t18 => yl (x7 + (1 : Int32)) (fun t19 => k32 v17.1 ν x1 ((p3 - 1) + 1) p4 t18 x6 t19)))) else none else none else none
theorem mb_X8_workInTurn_81 {w : Nat} {μ : MP} {ν : NC} {x1 : Int32} {p3 : Nat} {p4 : Nat} {x6 : Int32} {x7 : Int32} {x8 : Int32} {r0 : (MP × NC) × Int32} {k32 : MP → NC → Int32 → Nat → Nat → Int32 → Int32 → Int32 → Option ((MP × NC) × Int32)} (hmk32 : ∀ (μ : MP) (ν : NC) (z1 : Int32) (z3 : Nat) (z4 : Nat) (z5 : Int32) (z6 : Int32) (z7 : Int32), k32 μ ν z1 z3 z4 z5 z6 z7 = some r0 → mn ν r0.1.2) (h : b_X8_workInTurn_81 k32 w μ ν x1 p3 p4 x6 x7 x8 = some r0) : mn ν r0.1.2 := by
  unfold b_X8_workInTurn_81 at h
  iterate 40 (try first | (with_reducible replace h := (of_guard h).2) | (with_reducible (replace h := of_guardP h; obtain ⟨hg, h⟩ := h)) | (with_reducible replace h := yl_of h rfl) | (with_reducible replace h := (of_thr h).2) | (with_reducible (replace h := bind_of h; obtain ⟨v, hv, h⟩ := h)) | (with_reducible split at h) | (with_reducible (exact hmk32 _ _ _ _ _ _ _ _ h)) | (with_reducible exact absurd (congrArg Prod.fst (Option.some.inj h)) (by simp)))
set_option maxHeartbeats 4000000 in
set_option maxRecDepth 100000 in
theorem lb_X8_workInTurn_81 {p : Program} {l : Launch} {e : Env} {s : State} {m : MethodId} {args : Array Value} {below : List Frame} {meth : Method} {c : Code} {D : va_G} {E : Nat → ClassId} {sz : Nat} {μ0 : MP} {ν0 : NC} {a : AS} {Ad0 : Nat → Nat → Nat} {w : Nat} {B : Nat × (Nat → Nat)} {r0 : (MP × NC) × Int32} (C : cx p s m args meth c D E (Aof (zS μ0 ν0 a Ad0) [] s.heap.size) cX8_workInTurn 9 "TradeLine") (hEv : eV (Ad0 30 0) (Ad0 31 0) B (Aof (zS μ0 ν0 a Ad0) [] s.heap.size) s s.heap) (hr : meth.sig.returnType = none) (hz : s.heap.size = sz) {μ : MP} {ν : NC} {Ad : Nat → Nat → Nat} (hm0 : mn ν0 ν) (hp0 : kp ν0 Ad0 Ad) {x1 : Int32} {p3 : Nat} {p4 : Nat} {x6 : Int32} {x7 : Int32} {x8 : Int32} {k32 : MP → NC → Int32 → Nat → Nat → Int32 → Int32 → Int32 → Option ((MP × NC) × Int32)} (hmk32 : ∀ (μ : MP) (ν : NC) (z1 : Int32) (z3 : Nat) (z4 : Nat) (z5 : Int32) (z6 : Int32) (z7 : Int32), k32 μ ν z1 z3 z4 z5 z6 z7 = some r0 → mn ν r0.1.2) (hk32 : ∀ (μ : MP) (ν : NC) (Ad : Nat → Nat → Nat) (z1 : Int32) (z3 : Nat) (z4 : Nat) (z5 : Int32) (z6 : Int32) (z7 : Int32), mn ν0 ν → kp ν0 Ad0 Ad → k32 μ ν z1 z3 z4 z5 z6 z7 = some r0 → G p l e ({ frames := 11, cells := kc r0.1.2 - kc ν0, slots := ks r0.1.2 - ks ν0, locals := 318 } : Room) s m args below meth c D E (Aof (zS μ0 ν0 a Ad0) [] s.heap.size) 9 (MQ below (cQ D E sz (zS μ0 ν0 a Ad0) [] (pV (fun u => ∃ A1, u = (zS r0.1.1 r0.1.2 a A1, []) ∧ kp ν0 Ad0 A1))) args s (kc r0.1.2 - kc ν0) (ks r0.1.2 - ks ν0) (Aof (zS μ0 ν0 a Ad0) [] s.heap.size)) (zS μ ν a Ad) [] (kc ν - kc ν0) (ks ν - ks ν0) 32 [(0, .ref (Ad 0 0)), (1, .int z1), (3, nv (Ad 1) z3), (4, nv (Ad 1) z4), (5, .int z5), (6, .int z6), (7, .int z7)] []) (h : b_X8_workInTurn_81 k32 w μ ν x1 p3 p4 x6 x7 x8 = some r0) : G p l e ({ frames := 11, cells := kc r0.1.2 - kc ν0, slots := ks r0.1.2 - ks ν0, locals := 318 } : Room) s m args below meth c D E (Aof (zS μ0 ν0 a Ad0) [] s.heap.size) 9 (MQ below (cQ D E sz (zS μ0 ν0 a Ad0) [] (pV (fun u => ∃ A1, u = (zS r0.1.1 r0.1.2 a A1, []) ∧ kp ν0 Ad0 A1))) args s (kc r0.1.2 - kc ν0) (ks r0.1.2 - ks ν0) (Aof (zS μ0 ν0 a Ad0) [] s.heap.size)) (zS μ ν a Ad) [] (kc ν - kc ν0) (ks ν - ks ν0) 81 [(0, .ref (Ad 0 0)), (1, .int x1), (3, nv (Ad 1) p3), (4, nv (Ad 1) p4), (6, .int x6), (7, .int x7), (8, .int x8)] [] := by
  have m0 := mb_X8_workInTurn_81 hmk32 h
  have e1 := m0.2.1; have e2 := m0.2.2.1; have e3 := hm0.2.1; have e4 := hm0.2.2.1
  unfold b_X8_workInTurn_81 at h
  refine z_aload_n C dX8_workInTurn_81 rfl 2 rfl (nv_or _ _) ?_
  obtain ⟨g13, h⟩ := of_guard h
  rw [nzB_e g13]
  obtain ⟨g14, h⟩ := of_guard h
  refine g_get (k := 1) (i := (p3 - 1)) (ref := "TradeLine$Party") (v := .ref (Ad 3 (p3 - 1))) C rfl (lvZ g14 rfl) rfl rfl inGX5 2 (by decide) gw_116 (fun _ h => h) rfl dX8_workInTurn_82 ?_
  refine g_iload C dX8_workInTurn_85 6 rfl ?_
  refine g_aload_n C dX8_workInTurn_87 rfl 2 rfl ?_
  refine g_get (k := 1) (i := (p3 - 1)) (ref := "TradeLine$Party") (v := .int (μ.1 1 (p3 - 1) 4)) C rfl (lvZ g14 rfl) rfl rfl inGX5 4 (by decide) gw_120 (fun _ h => h) rfl dX8_workInTurn_88 ?_
  obtain ⟨g15, h⟩ := of_guard h
  obtain ⟨v16, hv16, h⟩ := bind_of h
  refine g_cVv (n := 2) (exc := []) (exr := []) C [_, _] _ rfl rfl [] [] rfl rfl rfl rfl (fun _ h => absurd h (by simp)) (fun _ h => absurd h (by simp)) (fun _ h => absurd h (by simp)) (fun sz => c_X0_dropBetween l μ ν a Ad w (p3 - 1) x8 (μ.1 1 (p3 - 1) 4) _ hv16 D E sz) rfl gw_987 gw_7 gw_984 gw_985 gw_986 ⟨by decide +kernel, by decide +kernel, by decide +kernel⟩ ⟨rfl, rfl⟩ ⟨Nat.le_of_ble_eq_true rfl, Nat.le_of_ble_eq_true rfl⟩ (rcvT (lvZ g15 rfl) rfl rfl rfl) (by first | exact Nat.le_of_ble_eq_true rfl | simp [nv_cat, cat_i, cat_r, cat_n]) dX8_workInTurn_91 ⟨by show (kc ν - kc ν0) + 0 ≤ kc r0.1.2 - kc ν0; omega, by show (ks ν - ks ν0) + 0 ≤ ks r0.1.2 - ks ν0; omega⟩ (fun u hp hx => ?_)
  obtain rfl := hp
  try dsimp only [List.append_nil]
  refine g_aload_n C dX8_workInTurn_94 rfl 2 rfl ?_
  refine g_get (k := 1) (i := (p3 - 1)) (ref := "TradeLine$Party") (v := .ref (Ad 3 (p3 - 1))) C rfl (lvZ g14 rfl) rfl rfl inGX5 2 (by decide) gw_116 (fun _ h => h) rfl dX8_workInTurn_95 ?_
  refine g_aload_n C dX8_workInTurn_98 rfl 2 rfl ?_
  refine g_get (k := 1) (i := (p3 - 1)) (ref := "TradeLine$Party") (v := .int (v16.1.1 1 (p3 - 1) 4)) C rfl (lvZ g14 rfl) rfl rfl inGX5 4 (by decide) gw_120 (fun _ h => h) rfl dX8_workInTurn_99 ?_
  obtain ⟨v17, hv17, h⟩ := bind_of h
  refine g_cVi (n := 1) (exc := []) (exr := []) C [_] _ rfl rfl [] [] rfl rfl rfl rfl (fun _ h => absurd h (by simp)) (fun _ h => absurd h (by simp)) (fun _ h => absurd h (by simp)) (fun sz => c_X0_take l v16.1 ν a Ad w (p3 - 1) (v16.1.1 1 (p3 - 1) 4) _ hv17 D E sz) rfl gw_991 gw_7 gw_992 gw_989 gw_990 ⟨by decide +kernel, by decide +kernel, by decide +kernel⟩ ⟨rfl, rfl⟩ ⟨Nat.le_of_ble_eq_true rfl, Nat.le_of_ble_eq_true rfl⟩ (rcvT (lvZ g15 rfl) rfl rfl rfl) (by first | exact Nat.le_of_ble_eq_true rfl | simp [nv_cat, cat_i, cat_r, cat_n]) dX8_workInTurn_102 ⟨by show (kc ν - kc ν0) + 0 ≤ kc r0.1.2 - kc ν0; omega, by show (ks ν - ks ν0) + 0 ≤ ks r0.1.2 - ks ν0; omega⟩ (fun r u hp hx => ?_)
  obtain ⟨er, rfl⟩ := hp
  rw [er]
  try dsimp only [List.append_nil]
  refine q_topi (fun t18 et18 => ?_)
  replace h := yl_of h et18
  refine g_istore (lv' := [(5, .int t18), (0, .ref (Ad 0 0)), (1, .int x1), (3, .ref (Ad 1 (p3 - 1))), (4, nv (Ad 1) p4), (6, .int x6), (7, .int x7), (8, .int x8)]) C dX8_workInTurn_105 (by decide) (by simp [nv_cat, cat_i, cat_r, cat_n]) ?_
  obtain ⟨t19, et19⟩ : ∃ y : Int32, x7 + (1 : Int32) = y := ⟨_, rfl⟩
  replace h := yl_of h et19
  refine g_iinc (v := t19) (lv' := [(7, .int t19), (5, .int t18), (0, .ref (Ad 0 0)), (1, .int x1), (3, .ref (Ad 1 (p3 - 1))), (4, nv (Ad 1) p4), (6, .int x6), (8, .int x8)]) C dX8_workInTurn_107 6 rfl (by rw [← et19]; rfl) (by decide) (by simp [nv_cat, cat_i, cat_r, cat_n]) ?_
  refine g_goto (tgt := 32) C dX8_workInTurn_110 (by decide) ?_
  refine g_lv [2, 3, 4, 5, 1, 6, 0] rfl ?_
  exact hk32 _ _ _ _ _ _ _ _ _ hm0 hp0 h
noncomputable def b_X8_workInTurn_32 (k32 : MP → NC → Int32 → Nat → Nat → Int32 → Int32 → Int32 → Option ((MP × NC) × Int32)) (w : Nat) (μ : MP) (ν : NC) (x1 : Int32) (p3 : Nat) (p4 : Nat) (x5 : Int32) (x6 : Int32) (x7 : Int32) : Option ((MP × NC) × Int32) := (if x6 ≤ x7 then (some ((μ, ν), (0 : Int32))) else ((if x5 = (0 : Int32) then (some ((μ, ν), (0 : Int32))) else (bif nzB p3 then bif ltB (p3 - 1) (ν.2 1) then yl ((μ.1 1 (p3 - 1) 4)) (fun t11 => yl (uM μ 1 (p3 - 1) 4 (if (t11 + (1 : Int32)) < x5 then x5 else (t11 + (1 : Int32)))) (fun m12 => (if x5 = (1 : Int32) then (bif nzB p4 then bif ltB (p4 - 1) (ν.2 1) then (f_X5_message w m12 ν (p4 - 1) t11).bind (fun v22 => bif ltB 0 (ν.2 0) then (f_X8_workOff w m12 ν x1 v22).bind (fun v24 => b_X8_workInTurn_81 k32 w v24.1.1 v24.1.2 x1 ((p3 - 1) + 1) ((p4 - 1) + 1) x6 x7 t11) else none) else none else none) else (b_X8_workInTurn_81 k32 w m12 ν x1 ((p3 - 1) + 1) p4 x6 x7 t11)))) else none else none))))
theorem mb_X8_workInTurn_32 {w : Nat} {μ : MP} {ν : NC} {x1 : Int32} {p3 : Nat} {p4 : Nat} {x5 : Int32} {x6 : Int32} {x7 : Int32} {r0 : (MP × NC) × Int32} {k32 : MP → NC → Int32 → Nat → Nat → Int32 → Int32 → Int32 → Option ((MP × NC) × Int32)} (hmk32 : ∀ (μ : MP) (ν : NC) (z1 : Int32) (z3 : Nat) (z4 : Nat) (z5 : Int32) (z6 : Int32) (z7 : Int32), k32 μ ν z1 z3 z4 z5 z6 z7 = some r0 → mn ν r0.1.2) (h : b_X8_workInTurn_32 k32 w μ ν x1 p3 p4 x5 x6 x7 = some r0) : mn ν r0.1.2 := by
  unfold b_X8_workInTurn_32 at h
  iterate 40 (try first | (with_reducible replace h := (of_guard h).2) | (with_reducible (replace h := of_guardP h; obtain ⟨hg, h⟩ := h)) | (with_reducible replace h := yl_of h rfl) | (with_reducible replace h := (of_thr h).2) | (with_reducible (replace h := bind_of h; obtain ⟨v, hv, h⟩ := h)) | (with_reducible split at h) | (with_reducible (replace h := Option.some.inj h; obtain rfl := h; exact mn_rfl _)) | (with_reducible (exact mb_X8_workInTurn_81 hmk32 h)) | (with_reducible (exact mn_trans (m_X8_workOff hv) (mb_X8_workInTurn_81 hmk32 h))) | (with_reducible exact absurd (congrArg Prod.fst (Option.some.inj h)) (by simp)))
set_option maxHeartbeats 4000000 in
set_option maxRecDepth 100000 in
theorem lb_X8_workInTurn_32 {p : Program} {l : Launch} {e : Env} {s : State} {m : MethodId} {args : Array Value} {below : List Frame} {meth : Method} {c : Code} {D : va_G} {E : Nat → ClassId} {sz : Nat} {μ0 : MP} {ν0 : NC} {a : AS} {Ad0 : Nat → Nat → Nat} {w : Nat} {B : Nat × (Nat → Nat)} {r0 : (MP × NC) × Int32} (C : cx p s m args meth c D E (Aof (zS μ0 ν0 a Ad0) [] s.heap.size) cX8_workInTurn 9 "TradeLine") (hEv : eV (Ad0 30 0) (Ad0 31 0) B (Aof (zS μ0 ν0 a Ad0) [] s.heap.size) s s.heap) (hr : meth.sig.returnType = none) (hz : s.heap.size = sz) {μ : MP} {ν : NC} {Ad : Nat → Nat → Nat} (hm0 : mn ν0 ν) (hp0 : kp ν0 Ad0 Ad) {x1 : Int32} {p3 : Nat} {p4 : Nat} {x5 : Int32} {x6 : Int32} {x7 : Int32} {k32 : MP → NC → Int32 → Nat → Nat → Int32 → Int32 → Int32 → Option ((MP × NC) × Int32)} (hmk32 : ∀ (μ : MP) (ν : NC) (z1 : Int32) (z3 : Nat) (z4 : Nat) (z5 : Int32) (z6 : Int32) (z7 : Int32), k32 μ ν z1 z3 z4 z5 z6 z7 = some r0 → mn ν r0.1.2) (hk32 : ∀ (μ : MP) (ν : NC) (Ad : Nat → Nat → Nat) (z1 : Int32) (z3 : Nat) (z4 : Nat) (z5 : Int32) (z6 : Int32) (z7 : Int32), mn ν0 ν → kp ν0 Ad0 Ad → k32 μ ν z1 z3 z4 z5 z6 z7 = some r0 → G p l e ({ frames := 11, cells := kc r0.1.2 - kc ν0, slots := ks r0.1.2 - ks ν0, locals := 318 } : Room) s m args below meth c D E (Aof (zS μ0 ν0 a Ad0) [] s.heap.size) 9 (MQ below (cQ D E sz (zS μ0 ν0 a Ad0) [] (pV (fun u => ∃ A1, u = (zS r0.1.1 r0.1.2 a A1, []) ∧ kp ν0 Ad0 A1))) args s (kc r0.1.2 - kc ν0) (ks r0.1.2 - ks ν0) (Aof (zS μ0 ν0 a Ad0) [] s.heap.size)) (zS μ ν a Ad) [] (kc ν - kc ν0) (ks ν - ks ν0) 32 [(0, .ref (Ad 0 0)), (1, .int z1), (3, nv (Ad 1) z3), (4, nv (Ad 1) z4), (5, .int z5), (6, .int z6), (7, .int z7)] []) (h : b_X8_workInTurn_32 k32 w μ ν x1 p3 p4 x5 x6 x7 = some r0) : G p l e ({ frames := 11, cells := kc r0.1.2 - kc ν0, slots := ks r0.1.2 - ks ν0, locals := 318 } : Room) s m args below meth c D E (Aof (zS μ0 ν0 a Ad0) [] s.heap.size) 9 (MQ below (cQ D E sz (zS μ0 ν0 a Ad0) [] (pV (fun u => ∃ A1, u = (zS r0.1.1 r0.1.2 a A1, []) ∧ kp ν0 Ad0 A1))) args s (kc r0.1.2 - kc ν0) (ks r0.1.2 - ks ν0) (Aof (zS μ0 ν0 a Ad0) [] s.heap.size)) (zS μ ν a Ad) [] (kc ν - kc ν0) (ks ν - ks ν0) 32 [(0, .ref (Ad 0 0)), (1, .int x1), (3, nv (Ad 1) p3), (4, nv (Ad 1) p4), (5, .int x5), (6, .int x6), (7, .int x7)] [] := by
  have m0 := mb_X8_workInTurn_32 hmk32 h
  have e1 := m0.2.1; have e2 := m0.2.2.1; have e3 := hm0.2.1; have e4 := hm0.2.2.1
  unfold b_X8_workInTurn_32 at h
  refine g_iload C dX8_workInTurn_32 6 rfl ?_
  refine g_iload C dX8_workInTurn_34 5 rfl ?_
  refine g_icmp_ge (tgt := 113) C dX8_workInTurn_36 (by decide) (fun c36 => ?_) (fun c36 => ?_)
  · replace h := (if_pos c36).symm.trans h
    obtain rfl := Option.some.inj h
    exact g_vret C hr hz ⟨(hm0.2.2.2 30 (by decide) (by decide)).1, (hm0.2.2.2 31 (by decide) (by decide)).1, hp0.2.1, hp0.2.2⟩ ⟨Ad, rfl, hp0⟩ (fun j x h => by simp at h) dX8_workInTurn_113
  · replace h := (if_neg c36).symm.trans h
    refine g_iload C dX8_workInTurn_39 4 rfl ?_
    refine g_if_eq (tgt := 113) C dX8_workInTurn_41 (by decide) (fun c41 => ?_) (fun c41 => ?_)
    · replace h := (if_pos c41).symm.trans h
      obtain rfl := Option.some.inj h
      exact g_vret C hr hz ⟨(hm0.2.2.2 30 (by decide) (by decide)).1, (hm0.2.2.2 31 (by decide) (by decide)).1, hp0.2.1, hp0.2.2⟩ ⟨Ad, rfl, hp0⟩ (fun j x h => by simp at h) dX8_workInTurn_113
    · replace h := (if_neg c41).symm.trans h
      refine z_aload_n C dX8_workInTurn_44 rfl 2 rfl (nv_or _ _) ?_
      obtain ⟨g9, h⟩ := of_guard h
      rw [nzB_e g9]
      obtain ⟨g10, h⟩ := of_guard h
      refine g_get (k := 1) (i := (p3 - 1)) (ref := "TradeLine$Party") (v := .int (μ.1 1 (p3 - 1) 4)) C rfl (lvZ g10 rfl) rfl rfl inGX5 4 (by decide) gw_120 (fun _ h => h) rfl dX8_workInTurn_45 ?_
      refine q_topi (fun t11 et11 => ?_)
      replace h := yl_of h et11
      refine g_istore (lv' := [(8, .int t11), (0, .ref (Ad 0 0)), (1, .int x1), (3, .ref (Ad 1 (p3 - 1))), (4, nv (Ad 1) p4), (5, .int x5), (6, .int x6), (7, .int x7)]) C dX8_workInTurn_48 (by decide) (by simp [nv_cat, cat_i, cat_r, cat_n]) ?_
      refine g_aload_n C dX8_workInTurn_50 rfl 3 rfl ?_
      refine g_iload C dX8_workInTurn_51 0 rfl ?_
      refine g_iconst (v := (1 : Int32)) C dX8_workInTurn_53 (by decide) ?_
      refine g_iadd C dX8_workInTurn_54 ?_
      refine g_iload C dX8_workInTurn_55 5 rfl ?_
      refine g_mmax C gw_563 gw_371 gw_19 gw_372 (Nat.le_of_ble_eq_true rfl) (Nat.le_of_ble_eq_true rfl) (by show kc ν - kc ν0 ≤ kc r0.1.2 - kc ν0; omega) (by show ks ν - ks ν0 ≤ ks r0.1.2 - ks ν0; omega) dX8_workInTurn_57 ?_
      refine z_put (k := 1) (i := (p3 - 1)) (ref := "TradeLine$Party") C rfl g10 rfl rfl rfl inGX5 tyX5 tyX5_ok nmX5 4 (by decide) gw_120 (fun _ h => h) rfl (tyX5_ok 4 (by decide)) rfl rfl (by simp [fvs]) (by simp [fvs, up1]) dX8_workInTurn_60 (fun m12 em12 => ?_)
      replace h := yl_of h em12
      refine g_iload C dX8_workInTurn_63 5 rfl ?_
      refine g_iconst (v := (1 : Int32)) C dX8_workInTurn_65 (by decide) ?_
      refine g_icmp_ne (tgt := 81) C dX8_workInTurn_66 (by decide) (fun c66 => ?_) (fun c66 => ?_)
      · replace h := (if_neg c66).symm.trans h
        refine g_lv [1, 2, 3, 4, 6, 7, 0] rfl ?_
        exact lb_X8_workInTurn_81 C hEv hr hz hm0 hp0  hmk32 hk32 h
      · replace h := (if_pos c66).symm.trans h
        refine g_aload_n C dX8_workInTurn_69 rfl 1 rfl ?_
        refine g_iload_n C dX8_workInTurn_70 rfl 2 rfl ?_
        refine z_aload C dX8_workInTurn_71 4 rfl (nv_or _ _) ?_
        refine g_iload C dX8_workInTurn_73 0 rfl ?_
        obtain ⟨g20, h⟩ := of_guard h
        rw [nzB_e g20]
        obtain ⟨g21, h⟩ := of_guard h
        obtain ⟨v22, hv22, h⟩ := bind_of h
        refine g_cVq (n := 1) (exc := []) (exr := []) C [_] _ rfl rfl [] [] rfl rfl rfl rfl (fun _ h => absurd h (by simp)) (fun _ h => absurd h (by simp)) (fun _ h => absurd h (by simp)) (fun sz => c_X5_message l m12 ν a Ad w (p4 - 1) t11 _ hv22 D E sz) rfl gw_538 gw_2 gw_535 gw_536 gw_537 ⟨by decide +kernel, by decide +kernel, by decide +kernel⟩ ⟨rfl, rfl⟩ ⟨Nat.le_of_ble_eq_true rfl, Nat.le_of_ble_eq_true rfl⟩ (rcvT (lvZ g21 rfl) rfl rfl rfl) (by first | exact Nat.le_of_ble_eq_true rfl | simp [nv_cat, cat_i, cat_r, cat_n]) dX8_workInTurn_75 ⟨by show (kc ν - kc ν0) + 0 ≤ kc r0.1.2 - kc ν0; omega, by show (ks ν - ks ν0) + 0 ≤ ks r0.1.2 - ks ν0; omega⟩ (fun r u hp hx => ?_)
        obtain ⟨er, rfl⟩ := hp
        rw [er]
        try dsimp only [List.append_nil]
        obtain ⟨g23, h⟩ := of_guard h
        obtain ⟨v24, hv24, h⟩ := bind_of h
        have m2 := m_X8_workOff hv24
        have m3 := mb_X8_workInTurn_81 hmk32 h
        have a1 := hm0.2.1; have a2 := hm0.2.2.1; have b1 := m2.2.1; have b2 := m2.2.2.1; have d1 := m3.2.1; have d2 := m3.2.2.1
        refine g_lv [1, 2, 3, 4, 6, 7, 0] rfl ?_
        refine g_cVve (n := 2) (exc := []) (exr := []) C hEv ⟨hp0.2.1 0, hp0.2.2 0⟩ [_, _] _ rfl rfl [] [] rfl rfl rfl rfl (fun _ h => absurd h (by simp)) (fun _ h => absurd h (by simp)) (fun _ h => absurd h (by simp)) (fun sz => c_X8_workOff l B m12 ν a Ad w x1 v22 _ hv24 D E sz) rfl gw_595 gw_1 gw_592 gw_594 gs_16 ⟨by decide +kernel, by decide +kernel, by decide +kernel⟩ ⟨rfl, rfl⟩ ⟨Nat.le_of_ble_eq_true rfl, Nat.le_of_ble_eq_true rfl⟩ (rcvT (lvZ g23 rfl) rfl rfl rfl) (by first | exact Nat.le_of_ble_eq_true rfl | simp [nv_cat, cat_i, cat_r, cat_n]) dX8_workInTurn_78 ⟨by show (kc ν - kc ν0) + (kc v24.1.2 - kc ν) ≤ kc r0.1.2 - kc ν0; omega, by show (ks ν - ks ν0) + (ks v24.1.2 - ks ν) ≤ ks r0.1.2 - ks ν0; omega⟩ (fun u hp hx => ?_)
        obtain ⟨A1, rfl, hkp⟩ := hp
        try dsimp only [List.append_nil]
        refine g_widen (k := kc v24.1.2 - kc ν0) (n := ks v24.1.2 - ks ν0) (by omega) (by omega) ?_
        rw [show Ad 0 0 = A1 0 0 from (hkp.1 0 _ rfl (of_decide_eq_true g23)).symm]
        rw [show Ad 1 (p3 - 1) = A1 1 (p3 - 1) from (hkp.1 1 _ rfl (of_decide_eq_true g10)).symm]
        rw [show Ad 1 (p4 - 1) = A1 1 (p4 - 1) from (hkp.1 1 _ rfl (of_decide_eq_true g21)).symm]
        exact lb_X8_workInTurn_81 C hEv hr hz (mn_trans hm0 m2) (kp_trans hp0 hm0 hkp)  hmk32 hk32 h
noncomputable def l_X8_workInTurn_32  (w : Nat) : Nat → MP → NC → Int32 → Nat → Nat → Int32 → Int32 → Int32 → Option ((MP × NC) × Int32)
  | 0 => fun _ _ _ _ _ _ _ _ => none
  | n + 1 => fun μ ν x1 p3 p4 x5 x6 x7 => b_X8_workInTurn_32  (l_X8_workInTurn_32  w n) w μ ν x1 p3 p4 x5 x6 x7
theorem ml_X8_workInTurn_32 {w : Nat} {r0 : (MP × NC) × Int32}   : ∀ (n : Nat) (μ : MP) (ν : NC) (x1 : Int32) (p3 : Nat) (p4 : Nat) (x5 : Int32) (x6 : Int32) (x7 : Int32), l_X8_workInTurn_32  w n μ ν x1 p3 p4 x5 x6 x7 = some r0 → mn ν r0.1.2 := by
  intro n
  induction n with
  | zero => exact fun μ ν x1 p3 p4 x5 x6 x7 h => absurd (show (none : Option ((MP × NC) × Int32)) = some r0 from h) (by simp)
  | succ n ih => exact fun μ ν x1 p3 p4 x5 x6 x7 h => mb_X8_workInTurn_32 (w := w)  ih h
theorem ll_X8_workInTurn_32 {p : Program} {l : Launch} {e : Env} {s : State} {m : MethodId} {args : Array Value} {below : List Frame} {meth : Method} {c : Code} {D : va_G} {E : Nat → ClassId} {sz : Nat} {μ0 : MP} {ν0 : NC} {a : AS} {Ad0 : Nat → Nat → Nat} {w : Nat} {B : Nat × (Nat → Nat)} {r0 : (MP × NC) × Int32} (C : cx p s m args meth c D E (Aof (zS μ0 ν0 a Ad0) [] s.heap.size) cX8_workInTurn 9 "TradeLine") (hEv : eV (Ad0 30 0) (Ad0 31 0) B (Aof (zS μ0 ν0 a Ad0) [] s.heap.size) s s.heap) (hr : meth.sig.returnType = none) (hz : s.heap.size = sz)    : ∀ (n : Nat) (μ : MP) (ν : NC) (Ad : Nat → Nat → Nat) (x1 : Int32) (p3 : Nat) (p4 : Nat) (x5 : Int32) (x6 : Int32) (x7 : Int32), mn ν0 ν → kp ν0 Ad0 Ad → l_X8_workInTurn_32  w n μ ν x1 p3 p4 x5 x6 x7 = some r0 → G p l e ({ frames := 11, cells := kc r0.1.2 - kc ν0, slots := ks r0.1.2 - ks ν0, locals := 318 } : Room) s m args below meth c D E (Aof (zS μ0 ν0 a Ad0) [] s.heap.size) 9 (MQ below (cQ D E sz (zS μ0 ν0 a Ad0) [] (pV (fun u => ∃ A1, u = (zS r0.1.1 r0.1.2 a A1, []) ∧ kp ν0 Ad0 A1))) args s (kc r0.1.2 - kc ν0) (ks r0.1.2 - ks ν0) (Aof (zS μ0 ν0 a Ad0) [] s.heap.size)) (zS μ ν a Ad) [] (kc ν - kc ν0) (ks ν - ks ν0) 32 [(0, .ref (Ad 0 0)), (1, .int x1), (3, nv (Ad 1) p3), (4, nv (Ad 1) p4), (5, .int x5), (6, .int x6), (7, .int x7)] [] := by
  intro n
  induction n with
  | zero => exact fun μ ν Ad x1 p3 p4 x5 x6 x7 hm0 hp0 h => absurd (show (none : Option ((MP × NC) × Int32)) = some r0 from h) (by simp)
  | succ n ih => exact fun μ ν Ad x1 p3 p4 x5 x6 x7 hm0 hp0 h => lb_X8_workInTurn_32 (w := w) C hEv hr hz hm0 hp0   (ml_X8_workInTurn_32  n) ih h
noncomputable def f_X8_workInTurn  (w : Nat) (μ : MP) (ν : NC) (x1 : Int32) (x2 : Int32) : Option ((MP × NC) × Int32) := bif ltB 0 (ν.2 0) then (f_X8_party w μ ν x1).bind (fun v2 => (f_X8_otherSide w μ ν x1).bind (fun v3 => (f_X8_party w μ ν v3).bind (fun v4 => bif nzB v4 then bif ltB (v4 - 1) (ν.2 1) then bif ltB (v4 - 1) (ν.2 4) then yl ((μ.1 4 (v4 - 1) 2)) (fun t8 => l_X8_workInTurn_32  w w μ ν x1 v2 ((v4 - 1) + 1) x2 t8 (0 : Int32)) else none else none else none))) else none
theorem mb_X8_workInTurn_0 {w : Nat} {μ : MP} {ν : NC} {x1 : Int32} {x2 : Int32} {r0 : (MP × NC) × Int32}   (h : f_X8_workInTurn  w μ ν x1 x2 = some r0) : mn ν r0.1.2 := by
  unfold f_X8_workInTurn at h
  iterate 40 (try first | (with_reducible replace h := (of_guard h).2) | (with_reducible (replace h := of_guardP h; obtain ⟨hg, h⟩ := h)) | (with_reducible replace h := yl_of h rfl) | (with_reducible replace h := (of_thr h).2) | (with_reducible (replace h := bind_of h; obtain ⟨v, hv, h⟩ := h)) | (with_reducible split at h) | (with_reducible (exact ml_X8_workInTurn_32  _ _ _ _ _ _ _ _ _ h)) | (with_reducible exact absurd (congrArg Prod.fst (Option.some.inj h)) (by simp)))
set_option maxHeartbeats 4000000 in
set_option maxRecDepth 100000 in
theorem lb_X8_workInTurn_0 {p : Program} {l : Launch} {e : Env} {s : State} {m : MethodId} {args : Array Value} {below : List Frame} {meth : Method} {c : Code} {D : va_G} {E : Nat → ClassId} {sz : Nat} {μ0 : MP} {ν0 : NC} {a : AS} {Ad0 : Nat → Nat → Nat} {w : Nat} {B : Nat × (Nat → Nat)} {r0 : (MP × NC) × Int32} (C : cx p s m args meth c D E (Aof (zS μ0 ν0 a Ad0) [] s.heap.size) cX8_workInTurn 9 "TradeLine") (hEv : eV (Ad0 30 0) (Ad0 31 0) B (Aof (zS μ0 ν0 a Ad0) [] s.heap.size) s s.heap) (hr : meth.sig.returnType = none) (hz : s.heap.size = sz) {μ : MP} {ν : NC} {Ad : Nat → Nat → Nat} (hm0 : mn ν0 ν) (hp0 : kp ν0 Ad0 Ad) {x1 : Int32} {x2 : Int32}   (h : f_X8_workInTurn  w μ ν x1 x2 = some r0) : G p l e ({ frames := 11, cells := kc r0.1.2 - kc ν0, slots := ks r0.1.2 - ks ν0, locals := 318 } : Room) s m args below meth c D E (Aof (zS μ0 ν0 a Ad0) [] s.heap.size) 9 (MQ below (cQ D E sz (zS μ0 ν0 a Ad0) [] (pV (fun u => ∃ A1, u = (zS r0.1.1 r0.1.2 a A1, []) ∧ kp ν0 Ad0 A1))) args s (kc r0.1.2 - kc ν0) (ks r0.1.2 - ks ν0) (Aof (zS μ0 ν0 a Ad0) [] s.heap.size)) (zS μ ν a Ad) [] (kc ν - kc ν0) (ks ν - ks ν0) 0 [(0, .ref (Ad 0 0)), (1, .int x1), (2, .int x2)] [] := by
  have m0 := mb_X8_workInTurn_0  h
  have e1 := m0.2.1; have e2 := m0.2.2.1; have e3 := hm0.2.1; have e4 := hm0.2.2.1
  unfold f_X8_workInTurn at h
  refine g_aload_n C dX8_workInTurn_0 rfl 0 rfl ?_
  refine g_iload_n C dX8_workInTurn_1 rfl 1 rfl ?_
  obtain ⟨g1, h⟩ := of_guard h
  obtain ⟨v2, hv2, h⟩ := bind_of h
  refine g_cVq (n := 1) (exc := []) (exr := []) C [_] _ rfl rfl [] [] rfl rfl rfl rfl (fun _ h => absurd h (by simp)) (fun _ h => absurd h (by simp)) (fun _ h => absurd h (by simp)) (fun sz => c_X8_party l μ ν a Ad w x1 _ hv2 D E sz) rfl gw_304 gw_1 gw_301 gw_303 gs_2 ⟨by decide +kernel, by decide +kernel, by decide +kernel⟩ ⟨rfl, rfl⟩ ⟨Nat.le_of_ble_eq_true rfl, Nat.le_of_ble_eq_true rfl⟩ (rcvT (lvZ g1 rfl) rfl rfl rfl) (by first | exact Nat.le_of_ble_eq_true rfl | simp [nv_cat, cat_i, cat_r, cat_n]) dX8_workInTurn_2 ⟨by show (kc ν - kc ν0) + 0 ≤ kc r0.1.2 - kc ν0; omega, by show (ks ν - ks ν0) + 0 ≤ ks r0.1.2 - ks ν0; omega⟩ (fun r u hp hx => ?_)
  obtain ⟨er, rfl⟩ := hp
  rw [er]
  try dsimp only [List.append_nil]
  refine z_astore_n (i := 3) (lv' := [(3, nv (Ad 1) v2), (0, .ref (Ad 0 0)), (1, .int x1), (2, .int x2)]) C dX8_workInTurn_5 (nv_or _ _) rfl (by decide) (by simp [nv_cat, cat_i, cat_r, cat_n]) ?_
  refine g_aload_n C dX8_workInTurn_6 rfl 1 rfl ?_
  refine g_iload_n C dX8_workInTurn_7 rfl 2 rfl ?_
  obtain ⟨v3, hv3, h⟩ := bind_of h
  refine g_cSi (n := 1) (exc := []) (exr := []) C [_] _ rfl rfl [] [] rfl rfl rfl rfl (fun _ h => absurd h (by simp)) (fun _ h => absurd h (by simp)) (fun _ h => absurd h (by simp)) (fun sz => c_X8_otherSide l μ ν a Ad w x1 _ hv3 D E sz) rfl gw_409 gw_1 gw_407 gw_408 ⟨by decide +kernel, by decide +kernel, by decide +kernel⟩ ⟨rfl, rfl⟩ ⟨Nat.le_of_ble_eq_true rfl, Nat.le_of_ble_eq_true rfl⟩ (by first | exact Nat.le_of_ble_eq_true rfl | simp [nv_cat, cat_i, cat_r, cat_n]) dX8_workInTurn_8 ⟨by show (kc ν - kc ν0) + 0 ≤ kc r0.1.2 - kc ν0; omega, by show (ks ν - ks ν0) + 0 ≤ ks r0.1.2 - ks ν0; omega⟩ (fun r u hp hx => ?_)
  obtain ⟨er, rfl⟩ := hp
  rw [er]
  try dsimp only [List.append_nil]
  obtain ⟨v4, hv4, h⟩ := bind_of h
  refine g_cVq (n := 1) (exc := []) (exr := []) C [_] _ rfl rfl [] [] rfl rfl rfl rfl (fun _ h => absurd h (by simp)) (fun _ h => absurd h (by simp)) (fun _ h => absurd h (by simp)) (fun sz => c_X8_party l μ ν a Ad w v3 _ hv4 D E sz) rfl gw_304 gw_1 gw_301 gw_303 gs_2 ⟨by decide +kernel, by decide +kernel, by decide +kernel⟩ ⟨rfl, rfl⟩ ⟨Nat.le_of_ble_eq_true rfl, Nat.le_of_ble_eq_true rfl⟩ (rcvT (lvZ g1 rfl) rfl rfl rfl) (by first | exact Nat.le_of_ble_eq_true rfl | simp [nv_cat, cat_i, cat_r, cat_n]) dX8_workInTurn_11 ⟨by show (kc ν - kc ν0) + 0 ≤ kc r0.1.2 - kc ν0; omega, by show (ks ν - ks ν0) + 0 ≤ ks r0.1.2 - ks ν0; omega⟩ (fun r u hp hx => ?_)
  obtain ⟨er, rfl⟩ := hp
  rw [er]
  try dsimp only [List.append_nil]
  refine z_astore (lv' := [(4, nv (Ad 1) v4), (3, nv (Ad 1) v2), (0, .ref (Ad 0 0)), (1, .int x1), (2, .int x2)]) C dX8_workInTurn_14 (nv_or _ _) (by decide) (by simp [nv_cat, cat_i, cat_r, cat_n]) ?_
  refine g_iload_n C dX8_workInTurn_16 rfl 4 rfl ?_
  refine g_istore (lv' := [(5, .int x2), (4, nv (Ad 1) v4), (3, nv (Ad 1) v2), (0, .ref (Ad 0 0)), (1, .int x1), (2, .int x2)]) C dX8_workInTurn_17 (by decide) (by simp [nv_cat, cat_i, cat_r, cat_n]) ?_
  refine z_aload C dX8_workInTurn_19 1 rfl (nv_or _ _) ?_
  obtain ⟨g5, h⟩ := of_guard h
  rw [nzB_e g5]
  obtain ⟨g6, h⟩ := of_guard h
  refine g_get (k := 1) (i := (v4 - 1)) (ref := "TradeLine$Party") (v := .ref (Ad 4 (v4 - 1))) C rfl (lvZ g6 rfl) rfl rfl inGX5 0 (by decide) gw_112 (fun _ h => h) rfl dX8_workInTurn_21 ?_
  obtain ⟨g7, h⟩ := of_guard h
  refine g_cVi (n := 0) (exc := []) (exr := []) C [] _ rfl rfl [] [] rfl rfl rfl rfl (fun _ h => absurd h (by simp)) (fun _ h => absurd h (by simp)) (fun _ h => absurd h (by simp)) (fun sz => c_Jx4a65c_size_8abf5 l μ ν a Ad _ g7 D E sz) rfl gw_308 gw_5 gw_305 gw_306 gw_307 ⟨by decide +kernel, by decide +kernel, by decide +kernel⟩ ⟨rfl, rfl⟩ ⟨Nat.le_of_ble_eq_true rfl, Nat.le_of_ble_eq_true rfl⟩ (rcvT (lvZ g7 rfl) rfl rfl rfl) (by first | exact Nat.le_of_ble_eq_true rfl | simp [nv_cat, cat_i, cat_r, cat_n]) dX8_workInTurn_24 ⟨by show (kc ν - kc ν0) + 0 ≤ kc r0.1.2 - kc ν0; omega, by show (ks ν - ks ν0) + 0 ≤ ks r0.1.2 - ks ν0; omega⟩ (fun r u hp hx => ?_)
  obtain ⟨er, rfl⟩ := hp
  rw [er]
  try dsimp only [List.append_nil]
  refine q_topi (fun t8 et8 => ?_)
  replace h := yl_of h et8
  refine g_istore (lv' := [(6, .int t8), (5, .int x2), (4, .ref (Ad 1 (v4 - 1))), (3, nv (Ad 1) v2), (0, .ref (Ad 0 0)), (1, .int x1), (2, .int x2)]) C dX8_workInTurn_27 (by decide) (by simp [nv_cat, cat_i, cat_r, cat_n]) ?_
  refine g_iconst (v := (0 : Int32)) C dX8_workInTurn_29 (by decide) ?_
  refine g_istore (lv' := [(7, .int (0 : Int32)), (6, .int t8), (5, .int x2), (4, .ref (Ad 1 (v4 - 1))), (3, nv (Ad 1) v2), (0, .ref (Ad 0 0)), (1, .int x1), (2, .int x2)]) C dX8_workInTurn_30 (by decide) (by simp [nv_cat, cat_i, cat_r, cat_n]) ?_
  refine g_lv [5, 6, 4, 3, 2, 1, 0] rfl ?_
  exact ll_X8_workInTurn_32 C hEv hr hz   w _ _ _ _ _ _ _ _ _ hm0 hp0 h
theorem m_X8_workInTurn {w : Nat} {μ : MP} {ν : NC} {x1 : Int32} {x2 : Int32} {r0 : (MP × NC) × Int32} (h : f_X8_workInTurn w μ ν x1 x2 = some r0) : mn ν r0.1.2 := mb_X8_workInTurn_0 h
theorem c_X8_workInTurn (l : Launch) (B : Nat × (Nat → Nat)) (μ : MP) (ν : NC) (a : AS) (Ad : Nat → Nat → Nat) (w : Nat) (x1 : Int32) (x2 : Int32) (r0 : (MP × NC) × Int32) (h : f_X8_workInTurn w μ ν x1 x2 = some r0) : ∀ D E sz, Met l yX8_workInTurn gwX8_workInTurn ({ frames := 11, cells := kc r0.1.2 - kc ν, slots := ks r0.1.2 - ks ν, locals := 318 } : Room) (cPe D E sz B (zS μ ν a Ad) [] [] [.ref (Ad 0 0), .int x1, .int x2]) (cQ D E sz (zS μ ν a Ad) [] (pV (fun u => ∃ A1, u = (zS r0.1.1 r0.1.2 a A1, []) ∧ kp ν Ad A1))) (kc r0.1.2 - kc ν) (ks r0.1.2 - ks ν) (Aof (zS μ ν a Ad) [] sz) := by
  intro D E sz
  refine g_ofe (cc := cX8_workInTurn) (maxL := 9) (ret := none) (own := "TradeLine") (by decide) rfl rfl (Nat.le_of_ble_eq_true rfl) ?_
  intro p e s m args below meth c C hr hin hz ha hwr hEv
  refine g_lv (lv' := [(0, .ref (Ad 0 0)), (1, .int x1), (2, .int x2)]) [0, 1, 2] rfl ?_
  refine g_widen (k := kc ν - kc ν) (n := ks ν - ks ν) (Nat.zero_le _) (Nat.zero_le _) ?_
  exact lb_X8_workInTurn_0 C hEv hr hz (mn_rfl _) (kp_rfl _ _) h
noncomputable def b_X8_come_15  (w : Nat) (μ : MP) (ν : NC) : Option (Nat × ((MP × NC) × Int32)) := some ((2 : Nat), ((μ, ν), (0 : Int32)))
theorem mb_X8_come_15 {w : Nat} {μ : MP} {ν : NC} {r0 : (MP × NC) × Int32}   (h : b_X8_come_15  w μ ν  = some (0, r0)) : mn ν r0.1.2 := by
  unfold b_X8_come_15 at h
  iterate 40 (try first | (with_reducible replace h := (of_guard h).2) | (with_reducible (replace h := of_guardP h; obtain ⟨hg, h⟩ := h)) | (with_reducible replace h := yl_of h rfl) | (with_reducible replace h := (of_thr h).2) | (with_reducible (replace h := bind_of h; obtain ⟨v, hv, h⟩ := h)) | (with_reducible split at h) | (with_reducible exact absurd (congrArg Prod.fst (Option.some.inj h)) (by simp)))
set_option maxHeartbeats 4000000 in
set_option maxRecDepth 100000 in
theorem lb_X8_come_15 {p : Program} {l : Launch} {e : Env} {s : State} {m : MethodId} {args : Array Value} {below : List Frame} {meth : Method} {c : Code} {D : va_G} {E : Nat → ClassId} {sz : Nat} {μ0 : MP} {ν0 : NC} {a : AS} {Ad0 : Nat → Nat → Nat} {w : Nat} {B : Nat × (Nat → Nat)} {r0 : (MP × NC) × Int32} (C : cx p s m args meth c D E (Aof (zS μ0 ν0 a Ad0) [] s.heap.size) cX8_come 9 "TradeLine") (hEv : eV (Ad0 30 0) (Ad0 31 0) B (Aof (zS μ0 ν0 a Ad0) [] s.heap.size) s s.heap) (hr : meth.sig.returnType = (some .int)) (hz : s.heap.size = sz) {μ : MP} {ν : NC} {Ad : Nat → Nat → Nat} (hm0 : mn ν0 ν) (hp0 : kp ν0 Ad0 Ad)   (h : b_X8_come_15  w μ ν  = some (0, r0)) : G p l e ({ frames := 12, cells := kc r0.1.2 - kc ν0, slots := ks r0.1.2 - ks ν0, locals := 346 } : Room) s m args below meth c D E (Aof (zS μ0 ν0 a Ad0) [] s.heap.size) 9 (MQ below (cQ D E sz (zS μ0 ν0 a Ad0) [] (pI (fun r u => r = r0.2 ∧ ∃ A1, u = (zS r0.1.1 r0.1.2 a A1, []) ∧ kp ν0 Ad0 A1))) args s (kc r0.1.2 - kc ν0) (ks r0.1.2 - ks ν0) (Aof (zS μ0 ν0 a Ad0) [] s.heap.size)) (zS μ ν a Ad) [] (kc ν - kc ν0) (ks ν - ks ν0) 15 [(0, .ref (Ad 0 0))] [] := by
  have m0 := mb_X8_come_15  h
  have e1 := m0.2.1; have e2 := m0.2.2.1; have e3 := hm0.2.1; have e4 := hm0.2.2.1
  unfold b_X8_come_15 at h
  exact absurd (congrArg Prod.fst (Option.some.inj h)) (by simp)
noncomputable def b_X8_come_103 (k47 : MP → NC → Int32 → Nat → Int32 → Int32 → Option ((MP × NC) × Int32)) (w : Nat) (μ : MP) (ν : NC) (x1 : Int32) (p3 : Nat) (x4 : Int32) (x5 : Int32) : Option ((MP × NC) × Int32) := yl (x5 + (1 : Int32)) (fun t14 => k47 μ ν x1 p3 x4 t14)
theorem mb_X8_come_103 {w : Nat} {μ : MP} {ν : NC} {x1 : Int32} {p3 : Nat} {x4 : Int32} {x5 : Int32} {r0 : (MP × NC) × Int32} {k47 : MP → NC → Int32 → Nat → Int32 → Int32 → Option ((MP × NC) × Int32)} (hmk47 : ∀ (μ : MP) (ν : NC) (z1 : Int32) (z3 : Nat) (z4 : Int32) (z5 : Int32), k47 μ ν z1 z3 z4 z5 = some r0 → mn ν r0.1.2) (h : b_X8_come_103 k47 w μ ν x1 p3 x4 x5 = some r0) : mn ν r0.1.2 := by
  unfold b_X8_come_103 at h
  iterate 40 (try first | (with_reducible replace h := (of_guard h).2) | (with_reducible (replace h := of_guardP h; obtain ⟨hg, h⟩ := h)) | (with_reducible replace h := yl_of h rfl) | (with_reducible replace h := (of_thr h).2) | (with_reducible (replace h := bind_of h; obtain ⟨v, hv, h⟩ := h)) | (with_reducible split at h) | (with_reducible (exact hmk47 _ _ _ _ _ _ h)) | (with_reducible exact absurd (congrArg Prod.fst (Option.some.inj h)) (by simp)))
set_option maxHeartbeats 4000000 in
set_option maxRecDepth 100000 in
theorem lb_X8_come_103 {p : Program} {l : Launch} {e : Env} {s : State} {m : MethodId} {args : Array Value} {below : List Frame} {meth : Method} {c : Code} {D : va_G} {E : Nat → ClassId} {sz : Nat} {μ0 : MP} {ν0 : NC} {a : AS} {Ad0 : Nat → Nat → Nat} {w : Nat} {B : Nat × (Nat → Nat)} {r0 : (MP × NC) × Int32} (C : cx p s m args meth c D E (Aof (zS μ0 ν0 a Ad0) [] s.heap.size) cX8_come 9 "TradeLine") (hEv : eV (Ad0 30 0) (Ad0 31 0) B (Aof (zS μ0 ν0 a Ad0) [] s.heap.size) s s.heap) (hr : meth.sig.returnType = (some .int)) (hz : s.heap.size = sz) {μ : MP} {ν : NC} {Ad : Nat → Nat → Nat} (hm0 : mn ν0 ν) (hp0 : kp ν0 Ad0 Ad) {x1 : Int32} {p3 : Nat} {x4 : Int32} {x5 : Int32} {k47 : MP → NC → Int32 → Nat → Int32 → Int32 → Option ((MP × NC) × Int32)} (hmk47 : ∀ (μ : MP) (ν : NC) (z1 : Int32) (z3 : Nat) (z4 : Int32) (z5 : Int32), k47 μ ν z1 z3 z4 z5 = some r0 → mn ν r0.1.2) (hk47 : ∀ (μ : MP) (ν : NC) (Ad : Nat → Nat → Nat) (z1 : Int32) (z3 : Nat) (z4 : Int32) (z5 : Int32), mn ν0 ν → kp ν0 Ad0 Ad → k47 μ ν z1 z3 z4 z5 = some r0 → G p l e ({ frames := 12, cells := kc r0.1.2 - kc ν0, slots := ks r0.1.2 - ks ν0, locals := 346 } : Room) s m args below meth c D E (Aof (zS μ0 ν0 a Ad0) [] s.heap.size) 9 (MQ below (cQ D E sz (zS μ0 ν0 a Ad0) [] (pI (fun r u => r = r0.2 ∧ ∃ A1, u = (zS r0.1.1 r0.1.2 a A1, []) ∧ kp ν0 Ad0 A1))) args s (kc r0.1.2 - kc ν0) (ks r0.1.2 - ks ν0) (Aof (zS μ0 ν0 a Ad0) [] s.heap.size)) (zS μ ν a Ad) [] (kc ν - kc ν0) (ks ν - ks ν0) 47 [(0, .ref (Ad 0 0)), (1, .int z1), (3, nv (Ad 2) z3), (4, .int z4), (5, .int z5)] []) (h : b_X8_come_103 k47 w μ ν x1 p3 x4 x5 = some r0) : G p l e ({ frames := 12, cells := kc r0.1.2 - kc ν0, slots := ks r0.1.2 - ks ν0, locals := 346 } : Room) s m args below meth c D E (Aof (zS μ0 ν0 a Ad0) [] s.heap.size) 9 (MQ below (cQ D E sz (zS μ0 ν0 a Ad0) [] (pI (fun r u => r = r0.2 ∧ ∃ A1, u = (zS r0.1.1 r0.1.2 a A1, []) ∧ kp ν0 Ad0 A1))) args s (kc r0.1.2 - kc ν0) (ks r0.1.2 - ks ν0) (Aof (zS μ0 ν0 a Ad0) [] s.heap.size)) (zS μ ν a Ad) [] (kc ν - kc ν0) (ks ν - ks ν0) 103 [(0, .ref (Ad 0 0)), (1, .int x1), (3, nv (Ad 2) p3), (4, .int x4), (5, .int x5)] [] := by
  have m0 := mb_X8_come_103 hmk47 h
  have e1 := m0.2.1; have e2 := m0.2.2.1; have e3 := hm0.2.1; have e4 := hm0.2.2.1
  unfold b_X8_come_103 at h
  obtain ⟨t14, et14⟩ : ∃ y : Int32, x5 + (1 : Int32) = y := ⟨_, rfl⟩
  replace h := yl_of h et14
  refine g_iinc (v := t14) (lv' := [(5, .int t14), (0, .ref (Ad 0 0)), (1, .int x1), (3, nv (Ad 2) p3), (4, .int x4)]) C dX8_come_103 4 rfl (by rw [← et14]; rfl) (by decide) (by simp [nv_cat, cat_i, cat_r, cat_n]) ?_
  refine g_goto (tgt := 47) C dX8_come_106 (by decide) ?_
  refine g_lv [1, 2, 3, 4, 0] rfl ?_
  exact hk47 _ _ _ _ _ _ _ hm0 hp0 h
noncomputable def b_X8_come_93 (k47 : MP → NC → Int32 → Nat → Int32 → Int32 → Option ((MP × NC) × Int32)) (w : Nat) (μ : MP) (ν : NC) (x1 : Int32) (p3 : Nat) (x4 : Int32) (x5 : Int32) (x7 : Int32) (s0 : Int32) : Option ((MP × NC) × Int32) := (if s0 = (0 : Int32) then (b_X8_come_103 k47 w μ ν x1 p3 x4 x5) else (bif ltB 0 (ν.2 0) then bif decide (p3 ≤ ν.2 2) then (f_X8_workInTurn w μ ν x1 x7).bind (fun v18 => b_X8_come_103 k47 w v18.1.1 v18.1.2 x1 p3 x4 x5) else none else none))
theorem mb_X8_come_93 {w : Nat} {μ : MP} {ν : NC} {x1 : Int32} {p3 : Nat} {x4 : Int32} {x5 : Int32} {x7 : Int32} {s0 : Int32} {r0 : (MP × NC) × Int32} {k47 : MP → NC → Int32 → Nat → Int32 → Int32 → Option ((MP × NC) × Int32)} (hmk47 : ∀ (μ : MP) (ν : NC) (z1 : Int32) (z3 : Nat) (z4 : Int32) (z5 : Int32), k47 μ ν z1 z3 z4 z5 = some r0 → mn ν r0.1.2) (h : b_X8_come_93 k47 w μ ν x1 p3 x4 x5 x7 s0 = some r0) : mn ν r0.1.2 := by
  unfold b_X8_come_93 at h
  iterate 40 (try first | (with_reducible replace h := (of_guard h).2) | (with_reducible (replace h := of_guardP h; obtain ⟨hg, h⟩ := h)) | (with_reducible replace h := yl_of h rfl) | (with_reducible replace h := (of_thr h).2) | (with_reducible (replace h := bind_of h; obtain ⟨v, hv, h⟩ := h)) | (with_reducible split at h) | (with_reducible (exact mb_X8_come_103 hmk47 h)) | (with_reducible (exact mn_trans (m_X8_workInTurn hv) (mb_X8_come_103 hmk47 h))) | (with_reducible exact absurd (congrArg Prod.fst (Option.some.inj h)) (by simp)))
set_option maxHeartbeats 4000000 in
set_option maxRecDepth 100000 in
theorem lb_X8_come_93 {p : Program} {l : Launch} {e : Env} {s : State} {m : MethodId} {args : Array Value} {below : List Frame} {meth : Method} {c : Code} {D : va_G} {E : Nat → ClassId} {sz : Nat} {μ0 : MP} {ν0 : NC} {a : AS} {Ad0 : Nat → Nat → Nat} {w : Nat} {B : Nat × (Nat → Nat)} {r0 : (MP × NC) × Int32} (C : cx p s m args meth c D E (Aof (zS μ0 ν0 a Ad0) [] s.heap.size) cX8_come 9 "TradeLine") (hEv : eV (Ad0 30 0) (Ad0 31 0) B (Aof (zS μ0 ν0 a Ad0) [] s.heap.size) s s.heap) (hr : meth.sig.returnType = (some .int)) (hz : s.heap.size = sz) {μ : MP} {ν : NC} {Ad : Nat → Nat → Nat} (hm0 : mn ν0 ν) (hp0 : kp ν0 Ad0 Ad) {x1 : Int32} {p3 : Nat} {x4 : Int32} {x5 : Int32} {x7 : Int32} {s0 : Int32} {k47 : MP → NC → Int32 → Nat → Int32 → Int32 → Option ((MP × NC) × Int32)} (hmk47 : ∀ (μ : MP) (ν : NC) (z1 : Int32) (z3 : Nat) (z4 : Int32) (z5 : Int32), k47 μ ν z1 z3 z4 z5 = some r0 → mn ν r0.1.2) (hk47 : ∀ (μ : MP) (ν : NC) (Ad : Nat → Nat → Nat) (z1 : Int32) (z3 : Nat) (z4 : Int32) (z5 : Int32), mn ν0 ν → kp ν0 Ad0 Ad → k47 μ ν z1 z3 z4 z5 = some r0 → G p l e ({ frames := 12, cells := kc r0.1.2 - kc ν0, slots := ks r0.1.2 - ks ν0, locals := 346 } : Room) s m args below meth c D E (Aof (zS μ0 ν0 a Ad0) [] s.heap.size) 9 (MQ below (cQ D E sz (zS μ0 ν0 a Ad0) [] (pI (fun r u => r = r0.2 ∧ ∃ A1, u = (zS r0.1.1 r0.1.2 a A1, []) ∧ kp ν0 Ad0 A1))) args s (kc r0.1.2 - kc ν0) (ks r0.1.2 - ks ν0) (Aof (zS μ0 ν0 a Ad0) [] s.heap.size)) (zS μ ν a Ad) [] (kc ν - kc ν0) (ks ν - ks ν0) 47 [(0, .ref (Ad 0 0)), (1, .int z1), (3, nv (Ad 2) z3), (4, .int z4), (5, .int z5)] []) (h : b_X8_come_93 k47 w μ ν x1 p3 x4 x5 x7 s0 = some r0) : G p l e ({ frames := 12, cells := kc r0.1.2 - kc ν0, slots := ks r0.1.2 - ks ν0, locals := 346 } : Room) s m args below meth c D E (Aof (zS μ0 ν0 a Ad0) [] s.heap.size) 9 (MQ below (cQ D E sz (zS μ0 ν0 a Ad0) [] (pI (fun r u => r = r0.2 ∧ ∃ A1, u = (zS r0.1.1 r0.1.2 a A1, []) ∧ kp ν0 Ad0 A1))) args s (kc r0.1.2 - kc ν0) (ks r0.1.2 - ks ν0) (Aof (zS μ0 ν0 a Ad0) [] s.heap.size)) (zS μ ν a Ad) [] (kc ν - kc ν0) (ks ν - ks ν0) 93 [(0, .ref (Ad 0 0)), (1, .int x1), (3, nv (Ad 2) p3), (4, .int x4), (5, .int x5), (7, .int x7)] [.int s0] := by
  have m0 := mb_X8_come_93 hmk47 h
  have e1 := m0.2.1; have e2 := m0.2.2.1; have e3 := hm0.2.1; have e4 := hm0.2.2.1
  unfold b_X8_come_93 at h
  refine g_if_eq (tgt := 103) C dX8_come_93 (by decide) (fun c93 => ?_) (fun c93 => ?_)
  · replace h := (if_pos c93).symm.trans h
    refine g_lv [0, 1, 2, 3, 4] rfl ?_
    exact lb_X8_come_103 C hEv hr hz hm0 hp0  hmk47 hk47 h
  · replace h := (if_neg c93).symm.trans h
    refine g_aload_n C dX8_come_96 rfl 0 rfl ?_
    refine g_iload_n C dX8_come_97 rfl 1 rfl ?_
    refine g_iload C dX8_come_98 5 rfl ?_
    obtain ⟨g17, h⟩ := of_guard h
    obtain ⟨g19, h⟩ := of_guard h
    obtain ⟨v18, hv18, h⟩ := bind_of h
    have m2 := m_X8_workInTurn hv18
    have m3 := mb_X8_come_103 hmk47 h
    have a1 := hm0.2.1; have a2 := hm0.2.2.1; have b1 := m2.2.1; have b2 := m2.2.2.1; have d1 := m3.2.1; have d2 := m3.2.2.1
    refine g_lv [0, 1, 2, 3, 4] rfl ?_
    refine g_cVve (n := 2) (exc := []) (exr := []) C hEv ⟨hp0.2.1 0, hp0.2.2 0⟩ [_, _] _ rfl rfl [] [] rfl rfl rfl rfl (fun _ h => absurd h (by simp)) (fun _ h => absurd h (by simp)) (fun _ h => absurd h (by simp)) (fun sz => c_X8_workInTurn l B μ ν a Ad w x1 x7 _ hv18 D E sz) rfl gw_591 gw_1 gw_588 gw_590 gs_15 ⟨by decide +kernel, by decide +kernel, by decide +kernel⟩ ⟨rfl, rfl⟩ ⟨Nat.le_of_ble_eq_true rfl, Nat.le_of_ble_eq_true rfl⟩ (rcvT (lvZ g17 rfl) rfl rfl rfl) (by first | exact Nat.le_of_ble_eq_true rfl | simp [nv_cat, cat_i, cat_r, cat_n]) dX8_come_100 ⟨by show (kc ν - kc ν0) + (kc v18.1.2 - kc ν) ≤ kc r0.1.2 - kc ν0; omega, by show (ks ν - ks ν0) + (ks v18.1.2 - ks ν) ≤ ks r0.1.2 - ks ν0; omega⟩ (fun u hp hx => ?_)
    obtain ⟨A1, rfl, hkp⟩ := hp
    try dsimp only [List.append_nil]
    refine g_widen (k := kc v18.1.2 - kc ν0) (n := ks v18.1.2 - ks ν0) (by omega) (by omega) ?_
    rw [show Ad 0 0 = A1 0 0 from (hkp.1 0 _ rfl (of_decide_eq_true g17)).symm]
    rw [show nv (Ad 2) p3 = nv (A1 2) p3 from (kp_nv hkp rfl g19).symm]
    exact lb_X8_come_103 C hEv hr hz (mn_trans hm0 m2) (kp_trans hp0 hm0 hkp)  hmk47 hk47 h
noncomputable def b_X8_come_47 (k47 : MP → NC → Int32 → Nat → Int32 → Int32 → Option ((MP × NC) × Int32)) (w : Nat) (μ : MP) (ν : NC) (x1 : Int32) (p3 : Nat) (x4 : Int32) (x5 : Int32) : Option ((MP × NC) × Int32) := (if x4 ≤ x5 then (some ((μ, ν), x4)) else (bif nzB p3 then bif ltB (p3 - 1) (ν.2 2) then (f_X7_numberAt w μ ν (p3 - 1) (0 : Int32)).bind (fun v10 => (f_X7_nextAt w μ ν (p3 - 1) (0 : Int32)).bind (fun v11 => (f_X7_isGarbledAt w μ ν (p3 - 1) (0 : Int32)).bind (fun v12 => (f_X7_dropFirst w μ ν (p3 - 1) ).bind (fun v13 => (if v12 = (0 : Int32) then (bif ltB 0 (ν.2 0) then (f_X8_receive w v13.1 ν x1 v10 v11).bind (fun v16 => b_X8_come_93 k47 w v16.1.1 v16.1.2 x1 ((p3 - 1) + 1) x4 x5 v11 v16.2) else none) else (b_X8_come_103 k47 w v13.1 ν x1 ((p3 - 1) + 1) x4 x5)))))) else none else none))
theorem mb_X8_come_47 {w : Nat} {μ : MP} {ν : NC} {x1 : Int32} {p3 : Nat} {x4 : Int32} {x5 : Int32} {r0 : (MP × NC) × Int32} {k47 : MP → NC → Int32 → Nat → Int32 → Int32 → Option ((MP × NC) × Int32)} (hmk47 : ∀ (μ : MP) (ν : NC) (z1 : Int32) (z3 : Nat) (z4 : Int32) (z5 : Int32), k47 μ ν z1 z3 z4 z5 = some r0 → mn ν r0.1.2) (h : b_X8_come_47 k47 w μ ν x1 p3 x4 x5 = some r0) : mn ν r0.1.2 := by
  unfold b_X8_come_47 at h
  iterate 40 (try first | (with_reducible replace h := (of_guard h).2) | (with_reducible (replace h := of_guardP h; obtain ⟨hg, h⟩ := h)) | (with_reducible replace h := yl_of h rfl) | (with_reducible replace h := (of_thr h).2) | (with_reducible (replace h := bind_of h; obtain ⟨v, hv, h⟩ := h)) | (with_reducible split at h) | (with_reducible (replace h := Option.some.inj h; obtain rfl := h; exact mn_rfl _)) | (with_reducible (exact mb_X8_come_103 hmk47 h)) | (with_reducible (exact mn_trans (m_X8_receive hv) (mb_X8_come_93 hmk47 h))) | (with_reducible exact absurd (congrArg Prod.fst (Option.some.inj h)) (by simp)))
set_option maxHeartbeats 4000000 in
set_option maxRecDepth 100000 in
theorem lb_X8_come_47 {p : Program} {l : Launch} {e : Env} {s : State} {m : MethodId} {args : Array Value} {below : List Frame} {meth : Method} {c : Code} {D : va_G} {E : Nat → ClassId} {sz : Nat} {μ0 : MP} {ν0 : NC} {a : AS} {Ad0 : Nat → Nat → Nat} {w : Nat} {B : Nat × (Nat → Nat)} {r0 : (MP × NC) × Int32} (C : cx p s m args meth c D E (Aof (zS μ0 ν0 a Ad0) [] s.heap.size) cX8_come 9 "TradeLine") (hEv : eV (Ad0 30 0) (Ad0 31 0) B (Aof (zS μ0 ν0 a Ad0) [] s.heap.size) s s.heap) (hr : meth.sig.returnType = (some .int)) (hz : s.heap.size = sz) {μ : MP} {ν : NC} {Ad : Nat → Nat → Nat} (hm0 : mn ν0 ν) (hp0 : kp ν0 Ad0 Ad) {x1 : Int32} {p3 : Nat} {x4 : Int32} {x5 : Int32} {k47 : MP → NC → Int32 → Nat → Int32 → Int32 → Option ((MP × NC) × Int32)} (hmk47 : ∀ (μ : MP) (ν : NC) (z1 : Int32) (z3 : Nat) (z4 : Int32) (z5 : Int32), k47 μ ν z1 z3 z4 z5 = some r0 → mn ν r0.1.2) (hk47 : ∀ (μ : MP) (ν : NC) (Ad : Nat → Nat → Nat) (z1 : Int32) (z3 : Nat) (z4 : Int32) (z5 : Int32), mn ν0 ν → kp ν0 Ad0 Ad → k47 μ ν z1 z3 z4 z5 = some r0 → G p l e ({ frames := 12, cells := kc r0.1.2 - kc ν0, slots := ks r0.1.2 - ks ν0, locals := 346 } : Room) s m args below meth c D E (Aof (zS μ0 ν0 a Ad0) [] s.heap.size) 9 (MQ below (cQ D E sz (zS μ0 ν0 a Ad0) [] (pI (fun r u => r = r0.2 ∧ ∃ A1, u = (zS r0.1.1 r0.1.2 a A1, []) ∧ kp ν0 Ad0 A1))) args s (kc r0.1.2 - kc ν0) (ks r0.1.2 - ks ν0) (Aof (zS μ0 ν0 a Ad0) [] s.heap.size)) (zS μ ν a Ad) [] (kc ν - kc ν0) (ks ν - ks ν0) 47 [(0, .ref (Ad 0 0)), (1, .int z1), (3, nv (Ad 2) z3), (4, .int z4), (5, .int z5)] []) (h : b_X8_come_47 k47 w μ ν x1 p3 x4 x5 = some r0) : G p l e ({ frames := 12, cells := kc r0.1.2 - kc ν0, slots := ks r0.1.2 - ks ν0, locals := 346 } : Room) s m args below meth c D E (Aof (zS μ0 ν0 a Ad0) [] s.heap.size) 9 (MQ below (cQ D E sz (zS μ0 ν0 a Ad0) [] (pI (fun r u => r = r0.2 ∧ ∃ A1, u = (zS r0.1.1 r0.1.2 a A1, []) ∧ kp ν0 Ad0 A1))) args s (kc r0.1.2 - kc ν0) (ks r0.1.2 - ks ν0) (Aof (zS μ0 ν0 a Ad0) [] s.heap.size)) (zS μ ν a Ad) [] (kc ν - kc ν0) (ks ν - ks ν0) 47 [(0, .ref (Ad 0 0)), (1, .int x1), (3, nv (Ad 2) p3), (4, .int x4), (5, .int x5)] [] := by
  have m0 := mb_X8_come_47 hmk47 h
  have e1 := m0.2.1; have e2 := m0.2.2.1; have e3 := hm0.2.1; have e4 := hm0.2.2.1
  unfold b_X8_come_47 at h
  refine g_iload C dX8_come_47 4 rfl ?_
  refine g_iload C dX8_come_49 3 rfl ?_
  refine g_icmp_ge (tgt := 109) C dX8_come_51 (by decide) (fun c51 => ?_) (fun c51 => ?_)
  · replace h := (if_pos c51).symm.trans h
    refine g_iload C dX8_come_109 3 rfl ?_
    obtain rfl := Option.some.inj h
    exact g_iret C hr rfl hz ⟨(hm0.2.2.2 30 (by decide) (by decide)).1, (hm0.2.2.2 31 (by decide) (by decide)).1, hp0.2.1, hp0.2.2⟩ ⟨rfl, Ad, rfl, hp0⟩ (fun j x h => by simp at h) dX8_come_111
  · replace h := (if_neg c51).symm.trans h
    refine z_aload_n C dX8_come_54 rfl 2 rfl (nv_or _ _) ?_
    refine g_iconst (v := (0 : Int32)) C dX8_come_55 (by decide) ?_
    obtain ⟨g8, h⟩ := of_guard h
    rw [nzB_e g8]
    obtain ⟨g9, h⟩ := of_guard h
    obtain ⟨v10, hv10, h⟩ := bind_of h
    refine g_cVi (n := 1) (exc := []) (exr := []) C [_] _ rfl rfl [] [] rfl rfl rfl rfl (fun _ h => absurd h (by simp)) (fun _ h => absurd h (by simp)) (fun _ h => absurd h (by simp)) (fun sz => c_X7_numberAt l μ ν a Ad w (p3 - 1) (0 : Int32) _ hv10 D E sz) rfl gw_518 gw_6 gw_515 gw_516 gw_517 ⟨by decide +kernel, by decide +kernel, by decide +kernel⟩ ⟨rfl, rfl⟩ ⟨Nat.le_of_ble_eq_true rfl, Nat.le_of_ble_eq_true rfl⟩ (rcvT (lvZ g9 rfl) rfl rfl rfl) (by first | exact Nat.le_of_ble_eq_true rfl | simp [nv_cat, cat_i, cat_r, cat_n]) dX8_come_56 ⟨by show (kc ν - kc ν0) + 0 ≤ kc r0.1.2 - kc ν0; omega, by show (ks ν - ks ν0) + 0 ≤ ks r0.1.2 - ks ν0; omega⟩ (fun r u hp hx => ?_)
    obtain ⟨er, rfl⟩ := hp
    rw [er]
    try dsimp only [List.append_nil]
    refine g_istore (lv' := [(6, .int v10), (0, .ref (Ad 0 0)), (1, .int x1), (3, .ref (Ad 2 (p3 - 1))), (4, .int x4), (5, .int x5)]) C dX8_come_59 (by decide) rfl ?_
    refine g_aload_n C dX8_come_61 rfl 3 rfl ?_
    refine g_iconst (v := (0 : Int32)) C dX8_come_62 (by decide) ?_
    obtain ⟨v11, hv11, h⟩ := bind_of h
    refine g_cVi (n := 1) (exc := []) (exr := []) C [_] _ rfl rfl [] [] rfl rfl rfl rfl (fun _ h => absurd h (by simp)) (fun _ h => absurd h (by simp)) (fun _ h => absurd h (by simp)) (fun sz => c_X7_nextAt l μ ν a Ad w (p3 - 1) (0 : Int32) _ hv11 D E sz) rfl gw_522 gw_6 gw_519 gw_520 gw_521 ⟨by decide +kernel, by decide +kernel, by decide +kernel⟩ ⟨rfl, rfl⟩ ⟨Nat.le_of_ble_eq_true rfl, Nat.le_of_ble_eq_true rfl⟩ (rcvT (lvZ g9 rfl) rfl rfl rfl) (by first | exact Nat.le_of_ble_eq_true rfl | simp [nv_cat, cat_i, cat_r, cat_n]) dX8_come_63 ⟨by show (kc ν - kc ν0) + 0 ≤ kc r0.1.2 - kc ν0; omega, by show (ks ν - ks ν0) + 0 ≤ ks r0.1.2 - ks ν0; omega⟩ (fun r u hp hx => ?_)
    obtain ⟨er, rfl⟩ := hp
    rw [er]
    try dsimp only [List.append_nil]
    refine g_istore (lv' := [(7, .int v11), (6, .int v10), (0, .ref (Ad 0 0)), (1, .int x1), (3, .ref (Ad 2 (p3 - 1))), (4, .int x4), (5, .int x5)]) C dX8_come_66 (by decide) rfl ?_
    refine g_aload_n C dX8_come_68 rfl 4 rfl ?_
    refine g_iconst (v := (0 : Int32)) C dX8_come_69 (by decide) ?_
    obtain ⟨v12, hv12, h⟩ := bind_of h
    refine g_cVi (n := 1) (exc := []) (exr := []) C [_] _ rfl rfl [] [] rfl rfl rfl rfl (fun _ h => absurd h (by simp)) (fun _ h => absurd h (by simp)) (fun _ h => absurd h (by simp)) (fun sz => c_X7_isGarbledAt l μ ν a Ad w (p3 - 1) (0 : Int32) _ hv12 D E sz) rfl gw_526 gw_6 gw_523 gw_524 gw_525 ⟨by decide +kernel, by decide +kernel, by decide +kernel⟩ ⟨rfl, rfl⟩ ⟨Nat.le_of_ble_eq_true rfl, Nat.le_of_ble_eq_true rfl⟩ (rcvT (lvZ g9 rfl) rfl rfl rfl) (by first | exact Nat.le_of_ble_eq_true rfl | simp [nv_cat, cat_i, cat_r, cat_n]) dX8_come_70 ⟨by show (kc ν - kc ν0) + 0 ≤ kc r0.1.2 - kc ν0; omega, by show (ks ν - ks ν0) + 0 ≤ ks r0.1.2 - ks ν0; omega⟩ (fun r u hp hx => ?_)
    obtain ⟨er, rfl⟩ := hp
    rw [er]
    try dsimp only [List.append_nil]
    refine g_istore (lv' := [(8, .int v12), (7, .int v11), (6, .int v10), (0, .ref (Ad 0 0)), (1, .int x1), (3, .ref (Ad 2 (p3 - 1))), (4, .int x4), (5, .int x5)]) C dX8_come_73 (by decide) rfl ?_
    refine g_aload_n C dX8_come_75 rfl 5 rfl ?_
    obtain ⟨v13, hv13, h⟩ := bind_of h
    refine g_cVv (n := 0) (exc := []) (exr := []) C [] _ rfl rfl [] [] rfl rfl rfl rfl (fun _ h => absurd h (by simp)) (fun _ h => absurd h (by simp)) (fun _ h => absurd h (by simp)) (fun sz => c_X7_dropFirst l μ ν a Ad w (p3 - 1)  _ hv13 D E sz) rfl gw_530 gw_6 gw_527 gw_528 gw_529 ⟨by decide +kernel, by decide +kernel, by decide +kernel⟩ ⟨rfl, rfl⟩ ⟨Nat.le_of_ble_eq_true rfl, Nat.le_of_ble_eq_true rfl⟩ (rcvT (lvZ g9 rfl) rfl rfl rfl) (by first | exact Nat.le_of_ble_eq_true rfl | simp [nv_cat, cat_i, cat_r, cat_n]) dX8_come_76 ⟨by show (kc ν - kc ν0) + 0 ≤ kc r0.1.2 - kc ν0; omega, by show (ks ν - ks ν0) + 0 ≤ ks r0.1.2 - ks ν0; omega⟩ (fun u hp hx => ?_)
    obtain rfl := hp
    try dsimp only [List.append_nil]
    refine g_iload C dX8_come_79 0 rfl ?_
    refine g_if_ne (tgt := 103) C dX8_come_81 (by decide) (fun c81 => ?_) (fun c81 => ?_)
    · replace h := (if_neg c81).symm.trans h
      refine g_lv [3, 4, 5, 6, 7] rfl ?_
      exact lb_X8_come_103 C hEv hr hz hm0 hp0  hmk47 hk47 h
    · replace h := (if_pos c81).symm.trans h
      refine g_aload_n C dX8_come_84 rfl 3 rfl ?_
      refine g_iload_n C dX8_come_85 rfl 4 rfl ?_
      refine g_iload C dX8_come_86 2 rfl ?_
      refine g_iload C dX8_come_88 1 rfl ?_
      obtain ⟨g15, h⟩ := of_guard h
      obtain ⟨v16, hv16, h⟩ := bind_of h
      have m2 := m_X8_receive hv16
      have m3 := mb_X8_come_93 hmk47 h
      have a1 := hm0.2.1; have a2 := hm0.2.2.1; have b1 := m2.2.1; have b2 := m2.2.2.1; have d1 := m3.2.1; have d2 := m3.2.2.1
      refine g_lv [3, 4, 5, 6, 7, 1] rfl ?_
      refine g_cVie (n := 3) (exc := []) (exr := []) C hEv ⟨hp0.2.1 0, hp0.2.2 0⟩ [_, _, _] _ rfl rfl [] [] rfl rfl rfl rfl (fun _ h => absurd h (by simp)) (fun _ h => absurd h (by simp)) (fun _ h => absurd h (by simp)) (fun sz => c_X8_receive l B v13.1 ν a Ad w x1 v10 v11 _ hv16 D E sz) rfl gw_534 gw_1 gw_531 gw_533 gs_9 ⟨by decide +kernel, by decide +kernel, by decide +kernel⟩ ⟨rfl, rfl⟩ ⟨Nat.le_of_ble_eq_true rfl, Nat.le_of_ble_eq_true rfl⟩ (rcvT (lvZ g15 rfl) rfl rfl rfl) (by first | exact Nat.le_of_ble_eq_true rfl | simp [nv_cat, cat_i, cat_r, cat_n]) dX8_come_90 ⟨by show (kc ν - kc ν0) + (kc v16.1.2 - kc ν) ≤ kc r0.1.2 - kc ν0; omega, by show (ks ν - ks ν0) + (ks v16.1.2 - ks ν) ≤ ks r0.1.2 - ks ν0; omega⟩ (fun r u hp hx => ?_)
      obtain ⟨er, A1, rfl, hkp⟩ := hp
      rw [er]
      try dsimp only [List.append_nil]
      refine g_widen (k := kc v16.1.2 - kc ν0) (n := ks v16.1.2 - ks ν0) (by omega) (by omega) ?_
      rw [show Ad 0 0 = A1 0 0 from (hkp.1 0 _ rfl (of_decide_eq_true g15)).symm]
      rw [show Ad 2 (p3 - 1) = A1 2 (p3 - 1) from (hkp.1 2 _ rfl (of_decide_eq_true g9)).symm]
      exact lb_X8_come_93 C hEv hr hz (mn_trans hm0 m2) (kp_trans hp0 hm0 hkp)  hmk47 hk47 h
noncomputable def l_X8_come_47  (w : Nat) : Nat → MP → NC → Int32 → Nat → Int32 → Int32 → Option ((MP × NC) × Int32)
  | 0 => fun _ _ _ _ _ _ => none
  | n + 1 => fun μ ν x1 p3 x4 x5 => b_X8_come_47  (l_X8_come_47  w n) w μ ν x1 p3 x4 x5
theorem ml_X8_come_47 {w : Nat} {r0 : (MP × NC) × Int32}   : ∀ (n : Nat) (μ : MP) (ν : NC) (x1 : Int32) (p3 : Nat) (x4 : Int32) (x5 : Int32), l_X8_come_47  w n μ ν x1 p3 x4 x5 = some r0 → mn ν r0.1.2 := by
  intro n
  induction n with
  | zero => exact fun μ ν x1 p3 x4 x5 h => absurd (show (none : Option ((MP × NC) × Int32)) = some r0 from h) (by simp)
  | succ n ih => exact fun μ ν x1 p3 x4 x5 h => mb_X8_come_47 (w := w)  ih h
theorem ll_X8_come_47 {p : Program} {l : Launch} {e : Env} {s : State} {m : MethodId} {args : Array Value} {below : List Frame} {meth : Method} {c : Code} {D : va_G} {E : Nat → ClassId} {sz : Nat} {μ0 : MP} {ν0 : NC} {a : AS} {Ad0 : Nat → Nat → Nat} {w : Nat} {B : Nat × (Nat → Nat)} {r0 : (MP × NC) × Int32} (C : cx p s m args meth c D E (Aof (zS μ0 ν0 a Ad0) [] s.heap.size) cX8_come 9 "TradeLine") (hEv : eV (Ad0 30 0) (Ad0 31 0) B (Aof (zS μ0 ν0 a Ad0) [] s.heap.size) s s.heap) (hr : meth.sig.returnType = (some .int)) (hz : s.heap.size = sz)    : ∀ (n : Nat) (μ : MP) (ν : NC) (Ad : Nat → Nat → Nat) (x1 : Int32) (p3 : Nat) (x4 : Int32) (x5 : Int32), mn ν0 ν → kp ν0 Ad0 Ad → l_X8_come_47  w n μ ν x1 p3 x4 x5 = some r0 → G p l e ({ frames := 12, cells := kc r0.1.2 - kc ν0, slots := ks r0.1.2 - ks ν0, locals := 346 } : Room) s m args below meth c D E (Aof (zS μ0 ν0 a Ad0) [] s.heap.size) 9 (MQ below (cQ D E sz (zS μ0 ν0 a Ad0) [] (pI (fun r u => r = r0.2 ∧ ∃ A1, u = (zS r0.1.1 r0.1.2 a A1, []) ∧ kp ν0 Ad0 A1))) args s (kc r0.1.2 - kc ν0) (ks r0.1.2 - ks ν0) (Aof (zS μ0 ν0 a Ad0) [] s.heap.size)) (zS μ ν a Ad) [] (kc ν - kc ν0) (ks ν - ks ν0) 47 [(0, .ref (Ad 0 0)), (1, .int x1), (3, nv (Ad 2) p3), (4, .int x4), (5, .int x5)] [] := by
  intro n
  induction n with
  | zero => exact fun μ ν Ad x1 p3 x4 x5 hm0 hp0 h => absurd (show (none : Option ((MP × NC) × Int32)) = some r0 from h) (by simp)
  | succ n ih => exact fun μ ν Ad x1 p3 x4 x5 hm0 hp0 h => lb_X8_come_47 (w := w) C hEv hr hz hm0 hp0   (ml_X8_come_47  n) ih h
noncomputable def b_X8_come_25  (w : Nat) (μ : MP) (ν : NC) (x1 : Int32) (x2 : Int32) : Option ((MP × NC) × Int32) := bif ltB 0 (ν.2 0) then (f_X8_party w μ ν x1).bind (fun v3 => bif nzB v3 then bif ltB (v3 - 1) (ν.2 1) then bif ltB (v3 - 1) (ν.2 2) then yl ((if (μ.1 2 (v3 - 1) 4) < x2 then (μ.1 2 (v3 - 1) 4) else x2)) (fun t7 => l_X8_come_47  w w μ ν x1 ((v3 - 1) + 1) t7 (0 : Int32)) else none else none else none) else none
theorem mb_X8_come_25 {w : Nat} {μ : MP} {ν : NC} {x1 : Int32} {x2 : Int32} {r0 : (MP × NC) × Int32}   (h : b_X8_come_25  w μ ν x1 x2 = some r0) : mn ν r0.1.2 := by
  unfold b_X8_come_25 at h
  iterate 40 (try first | (with_reducible replace h := (of_guard h).2) | (with_reducible (replace h := of_guardP h; obtain ⟨hg, h⟩ := h)) | (with_reducible replace h := yl_of h rfl) | (with_reducible replace h := (of_thr h).2) | (with_reducible (replace h := bind_of h; obtain ⟨v, hv, h⟩ := h)) | (with_reducible split at h) | (with_reducible (exact ml_X8_come_47  _ _ _ _ _ _ _ h)) | (with_reducible exact absurd (congrArg Prod.fst (Option.some.inj h)) (by simp)))
set_option maxHeartbeats 4000000 in
set_option maxRecDepth 100000 in
theorem lb_X8_come_25 {p : Program} {l : Launch} {e : Env} {s : State} {m : MethodId} {args : Array Value} {below : List Frame} {meth : Method} {c : Code} {D : va_G} {E : Nat → ClassId} {sz : Nat} {μ0 : MP} {ν0 : NC} {a : AS} {Ad0 : Nat → Nat → Nat} {w : Nat} {B : Nat × (Nat → Nat)} {r0 : (MP × NC) × Int32} (C : cx p s m args meth c D E (Aof (zS μ0 ν0 a Ad0) [] s.heap.size) cX8_come 9 "TradeLine") (hEv : eV (Ad0 30 0) (Ad0 31 0) B (Aof (zS μ0 ν0 a Ad0) [] s.heap.size) s s.heap) (hr : meth.sig.returnType = (some .int)) (hz : s.heap.size = sz) {μ : MP} {ν : NC} {Ad : Nat → Nat → Nat} (hm0 : mn ν0 ν) (hp0 : kp ν0 Ad0 Ad) {x1 : Int32} {x2 : Int32}   (h : b_X8_come_25  w μ ν x1 x2 = some r0) : G p l e ({ frames := 12, cells := kc r0.1.2 - kc ν0, slots := ks r0.1.2 - ks ν0, locals := 346 } : Room) s m args below meth c D E (Aof (zS μ0 ν0 a Ad0) [] s.heap.size) 9 (MQ below (cQ D E sz (zS μ0 ν0 a Ad0) [] (pI (fun r u => r = r0.2 ∧ ∃ A1, u = (zS r0.1.1 r0.1.2 a A1, []) ∧ kp ν0 Ad0 A1))) args s (kc r0.1.2 - kc ν0) (ks r0.1.2 - ks ν0) (Aof (zS μ0 ν0 a Ad0) [] s.heap.size)) (zS μ ν a Ad) [] (kc ν - kc ν0) (ks ν - ks ν0) 25 [(0, .ref (Ad 0 0)), (1, .int x1), (2, .int x2)] [] := by
  have m0 := mb_X8_come_25  h
  have e1 := m0.2.1; have e2 := m0.2.2.1; have e3 := hm0.2.1; have e4 := hm0.2.2.1
  unfold b_X8_come_25 at h
  refine g_aload_n C dX8_come_25 rfl 0 rfl ?_
  refine g_iload_n C dX8_come_26 rfl 1 rfl ?_
  obtain ⟨g2, h⟩ := of_guard h
  obtain ⟨v3, hv3, h⟩ := bind_of h
  refine g_cVq (n := 1) (exc := []) (exr := []) C [_] _ rfl rfl [] [] rfl rfl rfl rfl (fun _ h => absurd h (by simp)) (fun _ h => absurd h (by simp)) (fun _ h => absurd h (by simp)) (fun sz => c_X8_party l μ ν a Ad w x1 _ hv3 D E sz) rfl gw_304 gw_1 gw_301 gw_303 gs_2 ⟨by decide +kernel, by decide +kernel, by decide +kernel⟩ ⟨rfl, rfl⟩ ⟨Nat.le_of_ble_eq_true rfl, Nat.le_of_ble_eq_true rfl⟩ (rcvT (lvZ g2 rfl) rfl rfl rfl) (by first | exact Nat.le_of_ble_eq_true rfl | simp [nv_cat, cat_i, cat_r, cat_n]) dX8_come_27 ⟨by show (kc ν - kc ν0) + 0 ≤ kc r0.1.2 - kc ν0; omega, by show (ks ν - ks ν0) + 0 ≤ ks r0.1.2 - ks ν0; omega⟩ (fun r u hp hx => ?_)
  obtain ⟨er, rfl⟩ := hp
  rw [er]
  try dsimp only [List.append_nil]
  obtain ⟨g4, h⟩ := of_guard h
  rw [nzB_e g4]
  obtain ⟨g5, h⟩ := of_guard h
  refine g_get (k := 1) (i := (v3 - 1)) (ref := "TradeLine$Party") (v := .ref (Ad 2 (v3 - 1))) C rfl (lvZ g5 rfl) rfl rfl inGX5 1 (by decide) gw_114 (fun _ h => h) rfl dX8_come_30 ?_
  refine z_astore_n (i := 3) (lv' := [(3, .ref (Ad 2 (v3 - 1))), (0, .ref (Ad 0 0)), (1, .int x1), (2, .int x2)]) C dX8_come_33 (Or.inr ⟨_, rfl⟩) rfl (by decide) rfl ?_
  refine g_iload_n C dX8_come_34 rfl 3 rfl ?_
  refine g_aload_n C dX8_come_35 rfl 0 rfl ?_
  obtain ⟨g6, h⟩ := of_guard h
  refine g_get (k := 2) (i := (v3 - 1)) (ref := "TradeLine$Way") (v := .int (μ.1 2 (v3 - 1) 4)) C rfl (lvZ g6 rfl) rfl rfl inGX7 4 (by decide) gw_83 (fun _ h => h) rfl dX8_come_36 ?_
  refine g_mmin C gw_514 gw_327 gw_19 gw_328 (Nat.le_of_ble_eq_true rfl) (Nat.le_of_ble_eq_true rfl) (by show kc ν - kc ν0 ≤ kc r0.1.2 - kc ν0; omega) (by show ks ν - ks ν0 ≤ ks r0.1.2 - ks ν0; omega) dX8_come_39 ?_
  refine q_topi (fun t7 et7 => ?_)
  replace h := yl_of h et7
  refine g_istore (lv' := [(4, .int t7), (3, .ref (Ad 2 (v3 - 1))), (0, .ref (Ad 0 0)), (1, .int x1), (2, .int x2)]) C dX8_come_42 (by decide) rfl ?_
  refine g_iconst (v := (0 : Int32)) C dX8_come_44 (by decide) ?_
  refine g_istore (lv' := [(5, .int (0 : Int32)), (4, .int t7), (3, .ref (Ad 2 (v3 - 1))), (0, .ref (Ad 0 0)), (1, .int x1), (2, .int x2)]) C dX8_come_45 (by decide) rfl ?_
  refine g_lv [3, 4, 2, 1, 0] rfl ?_
  exact ll_X8_come_47 C hEv hr hz   w _ _ _ _ _ _ _ hm0 hp0 h
noncomputable def f_X8_come  (w : Nat) (μ : MP) (ν : NC) (x1 : Int32) (x2 : Int32) : Option (Nat × ((MP × NC) × Int32)) := (f_X8_requireSide w μ ν x1).bind (fun v1 => bif eqB v1.1 0 then (if x2 < (1 : Int32) then (b_X8_come_15  w μ ν ) else ((if x2 ≤ (100 : Int32) then ((b_X8_come_25  w μ ν x1 x2).bind (fun r => some ((0 : Nat), r))) else (b_X8_come_15  w μ ν )))) else some (v1.1, ((μ, ν), (0 : Int32))))
theorem mb_X8_come_0 {w : Nat} {μ : MP} {ν : NC} {x1 : Int32} {x2 : Int32} {r0 : (MP × NC) × Int32}   (h : f_X8_come  w μ ν x1 x2 = some (0, r0)) : mn ν r0.1.2 := by
  unfold f_X8_come at h
  iterate 40 (try first | (with_reducible (replace h := bind_of h; obtain ⟨rz, hrz, h⟩ := h; replace h := congrArg Prod.snd (Option.some.inj h); obtain rfl := h; exact mb_X8_come_25  hrz)) | (with_reducible replace h := (of_guard h).2) | (with_reducible (replace h := of_guardP h; obtain ⟨hg, h⟩ := h)) | (with_reducible replace h := yl_of h rfl) | (with_reducible replace h := (of_thr h).2) | (with_reducible (replace h := bind_of h; obtain ⟨v, hv, h⟩ := h)) | (with_reducible split at h) | (with_reducible (exact mb_X8_come_15  h)) | (with_reducible exact absurd (congrArg Prod.fst (Option.some.inj h)) (by simp)))
set_option maxHeartbeats 4000000 in
set_option maxRecDepth 100000 in
theorem lb_X8_come_0 {p : Program} {l : Launch} {e : Env} {s : State} {m : MethodId} {args : Array Value} {below : List Frame} {meth : Method} {c : Code} {D : va_G} {E : Nat → ClassId} {sz : Nat} {μ0 : MP} {ν0 : NC} {a : AS} {Ad0 : Nat → Nat → Nat} {w : Nat} {B : Nat × (Nat → Nat)} {r0 : (MP × NC) × Int32} (C : cx p s m args meth c D E (Aof (zS μ0 ν0 a Ad0) [] s.heap.size) cX8_come 9 "TradeLine") (hEv : eV (Ad0 30 0) (Ad0 31 0) B (Aof (zS μ0 ν0 a Ad0) [] s.heap.size) s s.heap) (hr : meth.sig.returnType = (some .int)) (hz : s.heap.size = sz) {μ : MP} {ν : NC} {Ad : Nat → Nat → Nat} (hm0 : mn ν0 ν) (hp0 : kp ν0 Ad0 Ad) {x1 : Int32} {x2 : Int32}   (h : f_X8_come  w μ ν x1 x2 = some (0, r0)) : G p l e ({ frames := 12, cells := kc r0.1.2 - kc ν0, slots := ks r0.1.2 - ks ν0, locals := 346 } : Room) s m args below meth c D E (Aof (zS μ0 ν0 a Ad0) [] s.heap.size) 9 (MQ below (cQ D E sz (zS μ0 ν0 a Ad0) [] (pI (fun r u => r = r0.2 ∧ ∃ A1, u = (zS r0.1.1 r0.1.2 a A1, []) ∧ kp ν0 Ad0 A1))) args s (kc r0.1.2 - kc ν0) (ks r0.1.2 - ks ν0) (Aof (zS μ0 ν0 a Ad0) [] s.heap.size)) (zS μ ν a Ad) [] (kc ν - kc ν0) (ks ν - ks ν0) 0 [(0, .ref (Ad 0 0)), (1, .int x1), (2, .int x2)] [] := by
  have m0 := mb_X8_come_0  h
  have e1 := m0.2.1; have e2 := m0.2.2.1; have e3 := hm0.2.1; have e4 := hm0.2.2.1
  unfold f_X8_come at h
  refine g_iload_n C dX8_come_0 rfl 1 rfl ?_
  obtain ⟨v1, hv1, h⟩ := bind_of h
  obtain ⟨nv1, h⟩ := of_thr h
  refine g_cSv (n := 1) (exc := []) (exr := []) C [_] _ rfl rfl [] [] rfl rfl rfl rfl (fun _ h => absurd h (by simp)) (fun _ h => absurd h (by simp)) (fun _ h => absurd h (by simp)) (fun sz => c_X8_requireSide l μ ν a Ad w x1 _ (thr0 hv1 nv1) D E sz) rfl gw_481 gw_1 gw_479 gw_480 ⟨by decide +kernel, by decide +kernel, by decide +kernel⟩ ⟨rfl, rfl⟩ ⟨Nat.le_of_ble_eq_true rfl, Nat.le_of_ble_eq_true rfl⟩ (by first | exact Nat.le_of_ble_eq_true rfl | simp [nv_cat, cat_i, cat_r, cat_n]) dX8_come_1 ⟨by show (kc ν - kc ν0) + 0 ≤ kc r0.1.2 - kc ν0; omega, by show (ks ν - ks ν0) + 0 ≤ ks r0.1.2 - ks ν0; omega⟩ (fun u hp hx => ?_)
  obtain rfl := hp
  try dsimp only [List.append_nil]
  refine g_iload_n C dX8_come_4 rfl 2 rfl ?_
  refine g_iconst (v := (1 : Int32)) C dX8_come_5 (by decide) ?_
  refine g_icmp_lt (tgt := 15) C dX8_come_6 (by decide) (fun c6 => ?_) (fun c6 => ?_)
  · replace h := (if_pos c6).symm.trans h
    refine g_lv [0] rfl ?_
    exact lb_X8_come_15 C hEv hr hz hm0 hp0   h
  · replace h := (if_neg c6).symm.trans h
    refine g_iload_n C dX8_come_9 rfl 2 rfl ?_
    refine g_bipush (v := (100 : Int32)) C dX8_come_10 (by decide) ?_
    refine g_icmp_le (tgt := 25) C dX8_come_12 (by decide) (fun c12 => ?_) (fun c12 => ?_)
    · replace h := (if_pos c12).symm.trans h
      refine g_lv [0, 1, 2] rfl ?_
      obtain ⟨rz, hrz, h⟩ := bind_of h
      obtain rfl := congrArg Prod.snd (Option.some.inj h)
      exact lb_X8_come_25 C hEv hr hz hm0 hp0   hrz
    · replace h := (if_neg c12).symm.trans h
      refine g_lv [0] rfl ?_
      exact lb_X8_come_15 C hEv hr hz hm0 hp0   h
theorem m_X8_come {w : Nat} {μ : MP} {ν : NC} {x1 : Int32} {x2 : Int32} {r0 : (MP × NC) × Int32} (h : f_X8_come w μ ν x1 x2 = some (0, r0)) : mn ν r0.1.2 := mb_X8_come_0 h
theorem c_X8_come (l : Launch) (B : Nat × (Nat → Nat)) (μ : MP) (ν : NC) (a : AS) (Ad : Nat → Nat → Nat) (w : Nat) (x1 : Int32) (x2 : Int32) (r0 : (MP × NC) × Int32) (h : f_X8_come w μ ν x1 x2 = some (0, r0)) : ∀ D E sz, Met l yX8_come gwX8_come ({ frames := 12, cells := kc r0.1.2 - kc ν, slots := ks r0.1.2 - ks ν, locals := 346 } : Room) (cPe D E sz B (zS μ ν a Ad) [] [] [.ref (Ad 0 0), .int x1, .int x2]) (cQ D E sz (zS μ ν a Ad) [] (pI (fun r u => r = r0.2 ∧ ∃ A1, u = (zS r0.1.1 r0.1.2 a A1, []) ∧ kp ν Ad A1))) (kc r0.1.2 - kc ν) (ks r0.1.2 - ks ν) (Aof (zS μ ν a Ad) [] sz) := by
  intro D E sz
  refine g_ofe (cc := cX8_come) (maxL := 9) (ret := (some .int)) (own := "TradeLine") (by decide) rfl rfl (Nat.le_of_ble_eq_true rfl) ?_
  intro p e s m args below meth c C hr hin hz ha hwr hEv
  refine g_lv (lv' := [(0, .ref (Ad 0 0)), (1, .int x1), (2, .int x2)]) [0, 1, 2] rfl ?_
  refine g_widen (k := kc ν - kc ν) (n := ks ν - ks ν) (Nat.zero_le _) (Nat.zero_le _) ?_
  exact lb_X8_come_0 C hEv hr hz (mn_rfl _) (kp_rfl _ _) h
set_option maxHeartbeats 4000000 in
set_option maxRecDepth 100000 in
theorem lx_X8_come_15 {p : Program} {l : Launch} {e : Env} {s : State} {m : MethodId} {args : Array Value} {below : List Frame} {meth : Method} {c : Code} {D : va_G} {E : Nat → ClassId} {sz : Nat} {μ : MP} {ν : NC} {a : AS} {Ad : Nat → Nat → Nat} {w nx : Nat} {B : Nat × (Nat → Nat)} {r0 : (MP × NC) × Int32} (C : cx p s m args meth c D E (Aof (zS μ ν a Ad) [] s.heap.size) cX8_come 9 "TradeLine") (hEv : eV (Ad 30 0) (Ad 31 0) B (Aof (zS μ ν a Ad) [] s.heap.size) s s.heap) (hl : l.stackTraces = false) (hT : ∀ x ∈ c.exceptionTable.toList, False) (hz : s.heap.size = sz) (h : b_X8_come_15  w μ ν  = some (nx + 1, r0)) : G p l e ({ frames := 12, cells := 1, slots := 6, locals := 346 } : Room) s m args below meth c D E (Aof (zS μ ν a Ad) [] s.heap.size) 9 (vx_MQ below (fun _ _ _ _ => False) (cX D E sz (zS μ ν a Ad) (nx + 1)) args s 1 6 (Aof (zS μ ν a Ad) [] s.heap.size)) (zS μ ν a Ad) [] 0 0 15 [(0, .ref (Ad 0 0))] [] := by
  unfold b_X8_come_15 at h
  obtain rfl : nx = 1 := by have := congrArg Prod.fst (Option.some.inj h); simp at this; omega
  exact g_thS (n := 2) (ic := 97) (text := "many is out of range") C hEv hl hT hz (by decide) gw_498 gw_15 (by decide +kernel) exA_2 (by decide) exG_2 dX8_come_15 dX8_come_18 dX8_come_19 dX8_come_21 dX8_come_24 (by decide) (Nat.le_of_ble_eq_true rfl) (by decide) (by decide)
set_option maxHeartbeats 4000000 in
set_option maxRecDepth 100000 in
theorem lx_X8_come_0 {p : Program} {l : Launch} {e : Env} {s : State} {m : MethodId} {args : Array Value} {below : List Frame} {meth : Method} {c : Code} {D : va_G} {E : Nat → ClassId} {sz : Nat} {μ : MP} {ν : NC} {a : AS} {Ad : Nat → Nat → Nat} {w nx : Nat} {B : Nat × (Nat → Nat)} {r0 : (MP × NC) × Int32} (C : cx p s m args meth c D E (Aof (zS μ ν a Ad) [] s.heap.size) cX8_come 9 "TradeLine") (hEv : eV (Ad 30 0) (Ad 31 0) B (Aof (zS μ ν a Ad) [] s.heap.size) s s.heap) (hl : l.stackTraces = false) (hT : ∀ x ∈ c.exceptionTable.toList, False) (hz : s.heap.size = sz) {x1 : Int32} {x2 : Int32} (h : f_X8_come  w μ ν x1 x2 = some (nx + 1, r0)) : G p l e ({ frames := 12, cells := 1, slots := 6, locals := 346 } : Room) s m args below meth c D E (Aof (zS μ ν a Ad) [] s.heap.size) 9 (vx_MQ below (fun _ _ _ _ => False) (cX D E sz (zS μ ν a Ad) (nx + 1)) args s 1 6 (Aof (zS μ ν a Ad) [] s.heap.size)) (zS μ ν a Ad) [] 0 0 0 [(0, .ref (Ad 0 0)), (1, .int x1), (2, .int x2)] [] := by
  unfold f_X8_come at h
  refine g_iload_n C dX8_come_0 rfl 1 rfl ?_
  obtain ⟨v1, hv1, h⟩ := bind_of h
  rcases of_thx h with ⟨nv1, h⟩ | nv1
  · refine g_cSv (n := 1) (exc := []) (exr := []) C [_] _ rfl rfl [] [] rfl rfl rfl rfl (fun _ h => absurd h (by simp)) (fun _ h => absurd h (by simp)) (fun _ h => absurd h (by simp)) (fun sz => c_X8_requireSide l μ ν a Ad w x1 _ (thr0 hv1 nv1) D E sz) rfl gw_481 gw_1 gw_479 gw_480 ⟨by decide +kernel, by decide +kernel, by decide +kernel⟩ ⟨rfl, rfl⟩ ⟨Nat.le_of_ble_eq_true rfl, Nat.le_of_ble_eq_true rfl⟩ (by first | exact Nat.le_of_ble_eq_true rfl | simp [nv_cat, cat_i, cat_r, cat_n]) dX8_come_1 ⟨by decide, by decide⟩ (fun u hp hx => ?_)
    obtain rfl := hp
    try dsimp only [List.append_nil]
    refine g_iload_n C dX8_come_4 rfl 2 rfl ?_
    refine g_iconst (v := (1 : Int32)) C dX8_come_5 (by decide) ?_
    refine g_icmp_lt (tgt := 15) C dX8_come_6 (by decide) (fun c6 => ?_) (fun c6 => ?_)
    · replace h := (if_pos c6).symm.trans h
      refine g_lv [0] rfl ?_
      exact lx_X8_come_15 C hEv hl hT hz h
    · replace h := (if_neg c6).symm.trans h
      refine g_iload_n C dX8_come_9 rfl 2 rfl ?_
      refine g_bipush (v := (100 : Int32)) C dX8_come_10 (by decide) ?_
      refine g_icmp_le (tgt := 25) C dX8_come_12 (by decide) (fun c12 => ?_) (fun c12 => ?_)
      · replace h := (if_pos c12).symm.trans h
        obtain ⟨_, _, h⟩ := bind_of h
        exact absurd (congrArg Prod.fst (Option.some.inj h)) (by simp)
      · replace h := (if_neg c12).symm.trans h
        refine g_lv [0] rfl ?_
        exact lx_X8_come_15 C hEv hl hT hz h
  · exact g_xS (index := 1) C hEv ⟨rfl, rfl⟩ hT hz [_] _ rfl rfl (fun sz => x_X8_requireSide l hl B μ ν a Ad w x1 _ _ (thrS hv1 nv1) D E sz) rfl gw_481 gw_1 gw_479 gw_480 ⟨by decide +kernel, by decide +kernel, by decide +kernel⟩ ⟨rfl, rfl⟩ ⟨Nat.le_of_ble_eq_true rfl, Nat.le_of_ble_eq_true rfl⟩ (Nat.le_of_ble_eq_true rfl) dX8_come_1 ⟨by decide, by decide⟩
theorem x_X8_come (l : Launch) (hl : l.stackTraces = false) (B : Nat × (Nat → Nat)) (μ : MP) (ν : NC) (a : AS) (Ad : Nat → Nat → Nat) (w : Nat) (x1 : Int32) (x2 : Int32) (nx : Nat) (r0 : (MP × NC) × Int32) (h : f_X8_come w μ ν x1 x2 = some (nx + 1, r0)) : ∀ D E sz, vx_Met l yX8_come gwX8_come ({ frames := 12, cells := 1, slots := 6, locals := 346 } : Room) (cPe D E sz B (zS μ ν a Ad) [] [] [.ref (Ad 0 0), .int x1, .int x2]) (fun _ _ _ _ => False) (cX D E sz (zS μ ν a Ad) (nx + 1)) 1 6 (Aof (zS μ ν a Ad) [] sz) := by
  intro D E sz
  refine g_ofx (cc := cX8_come) (maxL := 9) (ret := (some .int)) (own := "TradeLine") (by decide) rfl rfl (Nat.le_of_ble_eq_true rfl) ?_
  intro p e s m args below meth c C hT hz ha hEv
  refine g_lv (lv' := [(0, .ref (Ad 0 0)), (1, .int x1), (2, .int x2)]) [0, 1, 2] rfl ?_
  exact lx_X8_come_0 C hEv hl hT hz h
