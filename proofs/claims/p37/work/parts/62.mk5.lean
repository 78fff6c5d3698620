noncomputable def b_X8_bodyOfFilled_71 (k71 : MP → NC → Int32 → Int32 → (Nat → Int32) → Nat → (Nat → Int32) → Option ((MP × NC) × Nat × (Nat → Int32))) (w : Nat) (μ : MP) (ν : NC) (x6 : Int32) (x7 : Int32) (f0 : Nat → Int32) (n1 : Nat) (f1 : Nat → Int32) : Option ((MP × NC) × Nat × (Nat → Int32)) := bif ltB 0 (ν.2 0) then bif ltB 5 (ν.2 4) then (if (μ.1 4 5 2) ≤ x7 then (some ((μ, ν), (n1, f1))) else ((if (nI n1) < (x6 + (8 : Int32)) then (some ((μ, ν), (n1, f1))) else ((ls_get μ ν 5 x7).bind (fun v10 => bif eqB (eK 5 5) 23 then bif ltB v10 (ν.2 23) then bif ixB x6 n1 then bif ixB (x6 + (1 : Int32)) n1 then bif ixB (x6 + (2 : Int32)) n1 then bif ixB (x6 + (3 : Int32)) n1 then bif ixB (x6 + (4 : Int32)) n1 then bif ixB (x6 + (5 : Int32)) n1 then bif ixB (x6 + (6 : Int32)) n1 then bif ixB (x6 + (7 : Int32)) n1 then yl (x6 + (8 : Int32)) (fun t21 => yl (x7 + (1 : Int32)) (fun t22 => k71 μ ν t21 t22 f0 n1 (up1 (up1 (up1 (up1 (up1 (up1 (up1 (up1 f1 x6.toNatClampNeg (17 : Int32)) (x6 + (1 : Int32)).toNatClampNeg x7) (x6 + (2 : Int32)).toNatClampNeg (30 : Int32)) (x6 + (3 : Int32)).toNatClampNeg (μ.1 23 v10 1)) (x6 + (4 : Int32)).toNatClampNeg (31 : Int32)) (x6 + (5 : Int32)).toNatClampNeg (μ.1 23 v10 4)) (x6 + (6 : Int32)).toNatClampNeg (32 : Int32)) (x6 + (7 : Int32)).toNatClampNeg (μ.1 23 v10 2)))) else none else none else none else none else none else none else none else none else none else none))))) else none else none
theorem mb_X8_bodyOfFilled_71 {w : Nat} {μ : MP} {ν : NC} {x6 : Int32} {x7 : Int32} {f0 : Nat → Int32} {n1 : Nat} {f1 : Nat → Int32} {r0 : (MP × NC) × Nat × (Nat → Int32)} {k71 : MP → NC → Int32 → Int32 → (Nat → Int32) → Nat → (Nat → Int32) → Option ((MP × NC) × Nat × (Nat → Int32))} (hmk71 : ∀ (μ : MP) (ν : NC) (z6 : Int32) (z7 : Int32) (ff0 : Nat → Int32) (nn1 : Nat) (ff1 : Nat → Int32), k71 μ ν z6 z7 ff0 nn1 ff1 = some r0 → mn ν r0.1.2) (h : b_X8_bodyOfFilled_71 k71 w μ ν x6 x7 f0 n1 f1 = some r0) : mn ν r0.1.2 := by
  unfold b_X8_bodyOfFilled_71 at h
  iterate 40 (try first | (with_reducible replace h := (of_guard h).2) | (with_reducible (replace h := of_guardP h; obtain ⟨hg, h⟩ := h)) | (with_reducible replace h := yl_of h rfl) | (with_reducible replace h := (of_thr h).2) | (with_reducible (replace h := bind_of h; obtain ⟨v, hv, h⟩ := h)) | (with_reducible split at h) | (with_reducible (replace h := Option.some.inj h; obtain rfl := h; exact mn_rfl _)) | (with_reducible (exact hmk71 _ _ _ _ _ _ _ h)) | (with_reducible exact absurd (congrArg Prod.fst (Option.some.inj h)) (by simp)))
set_option maxHeartbeats 4000000 in
set_option maxRecDepth 100000 in
theorem lb_X8_bodyOfFilled_71 {p : Program} {l : Launch} {e : Env} {s : State} {m : MethodId} {args : Array Value} {below : List Frame} {meth : Method} {c : Code} {D : va_G} {E : Nat → ClassId} {sz : Nat} {μ0 : MP} {ν0 : NC} {a : AS} {Ad0 : Nat → Nat → Nat} {w : Nat} {B : Nat × (Nat → Nat)} {r0 : (MP × NC) × Nat × (Nat → Int32)} (C : cx p s m args meth c D E (Aof (zS μ0 ν0 a Ad0) [] s.heap.size) cX8_bodyOfFilled 9 "TradeLine") (hEv : eV (Ad0 30 0) (Ad0 31 0) B (Aof (zS μ0 ν0 a Ad0) [] s.heap.size) s s.heap) (hr : meth.sig.returnType = (some (.array .int))) (hz : s.heap.size = sz) {μ : MP} {ν : NC} {Ad : Nat → Nat → Nat} (hm0 : mn ν0 ν) (hp0 : kp ν0 Ad0 Ad) {x6 : Int32} {x7 : Int32} {f0 : Nat → Int32} {n1 : Nat} {f1 : Nat → Int32} {q0 : Nat} (hq0 : (Aof (zS μ0 ν0 a Ad0) [] s.heap.size) q0) (hs0 : s.heap.size ≤ q0) {q1 : Nat} (hq1 : (Aof (zS μ0 ν0 a Ad0) [] s.heap.size) q1) (hs1 : s.heap.size ≤ q1) {k71 : MP → NC → Int32 → Int32 → (Nat → Int32) → Nat → (Nat → Int32) → Option ((MP × NC) × Nat × (Nat → Int32))} (hmk71 : ∀ (μ : MP) (ν : NC) (z6 : Int32) (z7 : Int32) (ff0 : Nat → Int32) (nn1 : Nat) (ff1 : Nat → Int32), k71 μ ν z6 z7 ff0 nn1 ff1 = some r0 → mn ν r0.1.2) (hk71 : ∀ (μ : MP) (ν : NC) (Ad : Nat → Nat → Nat) (z6 : Int32) (z7 : Int32) (ff0 : Nat → Int32) (nn1 : Nat) (ff1 : Nat → Int32), mn ν0 ν → kp ν0 Ad0 Ad → k71 μ ν z6 z7 ff0 nn1 ff1 = some r0 → G p l e ({ frames := 3, cells := kc r0.1.2 - kc ν0, slots := ks r0.1.2 - ks ν0, locals := 90 } : Room) s m args below meth c D E (Aof (zS μ0 ν0 a Ad0) [] s.heap.size) 9 (MQ below (cQ D E sz (zS μ0 ν0 a Ad0) [] (pQ (fun r u => ∃ q, r = .ref q ∧ ∃ A1, u = (zS r0.1.1 r0.1.2 a A1, [(q, .inl (E 0, r0.2.1, .inl r0.2.2))]) ∧ kp ν0 Ad0 A1))) args s (kc r0.1.2 - kc ν0) (ks r0.1.2 - ks ν0) (Aof (zS μ0 ν0 a Ad0) [] s.heap.size)) (zS μ ν a Ad) [(q0, .inl (E 0, 6, .inl ff0)), (q1, .inl (E 0, nn1, .inl ff1))] (kc ν - kc ν0) (ks ν - ks ν0) 71 [(0, .ref (Ad 0 0)), (5, .ref q1), (6, .int z6), (7, .int z7)] []) (h : b_X8_bodyOfFilled_71 k71 w μ ν x6 x7 f0 n1 f1 = some r0) : G p l e ({ frames := 3, cells := kc r0.1.2 - kc ν0, slots := ks r0.1.2 - ks ν0, locals := 90 } : Room) s m args below meth c D E (Aof (zS μ0 ν0 a Ad0) [] s.heap.size) 9 (MQ below (cQ D E sz (zS μ0 ν0 a Ad0) [] (pQ (fun r u => ∃ q, r = .ref q ∧ ∃ A1, u = (zS r0.1.1 r0.1.2 a A1, [(q, .inl (E 0, r0.2.1, .inl r0.2.2))]) ∧ kp ν0 Ad0 A1))) args s (kc r0.1.2 - kc ν0) (ks r0.1.2 - ks ν0) (Aof (zS μ0 ν0 a Ad0) [] s.heap.size)) (zS μ ν a Ad) [(q0, .inl (E 0, 6, .inl f0)), (q1, .inl (E 0, n1, .inl f1))] (kc ν - kc ν0) (ks ν - ks ν0) 71 [(0, .ref (Ad 0 0)), (5, .ref q1), (6, .int x6), (7, .int x7)] [] := by
  have m0 := mb_X8_bodyOfFilled_71 hmk71 h
  have e1 := m0.2.1; have e2 := m0.2.2.1; have e3 := hm0.2.1; have e4 := hm0.2.2.1
  unfold b_X8_bodyOfFilled_71 at h
  refine g_iload C dX8_bodyOfFilled_71 3 rfl ?_
  refine g_aload_n C dX8_bodyOfFilled_73 rfl 0 rfl ?_
  obtain ⟨g8, h⟩ := of_guard h
  refine g_get (k := 0) (i := 0) (ref := "TradeLine") (v := .ref (Ad 4 5)) C rfl (lvZ g8 rfl) rfl rfl inGX8 5 (by decide) gw_175 (fun _ h => h) rfl dX8_bodyOfFilled_74 ?_
  obtain ⟨g9, h⟩ := of_guard h
  refine g_cVi (n := 0) (exc := []) (exr := [(q0, .inl (E 0, 6, .inl f0)), (q1, .inl (E 0, n1, .inl f1))]) C [] _ rfl rfl [] [0, 1] rfl rfl rfl rfl (fun _ h => by simp) (fun _ h => absurd h (by simp)) (fun _ h => absurd h (by simp)) (fun sz => c_Jx4a65c_size_8abf5 l μ ν a Ad _ g9 D E sz) rfl gw_308 gw_5 gw_305 gw_306 gw_307 ⟨by decide +kernel, by decide +kernel, by decide +kernel⟩ ⟨rfl, rfl⟩ ⟨Nat.le_of_ble_eq_true rfl, Nat.le_of_ble_eq_true rfl⟩ (rcvT (lvZ g9 rfl) rfl rfl rfl) (by first | exact Nat.le_of_ble_eq_true rfl | simp [nv_cat, cat_i, cat_r, cat_n]) dX8_bodyOfFilled_77 ⟨by show (kc ν - kc ν0) + 0 ≤ kc r0.1.2 - kc ν0; omega, by show (ks ν - ks ν0) + 0 ≤ ks r0.1.2 - ks ν0; omega⟩ (fun r u hp hx => ?_)
  obtain ⟨er, rfl⟩ := hp
  rw [er]
  try dsimp only [List.append_nil]
  refine g_icmp_ge (tgt := 198) C dX8_bodyOfFilled_80 (by decide) (fun c80 => ?_) (fun c80 => ?_)
  · replace h := (if_pos c80).symm.trans h
    refine g_aload C dX8_bodyOfFilled_198 1 rfl ?_
    refine g_ex (ex' := [(q1, .inl (E 0, n1, .inl f1))]) [1] rfl rfl ?_
    obtain rfl := Option.some.inj h
    exact g_aret C hr (Or.inr ⟨_, rfl⟩) (Or.inr ⟨_, rfl⟩) hz ⟨(hm0.2.2.2 30 (by decide) (by decide)).1, (hm0.2.2.2 31 (by decide) (by decide)).1, hp0.2.1, hp0.2.2⟩ ⟨q1, rfl, Ad, rfl, hp0⟩ (fun j x h => by match j, h with | 0, h => cases h; exact Or.inr hs1) dX8_bodyOfFilled_200
  · replace h := (if_neg c80).symm.trans h
    refine g_iload C dX8_bodyOfFilled_83 2 rfl ?_
    refine g_bipush (v := (8 : Int32)) C dX8_bodyOfFilled_85 (by decide) ?_
    refine g_iadd C dX8_bodyOfFilled_87 ?_
    refine g_aload C dX8_bodyOfFilled_88 1 rfl ?_
    refine g_alenL (t0 := 0) (v := nI n1) C 1 rfl rfl rfl dX8_bodyOfFilled_90 ?_
    refine g_icmp_gt (tgt := 198) C dX8_bodyOfFilled_91 (by decide) (fun c91 => ?_) (fun c91 => ?_)
    · replace h := (if_pos c91).symm.trans h
      refine g_aload C dX8_bodyOfFilled_198 1 rfl ?_
      refine g_ex (ex' := [(q1, .inl (E 0, n1, .inl f1))]) [1] rfl rfl ?_
      obtain rfl := Option.some.inj h
      exact g_aret C hr (Or.inr ⟨_, rfl⟩) (Or.inr ⟨_, rfl⟩) hz ⟨(hm0.2.2.2 30 (by decide) (by decide)).1, (hm0.2.2.2 31 (by decide) (by decide)).1, hp0.2.1, hp0.2.2⟩ ⟨q1, rfl, Ad, rfl, hp0⟩ (fun j x h => by match j, h with | 0, h => cases h; exact Or.inr hs1) dX8_bodyOfFilled_200
    · replace h := (if_neg c91).symm.trans h
      refine g_aload_n C dX8_bodyOfFilled_94 rfl 0 rfl ?_
      refine g_get (k := 0) (i := 0) (ref := "TradeLine") (v := .ref (Ad 4 5)) C rfl (lvZ g8 rfl) rfl rfl inGX8 5 (by decide) gw_175 (fun _ h => h) rfl dX8_bodyOfFilled_95 ?_
      refine g_iload C dX8_bodyOfFilled_98 3 rfl ?_
      obtain ⟨v10, hv10, h⟩ := bind_of h
      refine g_cVq (n := 1) (exc := []) (exr := [(q0, .inl (E 0, 6, .inl f0)), (q1, .inl (E 0, n1, .inl f1))]) C [_] _ rfl rfl [] [0, 1] rfl rfl rfl rfl (fun _ h => by simp) (fun _ h => absurd h (by simp)) (fun _ h => absurd h (by simp)) (fun sz => c_Jx4a65c_get_915e3 l μ ν a Ad _ _ _ hv10 D E sz) rfl gw_543 gw_5 gw_576 gw_541 gw_542 ⟨by decide +kernel, by decide +kernel, by decide +kernel⟩ ⟨rfl, rfl⟩ ⟨Nat.le_of_ble_eq_true rfl, Nat.le_of_ble_eq_true rfl⟩ (rcvT (lvZ g9 rfl) rfl rfl rfl) (by first | exact Nat.le_of_ble_eq_true rfl | simp [nv_cat, cat_i, cat_r, cat_n]) dX8_bodyOfFilled_100 ⟨by show (kc ν - kc ν0) + 0 ≤ kc r0.1.2 - kc ν0; omega, by show (ks ν - ks ν0) + 0 ≤ ks r0.1.2 - ks ν0; omega⟩ (fun r u hp hx => ?_)
      obtain ⟨er, rfl⟩ := hp
      rw [er]
      try dsimp only [List.append_nil]
      obtain ⟨g11, h⟩ := of_guard h
      rw [eqB_e g11]
      obtain ⟨g12, h⟩ := of_guard h
      refine z_cast (k := 23) (i := v10) C (lvZ g12 rfl) rfl rfl gw_893 dX8_bodyOfFilled_103 ?_
      refine z_astore (lv' := [(8, .ref (Ad 23 v10)), (0, .ref (Ad 0 0)), (5, .ref q1), (6, .int x6), (7, .int x7)]) C dX8_bodyOfFilled_106 (Or.inr ⟨_, rfl⟩) (by decide) rfl ?_
      refine g_aload C dX8_bodyOfFilled_108 2 rfl ?_
      refine g_iload C dX8_bodyOfFilled_110 3 rfl ?_
      refine g_bipush (v := (17 : Int32)) C dX8_bodyOfFilled_112 (by decide) ?_
      obtain ⟨g13, h⟩ := of_guard h
      refine g_iastL C 1 rfl hq1 (ixB_in g13) (ex' := [(q0, .inl (E 0, 6, .inl f0)), (q1, .inl (E 0, n1, .inl (up1 f1 x6.toNatClampNeg (17 : Int32))))]) rfl dX8_bodyOfFilled_114 ?_
      refine g_aload C dX8_bodyOfFilled_115 2 rfl ?_
      refine g_iload C dX8_bodyOfFilled_117 3 rfl ?_
      refine g_iconst (v := (1 : Int32)) C dX8_bodyOfFilled_119 (by decide) ?_
      refine g_iadd C dX8_bodyOfFilled_120 ?_
      refine g_iload C dX8_bodyOfFilled_121 4 rfl ?_
      obtain ⟨g14, h⟩ := of_guard h
      refine g_iastL C 1 rfl hq1 (ixB_in g14) (ex' := [(q0, .inl (E 0, 6, .inl f0)), (q1, .inl (E 0, n1, .inl (up1 (up1 f1 x6.toNatClampNeg (17 : Int32)) (x6 + (1 : Int32)).toNatClampNeg x7)))]) rfl dX8_bodyOfFilled_123 ?_
      refine g_aload C dX8_bodyOfFilled_124 2 rfl ?_
      refine g_iload C dX8_bodyOfFilled_126 3 rfl ?_
      refine g_iconst (v := (2 : Int32)) C dX8_bodyOfFilled_128 (by decide) ?_
      refine g_iadd C dX8_bodyOfFilled_129 ?_
      refine g_bipush (v := (30 : Int32)) C dX8_bodyOfFilled_130 (by decide) ?_
      obtain ⟨g15, h⟩ := of_guard h
      refine g_iastL C 1 rfl hq1 (ixB_in g15) (ex' := [(q0, .inl (E 0, 6, .inl f0)), (q1, .inl (E 0, n1, .inl (up1 (up1 (up1 f1 x6.toNatClampNeg (17 : Int32)) (x6 + (1 : Int32)).toNatClampNeg x7) (x6 + (2 : Int32)).toNatClampNeg (30 : Int32))))]) rfl dX8_bodyOfFilled_132 ?_
      refine g_aload C dX8_bodyOfFilled_133 2 rfl ?_
      refine g_iload C dX8_bodyOfFilled_135 3 rfl ?_
      refine g_iconst (v := (3 : Int32)) C dX8_bodyOfFilled_137 (by decide) ?_
      refine g_iadd C dX8_bodyOfFilled_138 ?_
      refine g_aload C dX8_bodyOfFilled_139 0 rfl ?_
      refine g_get (k := 23) (i := v10) (ref := "TradeLine$Execution") (v := .int (μ.1 23 v10 1)) C rfl (lvZ g12 rfl) rfl rfl inGX2 1 (by decide) gw_902 (fun _ h => h) rfl dX8_bodyOfFilled_141 ?_
      obtain ⟨g16, h⟩ := of_guard h
      refine g_iastL C 1 rfl hq1 (ixB_in g16) (ex' := [(q0, .inl (E 0, 6, .inl f0)), (q1, .inl (E 0, n1, .inl (up1 (up1 (up1 (up1 f1 x6.toNatClampNeg (17 : Int32)) (x6 + (1 : Int32)).toNatClampNeg x7) (x6 + (2 : Int32)).toNatClampNeg (30 : Int32)) (x6 + (3 : Int32)).toNatClampNeg (μ.1 23 v10 1))))]) rfl dX8_bodyOfFilled_144 ?_
      refine g_aload C dX8_bodyOfFilled_145 2 rfl ?_
      refine g_iload C dX8_bodyOfFilled_147 3 rfl ?_
      refine g_iconst (v := (4 : Int32)) C dX8_bodyOfFilled_149 (by decide) ?_
      refine g_iadd C dX8_bodyOfFilled_150 ?_
      refine g_bipush (v := (31 : Int32)) C dX8_bodyOfFilled_151 (by decide) ?_
      obtain ⟨g17, h⟩ := of_guard h
      refine g_iastL C 1 rfl hq1 (ixB_in g17) (ex' := [(q0, .inl (E 0, 6, .inl f0)), (q1, .inl (E 0, n1, .inl (up1 (up1 (up1 (up1 (up1 f1 x6.toNatClampNeg (17 : Int32)) (x6 + (1 : Int32)).toNatClampNeg x7) (x6 + (2 : Int32)).toNatClampNeg (30 : Int32)) (x6 + (3 : Int32)).toNatClampNeg (μ.1 23 v10 1)) (x6 + (4 : Int32)).toNatClampNeg (31 : Int32))))]) rfl dX8_bodyOfFilled_153 ?_
      refine g_aload C dX8_bodyOfFilled_154 2 rfl ?_
      refine g_iload C dX8_bodyOfFilled_156 3 rfl ?_
      refine g_iconst (v := (5 : Int32)) C dX8_bodyOfFilled_158 (by decide) ?_
      refine g_iadd C dX8_bodyOfFilled_159 ?_
      refine g_aload C dX8_bodyOfFilled_160 0 rfl ?_
      refine g_get (k := 23) (i := v10) (ref := "TradeLine$Execution") (v := .int (μ.1 23 v10 4)) C rfl (lvZ g12 rfl) rfl rfl inGX2 4 (by decide) gw_908 (fun _ h => h) rfl dX8_bodyOfFilled_162 ?_
      obtain ⟨g18, h⟩ := of_guard h
      refine g_iastL C 1 rfl hq1 (ixB_in g18) (ex' := [(q0, .inl (E 0, 6, .inl f0)), (q1, .inl (E 0, n1, .inl (up1 (up1 (up1 (up1 (up1 (up1 f1 x6.toNatClampNeg (17 : Int32)) (x6 + (1 : Int32)).toNatClampNeg x7) (x6 + (2 : Int32)).toNatClampNeg (30 : Int32)) (x6 + (3 : Int32)).toNatClampNeg (μ.1 23 v10 1)) (x6 + (4 : Int32)).toNatClampNeg (31 : Int32)) (x6 + (5 : Int32)).toNatClampNeg (μ.1 23 v10 4))))]) rfl dX8_bodyOfFilled_165 ?_
      refine g_aload C dX8_bodyOfFilled_166 2 rfl ?_
      refine g_iload C dX8_bodyOfFilled_168 3 rfl ?_
      refine g_bipush (v := (6 : Int32)) C dX8_bodyOfFilled_170 (by decide) ?_
      refine g_iadd C dX8_bodyOfFilled_172 ?_
      refine g_bipush (v := (32 : Int32)) C dX8_bodyOfFilled_173 (by decide) ?_
      obtain ⟨g19, h⟩ := of_guard h
      refine g_iastL C 1 rfl hq1 (ixB_in g19) (ex' := [(q0, .inl (E 0, 6, .inl f0)), (q1, .inl (E 0, n1, .inl (up1 (up1 (up1 (up1 (up1 (up1 (up1 f1 x6.toNatClampNeg (17 : Int32)) (x6 + (1 : Int32)).toNatClampNeg x7) (x6 + (2 : Int32)).toNatClampNeg (30 : Int32)) (x6 + (3 : Int32)).toNatClampNeg (μ.1 23 v10 1)) (x6 + (4 : Int32)).toNatClampNeg (31 : Int32)) (x6 + (5 : Int32)).toNatClampNeg (μ.1 23 v10 4)) (x6 + (6 : Int32)).toNatClampNeg (32 : Int32))))]) rfl dX8_bodyOfFilled_175 ?_
      refine g_aload C dX8_bodyOfFilled_176 2 rfl ?_
      refine g_iload C dX8_bodyOfFilled_178 3 rfl ?_
      refine g_bipush (v := (7 : Int32)) C dX8_bodyOfFilled_180 (by decide) ?_
      refine g_iadd C dX8_bodyOfFilled_182 ?_
      refine g_aload C dX8_bodyOfFilled_183 0 rfl ?_
      refine g_get (k := 23) (i := v10) (ref := "TradeLine$Execution") (v := .int (μ.1 23 v10 2)) C rfl (lvZ g12 rfl) rfl rfl inGX2 2 (by decide) gw_904 (fun _ h => h) rfl dX8_bodyOfFilled_185 ?_
      obtain ⟨g20, h⟩ := of_guard h
      refine g_iastL C 1 rfl hq1 (ixB_in g20) (ex' := [(q0, .inl (E 0, 6, .inl f0)), (q1, .inl (E 0, n1, .inl (up1 (up1 (up1 (up1 (up1 (up1 (up1 (up1 f1 x6.toNatClampNeg (17 : Int32)) (x6 + (1 : Int32)).toNatClampNeg x7) (x6 + (2 : Int32)).toNatClampNeg (30 : Int32)) (x6 + (3 : Int32)).toNatClampNeg (μ.1 23 v10 1)) (x6 + (4 : Int32)).toNatClampNeg (31 : Int32)) (x6 + (5 : Int32)).toNatClampNeg (μ.1 23 v10 4)) (x6 + (6 : Int32)).toNatClampNeg (32 : Int32)) (x6 + (7 : Int32)).toNatClampNeg (μ.1 23 v10 2))))]) rfl dX8_bodyOfFilled_188 ?_
      obtain ⟨t21, et21⟩ : ∃ y : Int32, x6 + (8 : Int32) = y := ⟨_, rfl⟩
      replace h := yl_of h et21
      refine g_iinc (v := t21) (lv' := [(6, .int t21), (8, .ref (Ad 23 v10)), (0, .ref (Ad 0 0)), (5, .ref q1), (7, .int x7)]) C dX8_bodyOfFilled_189 3 rfl (by rw [← et21]; rfl) (by decide) rfl ?_
      obtain ⟨t22, et22⟩ : ∃ y : Int32, x7 + (1 : Int32) = y := ⟨_, rfl⟩
      replace h := yl_of h et22
      refine g_iinc (v := t22) (lv' := [(7, .int t22), (6, .int t21), (8, .ref (Ad 23 v10)), (0, .ref (Ad 0 0)), (5, .ref q1)]) C dX8_bodyOfFilled_192 4 rfl (by rw [← et22]; rfl) (by decide) rfl ?_
      refine g_goto (tgt := 71) C dX8_bodyOfFilled_195 (by decide) ?_
      refine g_lv [3, 4, 1, 0] rfl ?_
      exact hk71 _ _ _ _ _ _ _ _ hm0 hp0 h
noncomputable def l_X8_bodyOfFilled_71  (w : Nat) : Nat → MP → NC → Int32 → Int32 → (Nat → Int32) → Nat → (Nat → Int32) → Option ((MP × NC) × Nat × (Nat → Int32))
  | 0 => fun _ _ _ _ _ _ _ => none
  | n + 1 => fun μ ν x6 x7 f0 n1 f1 => b_X8_bodyOfFilled_71  (l_X8_bodyOfFilled_71  w n) w μ ν x6 x7 f0 n1 f1
theorem ml_X8_bodyOfFilled_71 {w : Nat} {r0 : (MP × NC) × Nat × (Nat → Int32)}   : ∀ (n : Nat) (μ : MP) (ν : NC) (x6 : Int32) (x7 : Int32) (f0 : Nat → Int32) (n1 : Nat) (f1 : Nat → Int32), l_X8_bodyOfFilled_71  w n μ ν x6 x7 f0 n1 f1 = some r0 → mn ν r0.1.2 := by
  intro n
  induction n with
  | zero => exact fun μ ν x6 x7 f0 n1 f1 h => absurd (show (none : Option ((MP × NC) × Nat × (Nat → Int32))) = some r0 from h) (by simp)
  | succ n ih => exact fun μ ν x6 x7 f0 n1 f1 h => mb_X8_bodyOfFilled_71 (w := w)  ih h
theorem ll_X8_bodyOfFilled_71 {p : Program} {l : Launch} {e : Env} {s : State} {m : MethodId} {args : Array Value} {below : List Frame} {meth : Method} {c : Code} {D : va_G} {E : Nat → ClassId} {sz : Nat} {μ0 : MP} {ν0 : NC} {a : AS} {Ad0 : Nat → Nat → Nat} {w : Nat} {B : Nat × (Nat → Nat)} {r0 : (MP × NC) × Nat × (Nat → Int32)} (C : cx p s m args meth c D E (Aof (zS μ0 ν0 a Ad0) [] s.heap.size) cX8_bodyOfFilled 9 "TradeLine") (hEv : eV (Ad0 30 0) (Ad0 31 0) B (Aof (zS μ0 ν0 a Ad0) [] s.heap.size) s s.heap) (hr : meth.sig.returnType = (some (.array .int))) (hz : s.heap.size = sz)  {q0 : Nat} (hq0 : (Aof (zS μ0 ν0 a Ad0) [] s.heap.size) q0) (hs0 : s.heap.size ≤ q0) {q1 : Nat} (hq1 : (Aof (zS μ0 ν0 a Ad0) [] s.heap.size) q1) (hs1 : s.heap.size ≤ q1)   : ∀ (n : Nat) (μ : MP) (ν : NC) (Ad : Nat → Nat → Nat) (x6 : Int32) (x7 : Int32) (f0 : Nat → Int32) (n1 : Nat) (f1 : Nat → Int32), mn ν0 ν → kp ν0 Ad0 Ad → l_X8_bodyOfFilled_71  w n μ ν x6 x7 f0 n1 f1 = some r0 → G p l e ({ frames := 3, cells := kc r0.1.2 - kc ν0, slots := ks r0.1.2 - ks ν0, locals := 90 } : Room) s m args below meth c D E (Aof (zS μ0 ν0 a Ad0) [] s.heap.size) 9 (MQ below (cQ D E sz (zS μ0 ν0 a Ad0) [] (pQ (fun r u => ∃ q, r = .ref q ∧ ∃ A1, u = (zS r0.1.1 r0.1.2 a A1, [(q, .inl (E 0, r0.2.1, .inl r0.2.2))]) ∧ kp ν0 Ad0 A1))) args s (kc r0.1.2 - kc ν0) (ks r0.1.2 - ks ν0) (Aof (zS μ0 ν0 a Ad0) [] s.heap.size)) (zS μ ν a Ad) [(q0, .inl (E 0, 6, .inl f0)), (q1, .inl (E 0, n1, .inl f1))] (kc ν - kc ν0) (ks ν - ks ν0) 71 [(0, .ref (Ad 0 0)), (5, .ref q1), (6, .int x6), (7, .int x7)] [] := by
  intro n
  induction n with
  | zero => exact fun μ ν Ad x6 x7 f0 n1 f1 hm0 hp0 h => absurd (show (none : Option ((MP × NC) × Nat × (Nat → Int32))) = some r0 from h) (by simp)
  | succ n ih => exact fun μ ν Ad x6 x7 f0 n1 f1 hm0 hp0 h => lb_X8_bodyOfFilled_71 (w := w) C hEv hr hz hm0 hp0 hq0 hs0 hq1 hs1  (ml_X8_bodyOfFilled_71  n) ih h
noncomputable def b_X8_bodyOfFilled_61  (w : Nat) (μ : MP) (ν : NC) (x2 : Int32) (f0 : Nat → Int32) (n1 : Nat) (f1 : Nat → Int32) : Option ((MP × NC) × Nat × (Nat → Int32)) := yl ((nI 6)) (fun t7 => l_X8_bodyOfFilled_71  w w μ ν t7 x2 f0 n1 f1)
theorem mb_X8_bodyOfFilled_61 {w : Nat} {μ : MP} {ν : NC} {x2 : Int32} {f0 : Nat → Int32} {n1 : Nat} {f1 : Nat → Int32} {r0 : (MP × NC) × Nat × (Nat → Int32)}   (h : b_X8_bodyOfFilled_61  w μ ν x2 f0 n1 f1 = some r0) : mn ν r0.1.2 := by
  unfold b_X8_bodyOfFilled_61 at h
  iterate 40 (try first | (with_reducible replace h := (of_guard h).2) | (with_reducible (replace h := of_guardP h; obtain ⟨hg, h⟩ := h)) | (with_reducible replace h := yl_of h rfl) | (with_reducible replace h := (of_thr h).2) | (with_reducible (replace h := bind_of h; obtain ⟨v, hv, h⟩ := h)) | (with_reducible split at h) | (with_reducible (exact ml_X8_bodyOfFilled_71  _ _ _ _ _ _ _ _ h)) | (with_reducible exact absurd (congrArg Prod.fst (Option.some.inj h)) (by simp)))
set_option maxHeartbeats 4000000 in
set_option maxRecDepth 100000 in
theorem lb_X8_bodyOfFilled_61 {p : Program} {l : Launch} {e : Env} {s : State} {m : MethodId} {args : Array Value} {below : List Frame} {meth : Method} {c : Code} {D : va_G} {E : Nat → ClassId} {sz : Nat} {μ0 : MP} {ν0 : NC} {a : AS} {Ad0 : Nat → Nat → Nat} {w : Nat} {B : Nat × (Nat → Nat)} {r0 : (MP × NC) × Nat × (Nat → Int32)} (C : cx p s m args meth c D E (Aof (zS μ0 ν0 a Ad0) [] s.heap.size) cX8_bodyOfFilled 9 "TradeLine") (hEv : eV (Ad0 30 0) (Ad0 31 0) B (Aof (zS μ0 ν0 a Ad0) [] s.heap.size) s s.heap) (hr : meth.sig.returnType = (some (.array .int))) (hz : s.heap.size = sz) {μ : MP} {ν : NC} {Ad : Nat → Nat → Nat} (hm0 : mn ν0 ν) (hp0 : kp ν0 Ad0 Ad) {x2 : Int32} {f0 : Nat → Int32} {n1 : Nat} {f1 : Nat → Int32} {q0 : Nat} (hq0 : (Aof (zS μ0 ν0 a Ad0) [] s.heap.size) q0) (hs0 : s.heap.size ≤ q0) {q1 : Nat} (hq1 : (Aof (zS μ0 ν0 a Ad0) [] s.heap.size) q1) (hs1 : s.heap.size ≤ q1)   (h : b_X8_bodyOfFilled_61  w μ ν x2 f0 n1 f1 = some r0) : G p l e ({ frames := 3, cells := kc r0.1.2 - kc ν0, slots := ks r0.1.2 - ks ν0, locals := 90 } : Room) s m args below meth c D E (Aof (zS μ0 ν0 a Ad0) [] s.heap.size) 9 (MQ below (cQ D E sz (zS μ0 ν0 a Ad0) [] (pQ (fun r u => ∃ q, r = .ref q ∧ ∃ A1, u = (zS r0.1.1 r0.1.2 a A1, [(q, .inl (E 0, r0.2.1, .inl r0.2.2))]) ∧ kp ν0 Ad0 A1))) args s (kc r0.1.2 - kc ν0) (ks r0.1.2 - ks ν0) (Aof (zS μ0 ν0 a Ad0) [] s.heap.size)) (zS μ ν a Ad) [(q0, .inl (E 0, 6, .inl f0)), (q1, .inl (E 0, n1, .inl f1))] (kc ν - kc ν0) (ks ν - ks ν0) 61 [(0, .ref (Ad 0 0)), (2, .int x2), (4, .ref q0)] [.ref q1] := by
  have m0 := mb_X8_bodyOfFilled_61  h
  have e1 := m0.2.1; have e2 := m0.2.2.1; have e3 := hm0.2.1; have e4 := hm0.2.2.1
  unfold b_X8_bodyOfFilled_61 at h
  refine g_astore (lv' := [(5, .ref q1), (0, .ref (Ad 0 0)), (2, .int x2), (4, .ref q0)]) C dX8_bodyOfFilled_61 (by decide) rfl ?_
  refine g_aload C dX8_bodyOfFilled_63 3 rfl ?_
  refine g_alenL (t0 := 0) (v := nI 6) C 0 rfl rfl rfl dX8_bodyOfFilled_65 ?_
  refine q_topi (fun t7 et7 => ?_)
  replace h := yl_of h et7
  refine g_istore (lv' := [(6, .int t7), (5, .ref q1), (0, .ref (Ad 0 0)), (2, .int x2), (4, .ref q0)]) C dX8_bodyOfFilled_66 (by decide) rfl ?_
  refine g_iload_n C dX8_bodyOfFilled_68 rfl 3 rfl ?_
  refine g_istore (lv' := [(7, .int x2), (6, .int t7), (5, .ref q1), (0, .ref (Ad 0 0)), (2, .int x2), (4, .ref q0)]) C dX8_bodyOfFilled_69 (by decide) rfl ?_
  refine g_lv [3, 2, 1, 0] rfl ?_
  exact ll_X8_bodyOfFilled_71 C hEv hr hz hq0 hs0 hq1 hs1  w _ _ _ _ _ _ _ _ hm0 hp0 h
noncomputable def b_X8_bodyOfFilled_14  (w : Nat) (μ : MP) (ν : NC) (p1 : Nat) (x2 : Int32) (x3 : Int32) (f0 : Nat → Int32) : Option ((MP × NC) × Nat × (Nat → Int32)) := bif nzB p1 then bif ltB (p1 - 1) (ν.2 20) then bif (!decide (((nI 6) + ((8 : Int32) * x3)) < 0) && decide (6 < ((nI 6) + ((8 : Int32) * x3)).toNatClampNeg) && decide (((nI 6) + ((8 : Int32) * x3)).toNatClampNeg ≤ 8388608)) then b_X8_bodyOfFilled_61  w μ (chg ν 1 ((nI 6) + ((8 : Int32) * x3)).toNatClampNeg) x2 (up1 (up1 (up1 (up1 (up1 (up1 f0 0 (150 : Int32)) 1 (1 : Int32)) 2 (37 : Int32)) 3 (μ.1 20 (p1 - 1) 0)) 4 (382 : Int32)) 5 x3) ((nI 6) + ((8 : Int32) * x3)).toNatClampNeg (va_cpy (up1 (up1 (up1 (up1 (up1 (up1 f0 0 (150 : Int32)) 1 (1 : Int32)) 2 (37 : Int32)) 3 (μ.1 20 (p1 - 1) 0)) 4 (382 : Int32)) 5 x3) (fun _ => 0) 0 0 6) else none else none else none
theorem mb_X8_bodyOfFilled_14 {w : Nat} {μ : MP} {ν : NC} {p1 : Nat} {x2 : Int32} {x3 : Int32} {f0 : Nat → Int32} {r0 : (MP × NC) × Nat × (Nat → Int32)}   (h : b_X8_bodyOfFilled_14  w μ ν p1 x2 x3 f0 = some r0) : mn ν r0.1.2 := by
  unfold b_X8_bodyOfFilled_14 at h
  iterate 40 (try first | (with_reducible replace h := (of_guard h).2) | (with_reducible (replace h := of_guardP h; obtain ⟨hg, h⟩ := h)) | (with_reducible replace h := yl_of h rfl) | (with_reducible replace h := (of_thr h).2) | (with_reducible (replace h := bind_of h; obtain ⟨v, hv, h⟩ := h)) | (with_reducible split at h) | (with_reducible (exact mn_trans (mn_chg _ _ _) (mb_X8_bodyOfFilled_61  h))) | (with_reducible exact absurd (congrArg Prod.fst (Option.some.inj h)) (by simp)))
set_option maxHeartbeats 4000000 in
set_option maxRecDepth 100000 in
theorem lb_X8_bodyOfFilled_14 {p : Program} {l : Launch} {e : Env} {s : State} {m : MethodId} {args : Array Value} {below : List Frame} {meth : Method} {c : Code} {D : va_G} {E : Nat → ClassId} {sz : Nat} {μ0 : MP} {ν0 : NC} {a : AS} {Ad0 : Nat → Nat → Nat} {w : Nat} {B : Nat × (Nat → Nat)} {r0 : (MP × NC) × Nat × (Nat → Int32)} (C : cx p s m args meth c D E (Aof (zS μ0 ν0 a Ad0) [] s.heap.size) cX8_bodyOfFilled 9 "TradeLine") (hEv : eV (Ad0 30 0) (Ad0 31 0) B (Aof (zS μ0 ν0 a Ad0) [] s.heap.size) s s.heap) (hr : meth.sig.returnType = (some (.array .int))) (hz : s.heap.size = sz) {μ : MP} {ν : NC} {Ad : Nat → Nat → Nat} (hm0 : mn ν0 ν) (hp0 : kp ν0 Ad0 Ad) {p1 : Nat} {x2 : Int32} {x3 : Int32} {f0 : Nat → Int32} {q0 : Nat} (hq0 : (Aof (zS μ0 ν0 a Ad0) [] s.heap.size) q0) (hs0 : s.heap.size ≤ q0)   (h : b_X8_bodyOfFilled_14  w μ ν p1 x2 x3 f0 = some r0) : G p l e ({ frames := 3, cells := kc r0.1.2 - kc ν0, slots := ks r0.1.2 - ks ν0, locals := 90 } : Room) s m args below meth c D E (Aof (zS μ0 ν0 a Ad0) [] s.heap.size) 9 (MQ below (cQ D E sz (zS μ0 ν0 a Ad0) [] (pQ (fun r u => ∃ q, r = .ref q ∧ ∃ A1, u = (zS r0.1.1 r0.1.2 a A1, [(q, .inl (E 0, r0.2.1, .inl r0.2.2))]) ∧ kp ν0 Ad0 A1))) args s (kc r0.1.2 - kc ν0) (ks r0.1.2 - ks ν0) (Aof (zS μ0 ν0 a Ad0) [] s.heap.size)) (zS μ ν a Ad) [(q0, .inl (E 0, 6, .inl f0))] (kc ν - kc ν0) (ks ν - ks ν0) 14 [(0, .ref (Ad 0 0)), (1, nv (Ad 20) p1), (2, .int x2), (3, .int x3)] [.ref q0] := by
  have m0 := mb_X8_bodyOfFilled_14  h
  have e1 := m0.2.1; have e2 := m0.2.2.1; have e3 := hm0.2.1; have e4 := hm0.2.2.1
  unfold b_X8_bodyOfFilled_14 at h
  refine g_dup C dX8_bodyOfFilled_14 rfl ?_
  refine g_iconst (v := (0 : Int32)) C dX8_bodyOfFilled_15 (by decide) ?_
  refine g_sipush (v := (150 : Int32)) C dX8_bodyOfFilled_16 (by decide) ?_
  refine g_iastL C 0 rfl hq0 (ixB_in rfl) (ex' := [(q0, .inl (E 0, 6, .inl (up1 f0 0 (150 : Int32))))]) rfl dX8_bodyOfFilled_19 ?_
  refine g_dup C dX8_bodyOfFilled_20 rfl ?_
  refine g_iconst (v := (1 : Int32)) C dX8_bodyOfFilled_21 (by decide) ?_
  refine g_iconst (v := (1 : Int32)) C dX8_bodyOfFilled_22 (by decide) ?_
  refine g_iastL C 0 rfl hq0 (ixB_in rfl) (ex' := [(q0, .inl (E 0, 6, .inl (up1 (up1 f0 0 (150 : Int32)) 1 (1 : Int32))))]) rfl dX8_bodyOfFilled_23 ?_
  refine g_dup C dX8_bodyOfFilled_24 rfl ?_
  refine g_iconst (v := (2 : Int32)) C dX8_bodyOfFilled_25 (by decide) ?_
  refine g_bipush (v := (37 : Int32)) C dX8_bodyOfFilled_26 (by decide) ?_
  refine g_iastL C 0 rfl hq0 (ixB_in rfl) (ex' := [(q0, .inl (E 0, 6, .inl (up1 (up1 (up1 f0 0 (150 : Int32)) 1 (1 : Int32)) 2 (37 : Int32))))]) rfl dX8_bodyOfFilled_28 ?_
  refine g_dup C dX8_bodyOfFilled_29 rfl ?_
  refine g_iconst (v := (3 : Int32)) C dX8_bodyOfFilled_30 (by decide) ?_
  refine z_aload_n C dX8_bodyOfFilled_31 rfl 1 rfl (nv_or _ _) ?_
  obtain ⟨g4, h⟩ := of_guard h
  rw [nzB_e g4]
  obtain ⟨g5, h⟩ := of_guard h
  refine g_get (k := 20) (i := (p1 - 1)) (ref := "TradeLine$Order") (v := .int (μ.1 20 (p1 - 1) 0)) C rfl (lvZ g5 rfl) rfl rfl inGX4 0 (by decide) gw_1110 (fun _ h => h) rfl dX8_bodyOfFilled_32 ?_
  refine g_iastL C 0 rfl hq0 (ixB_in rfl) (ex' := [(q0, .inl (E 0, 6, .inl (up1 (up1 (up1 (up1 f0 0 (150 : Int32)) 1 (1 : Int32)) 2 (37 : Int32)) 3 (μ.1 20 (p1 - 1) 0))))]) rfl dX8_bodyOfFilled_35 ?_
  refine g_dup C dX8_bodyOfFilled_36 rfl ?_
  refine g_iconst (v := (4 : Int32)) C dX8_bodyOfFilled_37 (by decide) ?_
  refine g_sipush (v := (382 : Int32)) C dX8_bodyOfFilled_38 (by decide) ?_
  refine g_iastL C 0 rfl hq0 (ixB_in rfl) (ex' := [(q0, .inl (E 0, 6, .inl (up1 (up1 (up1 (up1 (up1 f0 0 (150 : Int32)) 1 (1 : Int32)) 2 (37 : Int32)) 3 (μ.1 20 (p1 - 1) 0)) 4 (382 : Int32))))]) rfl dX8_bodyOfFilled_41 ?_
  refine g_dup C dX8_bodyOfFilled_42 rfl ?_
  refine g_iconst (v := (5 : Int32)) C dX8_bodyOfFilled_43 (by decide) ?_
  refine g_iload_n C dX8_bodyOfFilled_44 rfl 3 rfl ?_
  refine g_iastL C 0 rfl hq0 (ixB_in rfl) (ex' := [(q0, .inl (E 0, 6, .inl (up1 (up1 (up1 (up1 (up1 (up1 f0 0 (150 : Int32)) 1 (1 : Int32)) 2 (37 : Int32)) 3 (μ.1 20 (p1 - 1) 0)) 4 (382 : Int32)) 5 x3)))]) rfl dX8_bodyOfFilled_45 ?_
  refine g_astore (lv' := [(4, .ref q0), (0, .ref (Ad 0 0)), (1, .ref (Ad 20 (p1 - 1))), (2, .int x2), (3, .int x3)]) C dX8_bodyOfFilled_46 (by decide) rfl ?_
  refine g_aload C dX8_bodyOfFilled_48 0 rfl ?_
  refine g_aload C dX8_bodyOfFilled_50 0 rfl ?_
  refine g_alenL (t0 := 0) (v := nI 6) C 0 rfl rfl rfl dX8_bodyOfFilled_52 ?_
  refine g_bipush (v := (8 : Int32)) C dX8_bodyOfFilled_53 (by decide) ?_
  refine g_iload_n C dX8_bodyOfFilled_55 rfl 4 rfl ?_
  refine g_imul C dX8_bodyOfFilled_56 ?_
  refine g_iadd C dX8_bodyOfFilled_57 ?_
  obtain ⟨g6, h⟩ := of_guard h
  simp only [Bool.and_eq_true, decide_eq_true_eq, Bool.not_eq_true', decide_eq_false_iff_not] at g6
  obtain ⟨⟨gx, gy⟩, gz⟩ := g6
  refine g_lv [1, 3, 0] rfl ?_
  have m2 := mn_chg ν 1 ((nI 6) + ((8 : Int32) * x3)).toNatClampNeg
  have m3 := mb_X8_bodyOfFilled_61  h
  have a1 := hm0.2.1; have a2 := hm0.2.2.1; have b1 := m2.2.1; have b2 := m2.2.2.1; have d1 := m3.2.1; have d2 := m3.2.2.1
  rw [kc_chg] at b1 d1
  rw [ks_chg] at b2 d2
  rw [show Value.int ((nI 6) + ((8 : Int32) * x3)) = Value.int (nI ((nI 6) + ((8 : Int32) * x3)).toNatClampNeg) from congrArg Value.int (nI_self gx)]
  refine g_cSq (n := 2) (exc := [(q0, .inl (E 0, 6, .inl (up1 (up1 (up1 (up1 (up1 (up1 f0 0 (150 : Int32)) 1 (1 : Int32)) 2 (37 : Int32)) 3 (μ.1 20 (p1 - 1) 0)) 4 (382 : Int32)) 5 x3)))]) (exr := []) C [_, _] _ rfl rfl [0] [] rfl rfl rfl rfl (fun _ h => by simp at h) (fun q h => by simp at h; exact ⟨0, _, by rw [h]; rfl⟩) (fun q h => by simp at h; rw [h]; exact hq0) (fun sz => k_copyOf_k l (zS μ ν a Ad) q0 6 ((nI 6) + ((8 : Int32) * x3)).toNatClampNeg (up1 (up1 (up1 (up1 (up1 (up1 f0 0 (150 : Int32)) 1 (1 : Int32)) 2 (37 : Int32)) 3 (μ.1 20 (p1 - 1) 0)) 4 (382 : Int32)) 5 x3) gy gz D E sz) rfl gw_318 gw_17 gw_940 gw_317 ⟨by decide +kernel, by decide +kernel, by decide +kernel⟩ ⟨rfl, rfl⟩ ⟨Nat.le_of_ble_eq_true rfl, Nat.le_of_ble_eq_true rfl⟩ (by first | exact Nat.le_of_ble_eq_true rfl | simp [nv_cat, cat_i, cat_r, cat_n]) dX8_bodyOfFilled_58 ⟨by show (kc ν - kc ν0) + 1 ≤ kc r0.1.2 - kc ν0; omega, by show (ks ν - ks ν0) + ((nI 6) + ((8 : Int32) * x3)).toNatClampNeg ≤ ks r0.1.2 - ks ν0; omega⟩ (fun r u hp hx => ?_)
  obtain ⟨q1, rfl, rfl⟩ := hp
  have hq1 := (hx 1 _ rfl).1
  have hs1 : s.heap.size ≤ q1 := (hx 1 _ rfl).2.elim (fun h => by simp at h; rw [h]; exact hs0) id
  try dsimp only [List.append_nil]
  refine g_chg 1 ((nI 6) + ((8 : Int32) * x3)).toNatClampNeg ?_
  refine g_widen (k := kc (chg ν 1 ((nI 6) + ((8 : Int32) * x3)).toNatClampNeg) - kc ν0) (n := ks (chg ν 1 ((nI 6) + ((8 : Int32) * x3)).toNatClampNeg) - ks ν0) (by rw [kc_chg]; omega) (by rw [ks_chg]; omega) ?_
  exact lb_X8_bodyOfFilled_61 C hEv hr hz (mn_trans hm0 m2) hp0 hq0 hs0 hq1 hs1  h
noncomputable def f_X8_bodyOfFilled  (w : Nat) (μ : MP) (ν : NC) (p1 : Nat) (x2 : Int32) : Option ((MP × NC) × Nat × (Nat → Int32)) := bif ltB 0 (ν.2 0) then bif ltB 5 (ν.2 4) then yl (((μ.1 4 5 2) - x2)) (fun t3 => b_X8_bodyOfFilled_14  w μ (chg ν 1 6) p1 x2 t3 (fun _ => 0)) else none else none
theorem mb_X8_bodyOfFilled_0 {w : Nat} {μ : MP} {ν : NC} {p1 : Nat} {x2 : Int32} {r0 : (MP × NC) × Nat × (Nat → Int32)}   (h : f_X8_bodyOfFilled  w μ ν p1 x2 = some r0) : mn ν r0.1.2 := by
  unfold f_X8_bodyOfFilled at h
  iterate 40 (try first | (with_reducible replace h := (of_guard h).2) | (with_reducible (replace h := of_guardP h; obtain ⟨hg, h⟩ := h)) | (with_reducible replace h := yl_of h rfl) | (with_reducible replace h := (of_thr h).2) | (with_reducible (replace h := bind_of h; obtain ⟨v, hv, h⟩ := h)) | (with_reducible split at h) | (with_reducible (exact mn_trans (mn_chg _ _ _) (mb_X8_bodyOfFilled_14  h))) | (with_reducible exact absurd (congrArg Prod.fst (Option.some.inj h)) (by simp)))
set_option maxHeartbeats 4000000 in
set_option maxRecDepth 100000 in
theorem lb_X8_bodyOfFilled_0 {p : Program} {l : Launch} {e : Env} {s : State} {m : MethodId} {args : Array Value} {below : List Frame} {meth : Method} {c : Code} {D : va_G} {E : Nat → ClassId} {sz : Nat} {μ0 : MP} {ν0 : NC} {a : AS} {Ad0 : Nat → Nat → Nat} {w : Nat} {B : Nat × (Nat → Nat)} {r0 : (MP × NC) × Nat × (Nat → Int32)} (C : cx p s m args meth c D E (Aof (zS μ0 ν0 a Ad0) [] s.heap.size) cX8_bodyOfFilled 9 "TradeLine") (hEv : eV (Ad0 30 0) (Ad0 31 0) B (Aof (zS μ0 ν0 a Ad0) [] s.heap.size) s s.heap) (hr : meth.sig.returnType = (some (.array .int))) (hz : s.heap.size = sz) {μ : MP} {ν : NC} {Ad : Nat → Nat → Nat} (hm0 : mn ν0 ν) (hp0 : kp ν0 Ad0 Ad) {p1 : Nat} {x2 : Int32}   (h : f_X8_bodyOfFilled  w μ ν p1 x2 = some r0) : G p l e ({ frames := 3, cells := kc r0.1.2 - kc ν0, slots := ks r0.1.2 - ks ν0, locals := 90 } : Room) s m args below meth c D E (Aof (zS μ0 ν0 a Ad0) [] s.heap.size) 9 (MQ below (cQ D E sz (zS μ0 ν0 a Ad0) [] (pQ (fun r u => ∃ q, r = .ref q ∧ ∃ A1, u = (zS r0.1.1 r0.1.2 a A1, [(q, .inl (E 0, r0.2.1, .inl r0.2.2))]) ∧ kp ν0 Ad0 A1))) args s (kc r0.1.2 - kc ν0) (ks r0.1.2 - ks ν0) (Aof (zS μ0 ν0 a Ad0) [] s.heap.size)) (zS μ ν a Ad) [] (kc ν - kc ν0) (ks ν - ks ν0) 0 [(0, .ref (Ad 0 0)), (1, nv (Ad 20) p1), (2, .int x2)] [] := by
  have m0 := mb_X8_bodyOfFilled_0  h
  have e1 := m0.2.1; have e2 := m0.2.2.1; have e3 := hm0.2.1; have e4 := hm0.2.2.1
  unfold f_X8_bodyOfFilled at h
  refine g_aload_n C dX8_bodyOfFilled_0 rfl 0 rfl ?_
  obtain ⟨g1, h⟩ := of_guard h
  refine g_get (k := 0) (i := 0) (ref := "TradeLine") (v := .ref (Ad 4 5)) C rfl (lvZ g1 rfl) rfl rfl inGX8 5 (by decide) gw_175 (fun _ h => h) rfl dX8_bodyOfFilled_1 ?_
  obtain ⟨g2, h⟩ := of_guard h
  refine g_cVi (n := 0) (exc := []) (exr := []) C [] _ rfl rfl [] [] rfl rfl rfl rfl (fun _ h => absurd h (by simp)) (fun _ h => absurd h (by simp)) (fun _ h => absurd h (by simp)) (fun sz => c_Jx4a65c_size_8abf5 l μ ν a Ad _ g2 D E sz) rfl gw_308 gw_5 gw_305 gw_306 gw_307 ⟨by decide +kernel, by decide +kernel, by decide +kernel⟩ ⟨rfl, rfl⟩ ⟨Nat.le_of_ble_eq_true rfl, Nat.le_of_ble_eq_true rfl⟩ (rcvT (lvZ g2 rfl) rfl rfl rfl) (by first | exact Nat.le_of_ble_eq_true rfl | simp [nv_cat, cat_i, cat_r, cat_n]) dX8_bodyOfFilled_4 ⟨by show (kc ν - kc ν0) + 0 ≤ kc r0.1.2 - kc ν0; omega, by show (ks ν - ks ν0) + 0 ≤ ks r0.1.2 - ks ν0; omega⟩ (fun r u hp hx => ?_)
  obtain ⟨er, rfl⟩ := hp
  rw [er]
  try dsimp only [List.append_nil]
  refine g_iload_n C dX8_bodyOfFilled_7 rfl 2 rfl ?_
  refine g_isub C dX8_bodyOfFilled_8 ?_
  refine q_topi (fun t3 et3 => ?_)
  replace h := yl_of h et3
  refine g_istore_n (i := 3) (lv' := [(3, .int t3), (0, .ref (Ad 0 0)), (1, nv (Ad 20) p1), (2, .int x2)]) C dX8_bodyOfFilled_9 rfl (by decide) (by simp [nv_cat, cat_i, cat_r, cat_n]) ?_
  refine g_bipush (v := (6 : Int32)) C dX8_bodyOfFilled_10 (by decide) ?_
  refine g_lv [1, 2, 3, 0] rfl ?_
  have m2 := mn_chg ν 1 6
  have m3 := mb_X8_bodyOfFilled_14  h
  have a1 := hm0.2.1; have a2 := hm0.2.2.1; have b1 := m2.2.1; have b2 := m2.2.2.1; have d1 := m3.2.1; have d2 := m3.2.2.1
  rw [kc_chg] at b1 d1
  rw [ks_chg] at b2 d2
  refine g_newa (atype := .int) (ty := .int) (t := 0) (N' := 6) (a0 := (6, .inl (fun _ => 0))) C gw_95 rfl rfl (fun _ h => by cases h) (fun _ => rfl) (by decide) (by decide) (by decide) (by show (kc ν - kc ν0) + 1 ≤ kc r0.1.2 - kc ν0; omega) (by show (ks ν - ks ν0) + 6 ≤ ks r0.1.2 - ks ν0; omega) dX8_bodyOfFilled_12 (fun q0 hq0 hs0 => ?_)
  refine g_chg 1 6 ?_
  refine g_widen (k := kc (chg ν 1 6) - kc ν0) (n := ks (chg ν 1 6) - ks ν0) (by rw [kc_chg]; omega) (by rw [ks_chg]; omega) ?_
  exact lb_X8_bodyOfFilled_14 C hEv hr hz (mn_trans hm0 m2) hp0 hq0 hs0  h
theorem m_X8_bodyOfFilled {w : Nat} {μ : MP} {ν : NC} {p1 : Nat} {x2 : Int32} {r0 : (MP × NC) × Nat × (Nat → Int32)} (h : f_X8_bodyOfFilled w μ ν p1 x2 = some r0) : mn ν r0.1.2 := mb_X8_bodyOfFilled_0 h
theorem c_X8_bodyOfFilled (l : Launch) (B : Nat × (Nat → Nat)) (μ : MP) (ν : NC) (a : AS) (Ad : Nat → Nat → Nat) (w : Nat) (p1 : Nat) (x2 : Int32) (r0 : (MP × NC) × Nat × (Nat → Int32)) (h : f_X8_bodyOfFilled w μ ν p1 x2 = some r0) : ∀ D E sz, Met l yX8_bodyOfFilled gwX8_bodyOfFilled ({ frames := 3, cells := kc r0.1.2 - kc ν, slots := ks r0.1.2 - ks ν, locals := 90 } : Room) (cPe D E sz B (zS μ ν a Ad) [] [] [.ref (Ad 0 0), nv (Ad 20) p1, .int x2]) (cQ D E sz (zS μ ν a Ad) [] (pQ (fun r u => ∃ q, r = .ref q ∧ ∃ A1, u = (zS r0.1.1 r0.1.2 a A1, [(q, .inl (E 0, r0.2.1, .inl r0.2.2))]) ∧ kp ν Ad A1))) (kc r0.1.2 - kc ν) (ks r0.1.2 - ks ν) (Aof (zS μ ν a Ad) [] sz) := by
  intro D E sz
  refine g_ofe (cc := cX8_bodyOfFilled) (maxL := 9) (ret := (some (.array .int))) (own := "TradeLine") (by decide) rfl rfl (by cases p1 <;> exact Nat.le_of_ble_eq_true rfl) ?_
  intro p e s m args below meth c C hr hin hz ha hwr hEv
  refine g_lv (lv' := [(0, .ref (Ad 0 0)), (1, nv (Ad 20) p1), (2, .int x2)]) [0, 1, 2] (by cases p1 <;> rfl) ?_
  refine g_widen (k := kc ν - kc ν) (n := ks ν - ks ν) (Nat.zero_le _) (Nat.zero_le _) ?_
  exact lb_X8_bodyOfFilled_0 C hEv hr hz (mn_rfl _) (kp_rfl _ _) h
noncomputable def b_X8_route_128  (w : Nat) (μ : MP) (ν : NC) : Option ((MP × NC) × Int32) := some ((μ, ν), (0 : Int32))
theorem mb_X8_route_128 {w : Nat} {μ : MP} {ν : NC} {r0 : (MP × NC) × Int32}   (h : b_X8_route_128  w μ ν  = some r0) : mn ν r0.1.2 := by
  unfold b_X8_route_128 at h
  iterate 40 (try first | (with_reducible replace h := (of_guard h).2) | (with_reducible (replace h := of_guardP h; obtain ⟨hg, h⟩ := h)) | (with_reducible replace h := yl_of h rfl) | (with_reducible replace h := (of_thr h).2) | (with_reducible (replace h := bind_of h; obtain ⟨v, hv, h⟩ := h)) | (with_reducible split at h) | (with_reducible (replace h := Option.some.inj h; obtain rfl := h; exact mn_rfl _)) | (with_reducible exact absurd (congrArg Prod.fst (Option.some.inj h)) (by simp)))
set_option maxHeartbeats 4000000 in
set_option maxRecDepth 100000 in
theorem lb_X8_route_128 {p : Program} {l : Launch} {e : Env} {s : State} {m : MethodId} {args : Array Value} {below : List Frame} {meth : Method} {c : Code} {D : va_G} {E : Nat → ClassId} {sz : Nat} {μ0 : MP} {ν0 : NC} {a : AS} {Ad0 : Nat → Nat → Nat} {w : Nat} {B : Nat × (Nat → Nat)} {r0 : (MP × NC) × Int32} (C : cx p s m args meth c D E (Aof (zS μ0 ν0 a Ad0) [] s.heap.size) cX8_route 6 "TradeLine") (hEv : eV (Ad0 30 0) (Ad0 31 0) B (Aof (zS μ0 ν0 a Ad0) [] s.heap.size) s s.heap) (hr : meth.sig.returnType = none) (hz : s.heap.size = sz) {μ : MP} {ν : NC} {Ad : Nat → Nat → Nat} (hm0 : mn ν0 ν) (hp0 : kp ν0 Ad0 Ad)   (h : b_X8_route_128  w μ ν  = some r0) : G p l e ({ frames := 8, cells := kc r0.1.2 - kc ν0, slots := ks r0.1.2 - ks ν0, locals := 246 } : Room) s m args below meth c D E (Aof (zS μ0 ν0 a Ad0) [] s.heap.size) 6 (MQ below (cQ D E sz (zS μ0 ν0 a Ad0) [] (pV (fun u => ∃ A1, u = (zS r0.1.1 r0.1.2 a A1, []) ∧ kp ν0 Ad0 A1))) args s (kc r0.1.2 - kc ν0) (ks r0.1.2 - ks ν0) (Aof (zS μ0 ν0 a Ad0) [] s.heap.size)) (zS μ ν a Ad) [] (kc ν - kc ν0) (ks ν - ks ν0) 128 [(0, .ref (Ad 0 0))] [] := by
  have m0 := mb_X8_route_128  h
  have e1 := m0.2.1; have e2 := m0.2.2.1; have e3 := hm0.2.1; have e4 := hm0.2.2.1
  unfold b_X8_route_128 at h
  obtain rfl := Option.some.inj h
  exact g_vret C hr hz ⟨(hm0.2.2.2 30 (by decide) (by decide)).1, (hm0.2.2.2 31 (by decide) (by decide)).1, hp0.2.1, hp0.2.2⟩ ⟨Ad, rfl, hp0⟩ (fun j x h => by simp at h) dX8_route_128
noncomputable def b_X8_route_125  (w : Nat) (μ : MP) (ν : NC) (s1 : Int32) (s2 : Int32) (n0 : Nat) (f0 : Nat → Int32) : Option ((MP × NC) × Int32) := bif ltB 0 (ν.2 0) then (f_X8_send_L w μ ν s2 s1 n0 f0).bind (fun v8 => b_X8_route_128  w v8.1.1 v8.1.2 ) else none
theorem mb_X8_route_125 {w : Nat} {μ : MP} {ν : NC} {s1 : Int32} {s2 : Int32} {n0 : Nat} {f0 : Nat → Int32} {r0 : (MP × NC) × Int32}   (h : b_X8_route_125  w μ ν s1 s2 n0 f0 = some r0) : mn ν r0.1.2 := by
  unfold b_X8_route_125 at h
  iterate 40 (try first | (with_reducible replace h := (of_guard h).2) | (with_reducible (replace h := of_guardP h; obtain ⟨hg, h⟩ := h)) | (with_reducible replace h := yl_of h rfl) | (with_reducible replace h := (of_thr h).2) | (with_reducible (replace h := bind_of h; obtain ⟨v, hv, h⟩ := h)) | (with_reducible split at h) | (with_reducible (exact mn_trans (m_X8_send_L hv) (mb_X8_route_128  h))) | (with_reducible exact absurd (congrArg Prod.fst (Option.some.inj h)) (by simp)))
set_option maxHeartbeats 4000000 in
set_option maxRecDepth 100000 in
theorem lb_X8_route_125 {p : Program} {l : Launch} {e : Env} {s : State} {m : MethodId} {args : Array Value} {below : List Frame} {meth : Method} {c : Code} {D : va_G} {E : Nat → ClassId} {sz : Nat} {μ0 : MP} {ν0 : NC} {a : AS} {Ad0 : Nat → Nat → Nat} {w : Nat} {B : Nat × (Nat → Nat)} {r0 : (MP × NC) × Int32} (C : cx p s m args meth c D E (Aof (zS μ0 ν0 a Ad0) [] s.heap.size) cX8_route 6 "TradeLine") (hEv : eV (Ad0 30 0) (Ad0 31 0) B (Aof (zS μ0 ν0 a Ad0) [] s.heap.size) s s.heap) (hr : meth.sig.returnType = none) (hz : s.heap.size = sz) {μ : MP} {ν : NC} {Ad : Nat → Nat → Nat} (hm0 : mn ν0 ν) (hp0 : kp ν0 Ad0 Ad) {s1 : Int32} {s2 : Int32} {n0 : Nat} {f0 : Nat → Int32} {q0 : Nat} (hq0 : (Aof (zS μ0 ν0 a Ad0) [] s.heap.size) q0)   (h : b_X8_route_125  w μ ν s1 s2 n0 f0 = some r0) : G p l e ({ frames := 8, cells := kc r0.1.2 - kc ν0, slots := ks r0.1.2 - ks ν0, locals := 246 } : Room) s m args below meth c D E (Aof (zS μ0 ν0 a Ad0) [] s.heap.size) 6 (MQ below (cQ D E sz (zS μ0 ν0 a Ad0) [] (pV (fun u => ∃ A1, u = (zS r0.1.1 r0.1.2 a A1, []) ∧ kp ν0 Ad0 A1))) args s (kc r0.1.2 - kc ν0) (ks r0.1.2 - ks ν0) (Aof (zS μ0 ν0 a Ad0) [] s.heap.size)) (zS μ ν a Ad) [(q0, .inl (E 0, n0, .inl f0))] (kc ν - kc ν0) (ks ν - ks ν0) 125 [(0, .ref (Ad 0 0))] [.ref q0, .int s1, .int s2, .ref (Ad 0 0)] := by
  have m0 := mb_X8_route_125  h
  have e1 := m0.2.1; have e2 := m0.2.2.1; have e3 := hm0.2.1; have e4 := hm0.2.2.1
  unfold b_X8_route_125 at h
  obtain ⟨g7, h⟩ := of_guard h
  obtain ⟨v8, hv8, h⟩ := bind_of h
  have m2 := m_X8_send_L hv8
  have m3 := mb_X8_route_128  h
  have a1 := hm0.2.1; have a2 := hm0.2.2.1; have b1 := m2.2.1; have b2 := m2.2.2.1; have d1 := m3.2.1; have d2 := m3.2.2.1
  refine g_lv [0] rfl ?_
  refine g_cVve (n := 3) (exc := [(q0, .inl (E 0, n0, .inl f0))]) (exr := []) C hEv ⟨hp0.2.1 0, hp0.2.2 0⟩ [_, _, _] _ rfl rfl [0] [] rfl rfl rfl rfl (fun _ h => by simp at h) (fun _ h => absurd h (by simp)) (fun _ h => absurd h (by simp)) (fun sz => c_X8_send_L l B μ ν a Ad w s2 s1 q0 n0 f0 _ hv8 D E sz) rfl gw_300 gw_1 gw_297 gw_299 gs_1 ⟨by decide +kernel, by decide +kernel, by decide +kernel⟩ ⟨rfl, rfl⟩ ⟨Nat.le_of_ble_eq_true rfl, Nat.le_of_ble_eq_true rfl⟩ (rcvT (lvZ g7 rfl) rfl rfl rfl) (by first | exact Nat.le_of_ble_eq_true rfl | simp [nv_cat, cat_i, cat_r, cat_n]) dX8_route_125 ⟨by show (kc ν - kc ν0) + (kc v8.1.2 - kc ν) ≤ kc r0.1.2 - kc ν0; omega, by show (ks ν - ks ν0) + (ks v8.1.2 - ks ν) ≤ ks r0.1.2 - ks ν0; omega⟩ (fun u hp hx => ?_)
  obtain ⟨A1, rfl, hkp⟩ := hp
  try dsimp only [List.append_nil]
  refine g_widen (k := kc v8.1.2 - kc ν0) (n := ks v8.1.2 - ks ν0) (by omega) (by omega) ?_
  rw [show Ad 0 0 = A1 0 0 from (hkp.1 0 _ rfl (of_decide_eq_true g7)).symm]
  exact lb_X8_route_128 C hEv hr hz (mn_trans hm0 m2) (kp_trans hp0 hm0 hkp)   h
noncomputable def b_X8_route_104  (w : Nat) (μ : MP) (ν : NC) (p1 : Nat) (x2 : Int32) : Option ((MP × NC) × Int32) := bif ltB 0 (ν.2 0) then bif ltB 5 (ν.2 4) then (if (μ.1 4 5 2) ≤ x2 then (b_X8_route_128  w μ ν ) else ((f_X8_bodyOfFilled w μ ν p1 x2).bind (fun v6 => b_X8_route_125  w v6.1.1 v6.1.2 (8 : Int32) (1 : Int32) v6.2.1 v6.2.2))) else none else none
theorem mb_X8_route_104 {w : Nat} {μ : MP} {ν : NC} {p1 : Nat} {x2 : Int32} {r0 : (MP × NC) × Int32}   (h : b_X8_route_104  w μ ν p1 x2 = some r0) : mn ν r0.1.2 := by
  unfold b_X8_route_104 at h
  iterate 40 (try first | (with_reducible replace h := (of_guard h).2) | (with_reducible (replace h := of_guardP h; obtain ⟨hg, h⟩ := h)) | (with_reducible replace h := yl_of h rfl) | (with_reducible replace h := (of_thr h).2) | (with_reducible (replace h := bind_of h; obtain ⟨v, hv, h⟩ := h)) | (with_reducible split at h) | (with_reducible (exact mb_X8_route_128  h)) | (with_reducible (exact mn_trans (m_X8_bodyOfFilled hv) (mb_X8_route_125  h))) | (with_reducible exact absurd (congrArg Prod.fst (Option.some.inj h)) (by simp)))
set_option maxHeartbeats 4000000 in
set_option maxRecDepth 100000 in
theorem lb_X8_route_104 {p : Program} {l : Launch} {e : Env} {s : State} {m : MethodId} {args : Array Value} {below : List Frame} {meth : Method} {c : Code} {D : va_G} {E : Nat → ClassId} {sz : Nat} {μ0 : MP} {ν0 : NC} {a : AS} {Ad0 : Nat → Nat → Nat} {w : Nat} {B : Nat × (Nat → Nat)} {r0 : (MP × NC) × Int32} (C : cx p s m args meth c D E (Aof (zS μ0 ν0 a Ad0) [] s.heap.size) cX8_route 6 "TradeLine") (hEv : eV (Ad0 30 0) (Ad0 31 0) B (Aof (zS μ0 ν0 a Ad0) [] s.heap.size) s s.heap) (hr : meth.sig.returnType = none) (hz : s.heap.size = sz) {μ : MP} {ν : NC} {Ad : Nat → Nat → Nat} (hm0 : mn ν0 ν) (hp0 : kp ν0 Ad0 Ad) {p1 : Nat} {x2 : Int32}   (h : b_X8_route_104  w μ ν p1 x2 = some r0) : G p l e ({ frames := 8, cells := kc r0.1.2 - kc ν0, slots := ks r0.1.2 - ks ν0, locals := 246 } : Room) s m args below meth c D E (Aof (zS μ0 ν0 a Ad0) [] s.heap.size) 6 (MQ below (cQ D E sz (zS μ0 ν0 a Ad0) [] (pV (fun u => ∃ A1, u = (zS r0.1.1 r0.1.2 a A1, []) ∧ kp ν0 Ad0 A1))) args s (kc r0.1.2 - kc ν0) (ks r0.1.2 - ks ν0) (Aof (zS μ0 ν0 a Ad0) [] s.heap.size)) (zS μ ν a Ad) [] (kc ν - kc ν0) (ks ν - ks ν0) 104 [(0, .ref (Ad 0 0)), (1, nv (Ad 20) p1), (2, .int x2)] [] := by
  have m0 := mb_X8_route_104  h
  have e1 := m0.2.1; have e2 := m0.2.2.1; have e3 := hm0.2.1; have e4 := hm0.2.2.1
  unfold b_X8_route_104 at h
  refine g_aload_n C dX8_route_104 rfl 0 rfl ?_
  obtain ⟨g4, h⟩ := of_guard h
  refine g_get (k := 0) (i := 0) (ref := "TradeLine") (v := .ref (Ad 4 5)) C rfl (lvZ g4 rfl) rfl rfl inGX8 5 (by decide) gw_175 (fun _ h => h) rfl dX8_route_105 ?_
  obtain ⟨g5, h⟩ := of_guard h
  refine g_cVi (n := 0) (exc := []) (exr := []) C [] _ rfl rfl [] [] rfl rfl rfl rfl (fun _ h => absurd h (by simp)) (fun _ h => absurd h (by simp)) (fun _ h => absurd h (by simp)) (fun sz => c_Jx4a65c_size_8abf5 l μ ν a Ad _ g5 D E sz) rfl gw_308 gw_5 gw_305 gw_306 gw_307 ⟨by decide +kernel, by decide +kernel, by decide +kernel⟩ ⟨rfl, rfl⟩ ⟨Nat.le_of_ble_eq_true rfl, Nat.le_of_ble_eq_true rfl⟩ (rcvT (lvZ g5 rfl) rfl rfl rfl) (by first | exact Nat.le_of_ble_eq_true rfl | simp [nv_cat, cat_i, cat_r, cat_n]) dX8_route_108 ⟨by show (kc ν - kc ν0) + 0 ≤ kc r0.1.2 - kc ν0; omega, by show (ks ν - ks ν0) + 0 ≤ ks r0.1.2 - ks ν0; omega⟩ (fun r u hp hx => ?_)
  obtain ⟨er, rfl⟩ := hp
  rw [er]
  try dsimp only [List.append_nil]
  refine g_iload_n C dX8_route_111 rfl 2 rfl ?_
  refine g_icmp_le (tgt := 128) C dX8_route_112 (by decide) (fun c112 => ?_) (fun c112 => ?_)
  · replace h := (if_pos c112).symm.trans h
    refine g_lv [0] rfl ?_
    exact lb_X8_route_128 C hEv hr hz hm0 hp0   h
  · replace h := (if_neg c112).symm.trans h
    refine g_aload_n C dX8_route_115 rfl 0 rfl ?_
    refine g_iconst (v := (1 : Int32)) C dX8_route_116 (by decide) ?_
    refine g_bipush (v := (8 : Int32)) C dX8_route_117 (by decide) ?_
    refine g_aload_n C dX8_route_119 rfl 0 rfl ?_
    refine z_aload_n C dX8_route_120 rfl 1 rfl (nv_or _ _) ?_
    refine g_iload_n C dX8_route_121 rfl 2 rfl ?_
    obtain ⟨v6, hv6, h⟩ := bind_of h
    have m2 := m_X8_bodyOfFilled hv6
    have m3 := mb_X8_route_125  h
    have a1 := hm0.2.1; have a2 := hm0.2.2.1; have b1 := m2.2.1; have b2 := m2.2.2.1; have d1 := m3.2.1; have d2 := m3.2.2.1
    refine g_lv [0] rfl ?_
    refine g_cVqe (n := 2) (exc := []) (exr := []) C hEv ⟨hp0.2.1 0, hp0.2.2 0⟩ [_, _] _ rfl rfl [] [] rfl rfl rfl rfl (fun _ h => absurd h (by simp)) (fun _ h => absurd h (by simp)) (fun _ h => absurd h (by simp)) (fun sz => c_X8_bodyOfFilled l B μ ν a Ad w p1 x2 _ hv6 D E sz) rfl gw_939 gw_1 gw_936 gw_938 gs_27 ⟨by decide +kernel, by decide +kernel, by decide +kernel⟩ ⟨rfl, rfl⟩ ⟨Nat.le_of_ble_eq_true rfl, Nat.le_of_ble_eq_true rfl⟩ (rcvT (lvZ g4 rfl) rfl rfl rfl) (by first | exact Nat.le_of_ble_eq_true rfl | simp [nv_cat, cat_i, cat_r, cat_n]) dX8_route_122 ⟨by show (kc ν - kc ν0) + (kc v6.1.2 - kc ν) ≤ kc r0.1.2 - kc ν0; omega, by show (ks ν - ks ν0) + (ks v6.1.2 - ks ν) ≤ ks r0.1.2 - ks ν0; omega⟩ (fun r u hp hx => ?_)
    obtain ⟨q0, er, A1, rfl, hkp⟩ := hp
    rw [er]
    have hq0 := (hx 0 _ rfl).1
    try dsimp only [List.append_nil]
    refine g_widen (k := kc v6.1.2 - kc ν0) (n := ks v6.1.2 - ks ν0) (by omega) (by omega) ?_
    rw [show Ad 0 0 = A1 0 0 from (hkp.1 0 _ rfl (of_decide_eq_true g4)).symm]
    exact lb_X8_route_125 C hEv hr hz (mn_trans hm0 m2) (kp_trans hp0 hm0 hkp) hq0  h
noncomputable def b_X8_route_71 (k10 : MP → NC → Nat → Int32 → Int32 → Option ((MP × NC) × Int32)) (w : Nat) (μ : MP) (ν : NC) (p1 : Nat) (x2 : Int32) (x3 : Int32) (p4 : Nat) (x5 : Int32) (s0 : Int32) : Option ((MP × NC) × Int32) := bif nzB p1 then bif ltB (p1 - 1) (ν.2 20) then bif ltB (2 * (p1 - 1) + 1) (ν.2 21) then yl (uM μ 21 (2 * (p1 - 1) + 1) 2 ((μ.1 21 (2 * (p1 - 1) + 1) 2) + x5)) (fun m28 => bif nzB p4 then bif ltB (p4 - 1) (ν.2 25) then yl (uM m28 25 (p4 - 1) 2 ((m28.1 25 (p4 - 1) 2) - x5)) (fun m31 => yl (x3 + (1 : Int32)) (fun t32 => k10 m31 ν ((p1 - 1) + 1) x2 t32)) else none else none) else none else none else none
theorem mb_X8_route_71 {w : Nat} {μ : MP} {ν : NC} {p1 : Nat} {x2 : Int32} {x3 : Int32} {p4 : Nat} {x5 : Int32} {s0 : Int32} {r0 : (MP × NC) × Int32} {k10 : MP → NC → Nat → Int32 → Int32 → Option ((MP × NC) × Int32)} (hmk10 : ∀ (μ : MP) (ν : NC) (z1 : Nat) (z2 : Int32) (z3 : Int32), k10 μ ν z1 z2 z3 = some r0 → mn ν r0.1.2) (h : b_X8_route_71 k10 w μ ν p1 x2 x3 p4 x5 s0 = some r0) : mn ν r0.1.2 := by
  unfold b_X8_route_71 at h
  iterate 40 (try first | (with_reducible replace h := (of_guard h).2) | (with_reducible (replace h := of_guardP h; obtain ⟨hg, h⟩ := h)) | (with_reducible replace h := yl_of h rfl) | (with_reducible replace h := (of_thr h).2) | (with_reducible (replace h := bind_of h; obtain ⟨v, hv, h⟩ := h)) | (with_reducible split at h) | (with_reducible (exact hmk10 _ _ _ _ _ h)) | (with_reducible exact absurd (congrArg Prod.fst (Option.some.inj h)) (by simp)))
set_option maxHeartbeats 4000000 in
set_option maxRecDepth 100000 in
theorem lb_X8_route_71 {p : Program} {l : Launch} {e : Env} {s : State} {m : MethodId} {args : Array Value} {below : List Frame} {meth : Method} {c : Code} {D : va_G} {E : Nat → ClassId} {sz : Nat} {μ0 : MP} {ν0 : NC} {a : AS} {Ad0 : Nat → Nat → Nat} {w : Nat} {B : Nat × (Nat → Nat)} {r0 : (MP × NC) × Int32} (C : cx p s m args meth c D E (Aof (zS μ0 ν0 a Ad0) [] s.heap.size) cX8_route 6 "TradeLine") (hEv : eV (Ad0 30 0) (Ad0 31 0) B (Aof (zS μ0 ν0 a Ad0) [] s.heap.size) s s.heap) (hr : meth.sig.returnType = none) (hz : s.heap.size = sz) {μ : MP} {ν : NC} {Ad : Nat → Nat → Nat} (hm0 : mn ν0 ν) (hp0 : kp ν0 Ad0 Ad) {p1 : Nat} {x2 : Int32} {x3 : Int32} {p4 : Nat} {x5 : Int32} {s0 : Int32} {k10 : MP → NC → Nat → Int32 → Int32 → Option ((MP × NC) × Int32)} (hmk10 : ∀ (μ : MP) (ν : NC) (z1 : Nat) (z2 : Int32) (z3 : Int32), k10 μ ν z1 z2 z3 = some r0 → mn ν r0.1.2) (hk10 : ∀ (μ : MP) (ν : NC) (Ad : Nat → Nat → Nat) (z1 : Nat) (z2 : Int32) (z3 : Int32), mn ν0 ν → kp ν0 Ad0 Ad → k10 μ ν z1 z2 z3 = some r0 → G p l e ({ frames := 8, cells := kc r0.1.2 - kc ν0, slots := ks r0.1.2 - ks ν0, locals := 246 } : Room) s m args below meth c D E (Aof (zS μ0 ν0 a Ad0) [] s.heap.size) 6 (MQ below (cQ D E sz (zS μ0 ν0 a Ad0) [] (pV (fun u => ∃ A1, u = (zS r0.1.1 r0.1.2 a A1, []) ∧ kp ν0 Ad0 A1))) args s (kc r0.1.2 - kc ν0) (ks r0.1.2 - ks ν0) (Aof (zS μ0 ν0 a Ad0) [] s.heap.size)) (zS μ ν a Ad) [] (kc ν - kc ν0) (ks ν - ks ν0) 10 [(0, .ref (Ad 0 0)), (1, nv (Ad 20) z1), (2, .int z2), (3, .int z3)] []) (h : b_X8_route_71 k10 w μ ν p1 x2 x3 p4 x5 s0 = some r0) : G p l e ({ frames := 8, cells := kc r0.1.2 - kc ν0, slots := ks r0.1.2 - ks ν0, locals := 246 } : Room) s m args below meth c D E (Aof (zS μ0 ν0 a Ad0) [] s.heap.size) 6 (MQ below (cQ D E sz (zS μ0 ν0 a Ad0) [] (pV (fun u => ∃ A1, u = (zS r0.1.1 r0.1.2 a A1, []) ∧ kp ν0 Ad0 A1))) args s (kc r0.1.2 - kc ν0) (ks r0.1.2 - ks ν0) (Aof (zS μ0 ν0 a Ad0) [] s.heap.size)) (zS μ ν a Ad) [] (kc ν - kc ν0) (ks ν - ks ν0) 71 [(0, .ref (Ad 0 0)), (1, nv (Ad 20) p1), (2, .int x2), (3, .int x3), (4, nv (Ad 25) p4), (5, .int x5)] [.int s0] := by
  have m0 := mb_X8_route_71 hmk10 h
  have e1 := m0.2.1; have e2 := m0.2.2.1; have e3 := hm0.2.1; have e4 := hm0.2.2.1
  unfold b_X8_route_71 at h
  refine g_pop C dX8_route_71 rfl ?_
  refine z_aload_n C dX8_route_72 rfl 1 rfl (nv_or _ _) ?_
  obtain ⟨g25, h⟩ := of_guard h
  rw [nzB_e g25]
  obtain ⟨g26, h⟩ := of_guard h
  refine g_get (k := 20) (i := (p1 - 1)) (ref := "TradeLine$Order") (v := .ref (Ad 21 (2 * (p1 - 1) + 1))) C rfl (lvZ g26 rfl) rfl rfl inGX4 3 (by decide) gw_1116 (fun _ h => h) rfl dX8_route_73 ?_
  refine g_dup C dX8_route_76 rfl ?_
  obtain ⟨g27, h⟩ := of_guard h
  refine g_get (k := 21) (i := (2 * (p1 - 1) + 1)) (ref := "TradeLine$Book") (v := .int (μ.1 21 (2 * (p1 - 1) + 1) 2)) C rfl (lvZ g27 rfl) rfl rfl inGX1 2 (by decide) gw_1096 (fun _ h => h) rfl dX8_route_77 ?_
  refine g_iload C dX8_route_80 5 rfl ?_
  refine g_iadd C dX8_route_82 ?_
  refine z_put (k := 21) (i := (2 * (p1 - 1) + 1)) (ref := "TradeLine$Book") C rfl g27 rfl rfl rfl inGX1 tyX1 tyX1_ok nmX1 2 (by decide) gw_1096 (fun _ h => h) rfl (tyX1_ok 2 (by decide)) rfl rfl (by simp [fvs]) (by simp [fvs, up1]) dX8_route_83 (fun m28 em28 => ?_)
  replace h := yl_of h em28
  refine z_aload C dX8_route_86 4 rfl (nv_or _ _) ?_
  refine g_dup C dX8_route_88 (nv_cat _ _) ?_
  obtain ⟨g29, h⟩ := of_guard h
  rw [nzB_e g29]
  obtain ⟨g30, h⟩ := of_guard h
  refine g_get (k := 25) (i := (p4 - 1)) (ref := "TradeLine$Quote") (v := .int (m28.1 25 (p4 - 1) 2)) C rfl (lvZ g30 rfl) rfl rfl inGX6 2 (by decide) gw_162 (fun _ h => h) rfl dX8_route_89 ?_
  refine g_iload C dX8_route_92 5 rfl ?_
  refine g_isub C dX8_route_94 ?_
  refine z_put (k := 25) (i := (p4 - 1)) (ref := "TradeLine$Quote") C rfl g30 rfl rfl rfl inGX6 tyX6 tyX6_ok nmX6 2 (by decide) gw_162 (fun _ h => h) rfl (tyX6_ok 2 (by decide)) rfl rfl (by simp [fvs]) (by simp [fvs, up1]) dX8_route_95 (fun m31 em31 => ?_)
  replace h := yl_of h em31
  obtain ⟨t32, et32⟩ : ∃ y : Int32, x3 + (1 : Int32) = y := ⟨_, rfl⟩
  replace h := yl_of h et32
  refine g_iinc (v := t32) (lv' := [(3, .int t32), (0, .ref (Ad 0 0)), (1, .ref (Ad 20 (p1 - 1))), (2, .int x2), (4, .ref (Ad 25 (p4 - 1))), (5, .int x5)]) C dX8_route_98 3 rfl (by rw [← et32]; rfl) (by decide) rfl ?_
  refine g_goto (tgt := 10) C dX8_route_101 (by decide) ?_
  refine g_lv [1, 2, 3, 0] rfl ?_
  exact hk10 _ _ _ _ _ _ hm0 hp0 h
noncomputable def b_X8_route_68 (k10 : MP → NC → Nat → Int32 → Int32 → Option ((MP × NC) × Int32)) (w : Nat) (μ : MP) (ν : NC) (p1 : Nat) (x2 : Int32) (x3 : Int32) (p4 : Nat) (x5 : Int32) (sp0 : Nat) (sp1 : Nat) : Option ((MP × NC) × Int32) := bif nzB sp1 then bif ltB (sp1 - 1) (ν.2 4) then bif eqB (eK 5 (sp1 - 1)) 23 then bif ltB 0 (ν.2 0) then bif decide (p1 ≤ ν.2 20) then bif decide (p4 ≤ ν.2 25) then (f_Jx4a65c_add_9ea2d w μ ν (sp1 - 1) sp0).bind (fun v21 => b_X8_route_71 k10 w v21.1.1 v21.1.2 p1 x2 x3 p4 x5 v21.2) else none else none else none else none else none else none
theorem mb_X8_route_68 {w : Nat} {μ : MP} {ν : NC} {p1 : Nat} {x2 : Int32} {x3 : Int32} {p4 : Nat} {x5 : Int32} {sp0 : Nat} {sp1 : Nat} {r0 : (MP × NC) × Int32} {k10 : MP → NC → Nat → Int32 → Int32 → Option ((MP × NC) × Int32)} (hmk10 : ∀ (μ : MP) (ν : NC) (z1 : Nat) (z2 : Int32) (z3 : Int32), k10 μ ν z1 z2 z3 = some r0 → mn ν r0.1.2) (h : b_X8_route_68 k10 w μ ν p1 x2 x3 p4 x5 sp0 sp1 = some r0) : mn ν r0.1.2 := by
  unfold b_X8_route_68 at h
  iterate 40 (try first | (with_reducible replace h := (of_guard h).2) | (with_reducible (replace h := of_guardP h; obtain ⟨hg, h⟩ := h)) | (with_reducible replace h := yl_of h rfl) | (with_reducible replace h := (of_thr h).2) | (with_reducible (replace h := bind_of h; obtain ⟨v, hv, h⟩ := h)) | (with_reducible split at h) | (with_reducible (exact mn_trans (m_Jx4a65c_add_9ea2d hv) (mb_X8_route_71 hmk10 h))) | (with_reducible exact absurd (congrArg Prod.fst (Option.some.inj h)) (by simp)))
set_option maxHeartbeats 4000000 in
set_option maxRecDepth 100000 in
theorem lb_X8_route_68 {p : Program} {l : Launch} {e : Env} {s : State} {m : MethodId} {args : Array Value} {below : List Frame} {meth : Method} {c : Code} {D : va_G} {E : Nat → ClassId} {sz : Nat} {μ0 : MP} {ν0 : NC} {a : AS} {Ad0 : Nat → Nat → Nat} {w : Nat} {B : Nat × (Nat → Nat)} {r0 : (MP × NC) × Int32} (C : cx p s m args meth c D E (Aof (zS μ0 ν0 a Ad0) [] s.heap.size) cX8_route 6 "TradeLine") (hEv : eV (Ad0 30 0) (Ad0 31 0) B (Aof (zS μ0 ν0 a Ad0) [] s.heap.size) s s.heap) (hr : meth.sig.returnType = none) (hz : s.heap.size = sz) {μ : MP} {ν : NC} {Ad : Nat → Nat → Nat} (hm0 : mn ν0 ν) (hp0 : kp ν0 Ad0 Ad) {p1 : Nat} {x2 : Int32} {x3 : Int32} {p4 : Nat} {x5 : Int32} {sp0 : Nat} {sp1 : Nat} {k10 : MP → NC → Nat → Int32 → Int32 → Option ((MP × NC) × Int32)} (hmk10 : ∀ (μ : MP) (ν : NC) (z1 : Nat) (z2 : Int32) (z3 : Int32), k10 μ ν z1 z2 z3 = some r0 → mn ν r0.1.2) (hk10 : ∀ (μ : MP) (ν : NC) (Ad : Nat → Nat → Nat) (z1 : Nat) (z2 : Int32) (z3 : Int32), mn ν0 ν → kp ν0 Ad0 Ad → k10 μ ν z1 z2 z3 = some r0 → G p l e ({ frames := 8, cells := kc r0.1.2 - kc ν0, slots := ks r0.1.2 - ks ν0, locals := 246 } : Room) s m args below meth c D E (Aof (zS μ0 ν0 a Ad0) [] s.heap.size) 6 (MQ below (cQ D E sz (zS μ0 ν0 a Ad0) [] (pV (fun u => ∃ A1, u = (zS r0.1.1 r0.1.2 a A1, []) ∧ kp ν0 Ad0 A1))) args s (kc r0.1.2 - kc ν0) (ks r0.1.2 - ks ν0) (Aof (zS μ0 ν0 a Ad0) [] s.heap.size)) (zS μ ν a Ad) [] (kc ν - kc ν0) (ks ν - ks ν0) 10 [(0, .ref (Ad 0 0)), (1, nv (Ad 20) z1), (2, .int z2), (3, .int z3)] []) (h : b_X8_route_68 k10 w μ ν p1 x2 x3 p4 x5 sp0 sp1 = some r0) : G p l e ({ frames := 8, cells := kc r0.1.2 - kc ν0, slots := ks r0.1.2 - ks ν0, locals := 246 } : Room) s m args below meth c D E (Aof (zS μ0 ν0 a Ad0) [] s.heap.size) 6 (MQ below (cQ D E sz (zS μ0 ν0 a Ad0) [] (pV (fun u => ∃ A1, u = (zS r0.1.1 r0.1.2 a A1, []) ∧ kp ν0 Ad0 A1))) args s (kc r0.1.2 - kc ν0) (ks r0.1.2 - ks ν0) (Aof (zS μ0 ν0 a Ad0) [] s.heap.size)) (zS μ ν a Ad) [] (kc ν - kc ν0) (ks ν - ks ν0) 68 [(0, .ref (Ad 0 0)), (1, nv (Ad 20) p1), (2, .int x2), (3, .int x3), (4, nv (Ad 25) p4), (5, .int x5)] [nv (Ad 23) sp0, nv (Ad 4) sp1] := by
  have m0 := mb_X8_route_68 hmk10 h
  have e1 := m0.2.1; have e2 := m0.2.2.1; have e3 := hm0.2.1; have e4 := hm0.2.2.1
  unfold b_X8_route_68 at h
  obtain ⟨g18, h⟩ := of_guard h
  rw [nzB_e g18]
  obtain ⟨g19, h⟩ := of_guard h
  obtain ⟨g20, h⟩ := of_guard h
  obtain ⟨g22, h⟩ := of_guard h
  obtain ⟨g23, h⟩ := of_guard h
  obtain ⟨g24, h⟩ := of_guard h
  obtain ⟨v21, hv21, h⟩ := bind_of h
  have m2 := m_Jx4a65c_add_9ea2d hv21
  have m3 := mb_X8_route_71 hmk10 h
  have a1 := hm0.2.1; have a2 := hm0.2.2.1; have b1 := m2.2.1; have b2 := m2.2.2.1; have d1 := m3.2.1; have d2 := m3.2.2.1
  refine g_lv [0, 1, 2, 3, 4, 5] rfl ?_
  rw [show nv (Ad 23) sp0 = nv (Ad (eK 5 (sp1 - 1))) sp0 from by rw [eqB_e g20]]
  refine g_cVie (n := 1) (exc := []) (exr := []) C hEv ⟨hp0.2.1 0, hp0.2.2 0⟩ [_] _ rfl rfl [] [] rfl rfl rfl rfl (fun _ h => absurd h (by simp)) (fun _ h => absurd h (by simp)) (fun _ h => absurd h (by simp)) (fun sz => c_Jx4a65c_add_9ea2d l B μ ν a Ad w (sp1 - 1) sp0 _ hv21 D E sz) rfl gw_354 gw_5 gw_351 gw_352 gw_353 ⟨by decide +kernel, by decide +kernel, by decide +kernel⟩ ⟨rfl, rfl⟩ ⟨Nat.le_of_ble_eq_true rfl, Nat.le_of_ble_eq_true rfl⟩ (rcvT (lvZ g19 rfl) rfl rfl rfl) (by first | exact Nat.le_of_ble_eq_true rfl | simp [nv_cat, cat_i, cat_r, cat_n]) dX8_route_68 ⟨by show (kc ν - kc ν0) + (kc v21.1.2 - kc ν) ≤ kc r0.1.2 - kc ν0; omega, by show (ks ν - ks ν0) + (ks v21.1.2 - ks ν) ≤ ks r0.1.2 - ks ν0; omega⟩ (fun r u hp hx => ?_)
  obtain ⟨er, A1, rfl, hkp⟩ := hp
  rw [er]
  try dsimp only [List.append_nil]
  refine g_widen (k := kc v21.1.2 - kc ν0) (n := ks v21.1.2 - ks ν0) (by omega) (by omega) ?_
  rw [show Ad 0 0 = A1 0 0 from (hkp.1 0 _ rfl (of_decide_eq_true g22)).symm]
  rw [show nv (Ad 20) p1 = nv (A1 20) p1 from (kp_nv hkp rfl g23).symm]
  rw [show nv (Ad 25) p4 = nv (A1 25) p4 from (kp_nv hkp rfl g24).symm]
  exact lb_X8_route_71 C hEv hr hz (mn_trans hm0 m2) (kp_trans hp0 hm0 hkp)  hmk10 hk10 h
noncomputable def b_X8_route_10 (k10 : MP → NC → Nat → Int32 → Int32 → Option ((MP × NC) × Int32)) (w : Nat) (μ : MP) (ν : NC) (p1 : Nat) (x2 : Int32) (x3 : Int32) : Option ((MP × NC) × Int32) := (if (100 : Int32) ≤ x3 then (b_X8_route_104  w μ ν p1 x2) else (bif ltB 0 (ν.2 0) then (f_X8_bestQuoteFor w μ ν p1).bind (fun v10 => (if v10 = 0 then (b_X8_route_104  w μ ν p1 x2) else (bif nzB p1 then bif ltB (p1 - 1) (ν.2 20) then bif ltB (2 * (p1 - 1) + 1) (ν.2 21) then (f_X1_rest w μ ν (2 * (p1 - 1) + 1) ).bind (fun v14 => bif ltB (v10 - 1) (ν.2 25) then yl ((if (μ.1 25 (v10 - 1) 2) < v14 then (μ.1 25 (v10 - 1) 2) else v14)) (fun t16 => bif ltB 5 (ν.2 4) then @ite _ (rfO μ ν 23) (Classical.propDecidable _) (b_X8_route_68 k10 w (nwExe μ ν (p1 - 1) (μ.1 25 (v10 - 1) 0) t16 (μ.1 0 0 10) (μ.1 25 (v10 - 1) 1)).1 (nwExe μ ν (p1 - 1) (μ.1 25 (v10 - 1) 0) t16 (μ.1 0 0 10) (μ.1 25 (v10 - 1) 1)).2 ((p1 - 1) + 1) x2 x3 ((v10 - 1) + 1) t16 (ν.2 23 + 1) (5 + 1)) none else none) else none) else none else none else none))) else none))
theorem mb_X8_route_10 {w : Nat} {μ : MP} {ν : NC} {p1 : Nat} {x2 : Int32} {x3 : Int32} {r0 : (MP × NC) × Int32} {k10 : MP → NC → Nat → Int32 → Int32 → Option ((MP × NC) × Int32)} (hmk10 : ∀ (μ : MP) (ν : NC) (z1 : Nat) (z2 : Int32) (z3 : Int32), k10 μ ν z1 z2 z3 = some r0 → mn ν r0.1.2) (h : b_X8_route_10 k10 w μ ν p1 x2 x3 = some r0) : mn ν r0.1.2 := by
  unfold b_X8_route_10 at h
  iterate 40 (try first | (with_reducible replace h := (of_guard h).2) | (with_reducible (replace h := of_guardP h; obtain ⟨hg, h⟩ := h)) | (with_reducible replace h := yl_of h rfl) | (with_reducible replace h := (of_thr h).2) | (with_reducible (replace h := bind_of h; obtain ⟨v, hv, h⟩ := h)) | (with_reducible split at h) | (with_reducible (exact mb_X8_route_104  h)) | (with_reducible (exact mn_trans (mn_exe _ _ _ _ _ _ _) (mb_X8_route_68 hmk10 h))) | (with_reducible exact absurd (congrArg Prod.fst (Option.some.inj h)) (by simp)))
set_option maxHeartbeats 4000000 in
set_option maxRecDepth 100000 in
theorem lb_X8_route_10 {p : Program} {l : Launch} {e : Env} {s : State} {m : MethodId} {args : Array Value} {below : List Frame} {meth : Method} {c : Code} {D : va_G} {E : Nat → ClassId} {sz : Nat} {μ0 : MP} {ν0 : NC} {a : AS} {Ad0 : Nat → Nat → Nat} {w : Nat} {B : Nat × (Nat → Nat)} {r0 : (MP × NC) × Int32} (C : cx p s m args meth c D E (Aof (zS μ0 ν0 a Ad0) [] s.heap.size) cX8_route 6 "TradeLine") (hEv : eV (Ad0 30 0) (Ad0 31 0) B (Aof (zS μ0 ν0 a Ad0) [] s.heap.size) s s.heap) (hr : meth.sig.returnType = none) (hz : s.heap.size = sz) {μ : MP} {ν : NC} {Ad : Nat → Nat → Nat} (hm0 : mn ν0 ν) (hp0 : kp ν0 Ad0 Ad) {p1 : Nat} {x2 : Int32} {x3 : Int32} {k10 : MP → NC → Nat → Int32 → Int32 → Option ((MP × NC) × Int32)} (hmk10 : ∀ (μ : MP) (ν : NC) (z1 : Nat) (z2 : Int32) (z3 : Int32), k10 μ ν z1 z2 z3 = some r0 → mn ν r0.1.2) (hk10 : ∀ (μ : MP) (ν : NC) (Ad : Nat → Nat → Nat) (z1 : Nat) (z2 : Int32) (z3 : Int32), mn ν0 ν → kp ν0 Ad0 Ad → k10 μ ν z1 z2 z3 = some r0 → G p l e ({ frames := 8, cells := kc r0.1.2 - kc ν0, slots := ks r0.1.2 - ks ν0, locals := 246 } : Room) s m args below meth c D E (Aof (zS μ0 ν0 a Ad0) [] s.heap.size) 6 (MQ below (cQ D E sz (zS μ0 ν0 a Ad0) [] (pV (fun u => ∃ A1, u = (zS r0.1.1 r0.1.2 a A1, []) ∧ kp ν0 Ad0 A1))) args s (kc r0.1.2 - kc ν0) (ks r0.1.2 - ks ν0) (Aof (zS μ0 ν0 a Ad0) [] s.heap.size)) (zS μ ν a Ad) [] (kc ν - kc ν0) (ks ν - ks ν0) 10 [(0, .ref (Ad 0 0)), (1, nv (Ad 20) z1), (2, .int z2), (3, .int z3)] []) (h : b_X8_route_10 k10 w μ ν p1 x2 x3 = some r0) : G p l e ({ frames := 8, cells := kc r0.1.2 - kc ν0, slots := ks r0.1.2 - ks ν0, locals := 246 } : Room) s m args below meth c D E (Aof (zS μ0 ν0 a Ad0) [] s.heap.size) 6 (MQ below (cQ D E sz (zS μ0 ν0 a Ad0) [] (pV (fun u => ∃ A1, u = (zS r0.1.1 r0.1.2 a A1, []) ∧ kp ν0 Ad0 A1))) args s (kc r0.1.2 - kc ν0) (ks r0.1.2 - ks ν0) (Aof (zS μ0 ν0 a Ad0) [] s.heap.size)) (zS μ ν a Ad) [] (kc ν - kc ν0) (ks ν - ks ν0) 10 [(0, .ref (Ad 0 0)), (1, nv (Ad 20) p1), (2, .int x2), (3, .int x3)] [] := by
  have m0 := mb_X8_route_10 hmk10 h
  have e1 := m0.2.1; have e2 := m0.2.2.1; have e3 := hm0.2.1; have e4 := hm0.2.2.1
  unfold b_X8_route_10 at h
  refine g_iload_n C dX8_route_10 rfl 3 rfl ?_
  refine g_bipush (v := (100 : Int32)) C dX8_route_11 (by decide) ?_
  refine g_icmp_ge (tgt := 104) C dX8_route_13 (by decide) (fun c13 => ?_) (fun c13 => ?_)
  · replace h := (if_pos c13).symm.trans h
    refine g_lv [0, 1, 2] rfl ?_
    exact lb_X8_route_104 C hEv hr hz hm0 hp0   h
  · replace h := (if_neg c13).symm.trans h
    refine g_aload_n C dX8_route_16 rfl 0 rfl ?_
    refine z_aload_n C dX8_route_17 rfl 1 rfl (nv_or _ _) ?_
    obtain ⟨g9, h⟩ := of_guard h
    obtain ⟨v10, hv10, h⟩ := bind_of h
    refine g_cVq (n := 1) (exc := []) (exr := []) C [_] _ rfl rfl [] [] rfl rfl rfl rfl (fun _ h => absurd h (by simp)) (fun _ h => absurd h (by simp)) (fun _ h => absurd h (by simp)) (fun sz => c_X8_bestQuoteFor l μ ν a Ad w p1 _ hv10 D E sz) rfl gw_875 gw_1 gw_872 gw_874 gs_25 ⟨by decide +kernel, by decide +kernel, by decide +kernel⟩ ⟨rfl, rfl⟩ ⟨Nat.le_of_ble_eq_true rfl, Nat.le_of_ble_eq_true rfl⟩ (rcvT (lvZ g9 rfl) rfl rfl rfl) (by first | exact Nat.le_of_ble_eq_true rfl | simp [nv_cat, cat_i, cat_r, cat_n]) dX8_route_18 ⟨by show (kc ν - kc ν0) + 0 ≤ kc r0.1.2 - kc ν0; omega, by show (ks ν - ks ν0) + 0 ≤ ks r0.1.2 - ks ν0; omega⟩ (fun r u hp hx => ?_)
    obtain ⟨er, rfl⟩ := hp
    rw [er]
    try dsimp only [List.append_nil]
    refine z_astore (lv' := [(4, nv (Ad 25) v10), (0, .ref (Ad 0 0)), (1, nv (Ad 20) p1), (2, .int x2), (3, .int x3)]) C dX8_route_21 (nv_or _ _) (by decide) (by simp [nv_cat, cat_i, cat_r, cat_n]) ?_
    refine z_aload C dX8_route_23 0 rfl (nv_or _ _) ?_
    by_cases c25 : v10 = 0
    · replace h := (if_pos c25).symm.trans h
      rw [nv_z c25]
      refine z_ifnonnullN C dX8_route_25 ?_
      refine g_goto (tgt := 104) C dX8_route_28 (by decide) ?_
      refine g_lv [1, 2, 3] rfl ?_
      exact lb_X8_route_104 C hEv hr hz hm0 hp0   h
    · replace h := (if_neg c25).symm.trans h
      rw [nv_n c25]
      refine z_ifnonnull (tgt := 31) C dX8_route_25 (by decide) ?_
      refine z_aload_n C dX8_route_31 rfl 2 rfl (nv_or _ _) ?_
      obtain ⟨g11, h⟩ := of_guard h
      rw [nzB_e g11]
      obtain ⟨g12, h⟩ := of_guard h
      refine g_get (k := 20) (i := (p1 - 1)) (ref := "TradeLine$Order") (v := .ref (Ad 21 (2 * (p1 - 1) + 1))) C rfl (lvZ g12 rfl) rfl rfl inGX4 3 (by decide) gw_1116 (fun _ h => h) rfl dX8_route_32 ?_
      obtain ⟨g13, h⟩ := of_guard h
      obtain ⟨v14, hv14, h⟩ := bind_of h
      refine g_cVi (n := 0) (exc := []) (exr := []) C [] _ rfl rfl [] [] rfl rfl rfl rfl (fun _ h => absurd h (by simp)) (fun _ h => absurd h (by simp)) (fun _ h => absurd h (by simp)) (fun sz => c_X1_rest l μ ν a Ad w (2 * (p1 - 1) + 1)  _ hv14 D E sz) rfl gw_887 gw_31 gw_892 gw_885 gw_886 ⟨by decide +kernel, by decide +kernel, by decide +kernel⟩ ⟨rfl, rfl⟩ ⟨Nat.le_of_ble_eq_true rfl, Nat.le_of_ble_eq_true rfl⟩ (rcvT (lvZ g13 rfl) rfl rfl rfl) (by first | exact Nat.le_of_ble_eq_true rfl | simp [nv_cat, cat_i, cat_r, cat_n]) dX8_route_35 ⟨by show (kc ν - kc ν0) + 0 ≤ kc r0.1.2 - kc ν0; omega, by show (ks ν - ks ν0) + 0 ≤ ks r0.1.2 - ks ν0; omega⟩ (fun r u hp hx => ?_)
      obtain ⟨er, rfl⟩ := hp
      rw [er]
      try dsimp only [List.append_nil]
      refine g_aload C dX8_route_38 0 rfl ?_
      obtain ⟨g15, h⟩ := of_guard h
      refine g_get (k := 25) (i := (v10 - 1)) (ref := "TradeLine$Quote") (v := .int (μ.1 25 (v10 - 1) 2)) C rfl (lvZ g15 rfl) rfl rfl inGX6 2 (by decide) gw_162 (fun _ h => h) rfl dX8_route_40 ?_
      refine g_mmin C gw_514 gw_327 gw_19 gw_328 (Nat.le_of_ble_eq_true rfl) (Nat.le_of_ble_eq_true rfl) (by show kc ν - kc ν0 ≤ kc r0.1.2 - kc ν0; omega) (by show ks ν - ks ν0 ≤ ks r0.1.2 - ks ν0; omega) dX8_route_43 ?_
      refine q_topi (fun t16 et16 => ?_)
      replace h := yl_of h et16
      refine g_istore (lv' := [(5, .int t16), (4, .ref (Ad 25 (v10 - 1))), (0, .ref (Ad 0 0)), (1, .ref (Ad 20 (p1 - 1))), (2, .int x2), (3, .int x3)]) C dX8_route_46 (by decide) rfl ?_
      refine g_aload_n C dX8_route_48 rfl 2 rfl ?_
      refine g_get (k := 0) (i := 0) (ref := "TradeLine") (v := .ref (Ad 4 5)) C rfl (lvZ g9 rfl) rfl rfl inGX8 5 (by decide) gw_175 (fun _ h => h) rfl dX8_route_49 ?_
      obtain ⟨g17, h⟩ := of_guard h
      obtain ⟨gm, h⟩ := of_guardP h
      have m2 := mn_exe μ ν (p1 - 1) (μ.1 25 (v10 - 1) 0) t16 (μ.1 0 0 10) (μ.1 25 (v10 - 1) 1)
      have m3 := mb_X8_route_68 hmk10 h
      have a1 := hm0.2.1; have a2 := hm0.2.2.1; have b1 := m2.2.1; have b2 := m2.2.2.1; have d1 := m3.2.1; have d2 := m3.2.2.1
      have k1 := (kc_exe μ ν (p1 - 1) (μ.1 25 (v10 - 1) 0) t16 (μ.1 0 0 10) (μ.1 25 (v10 - 1) 1)).1; have k2 := (kc_exe μ ν (p1 - 1) (μ.1 25 (v10 - 1) 0) t16 (μ.1 0 0 10) (μ.1 25 (v10 - 1) 1)).2
      refine g_new (ci := 5) C inGX2 tyX2 tyX2_ok gw_893 gw_894 gw_29 rfl (fs := [.null, .int 0, .int 0, .int 0, .int 0, .int 0, .int 0, .int 0, .int 0]) (fun j hj => match j, hj with | 0, _ => rfl | 1, _ => rfl | 2, _ => rfl | 3, _ => rfl | 4, _ => rfl | 5, _ => rfl | 6, _ => rfl | 7, _ => rfl | 8, _ => rfl) (by show (kc ν - kc ν0) + 1 ≤ kc r0.1.2 - kc ν0; omega) (by show (ks ν - ks ν0) + 9 ≤ ks r0.1.2 - ks ν0; omega) dX8_route_52 (fun qn hqn hqns => ?_)
      refine g_dup C dX8_route_55 rfl ?_
      refine g_aload_n C dX8_route_56 rfl 3 rfl ?_
      refine g_aload C dX8_route_57 1 rfl ?_
      refine g_iload C dX8_route_59 0 rfl ?_
      refine g_aload_n C dX8_route_61 rfl 2 rfl ?_
      refine g_get (k := 0) (i := 0) (ref := "TradeLine") (v := .int (μ.1 0 0 10)) C rfl (lvZ g9 rfl) rfl rfl inGX8 10 (by decide) gw_180 (fun _ h => h) rfl dX8_route_62 ?_
      refine g_lv [2, 3, 4, 5, 1, 0] rfl ?_
      refine g_cI (n := 4) (exc := [(qn, .inr (5, [.null, .int 0, .int 0, .int 0, .int 0, .int 0, .int 0, .int 0, .int 0]))]) (exr := []) C [_, _, _, _] _ rfl rfl [0] [] rfl rfl rfl rfl (fun _ h => by simp at h) (fun q h => by simp at h; exact ⟨0, _, by rw [h]; rfl⟩) (fun q h => by simp at h; rw [h]; exact hqn) (fun sz => k_exe l (zS μ ν a Ad) qn (p1 - 1) (v10 - 1) t16 (μ.1 0 0 10) (lvZ g12 rfl) (lvZ g15 rfl) D E sz) rfl gw_897 gw_29 gw_895 gw_896 rfl ⟨by decide +kernel, by decide +kernel, by decide +kernel⟩ ⟨rfl, rfl⟩ ⟨Nat.le_of_ble_eq_true rfl, Nat.le_of_ble_eq_true rfl⟩ (by first | exact Nat.le_of_ble_eq_true rfl | simp [nv_cat, cat_i, cat_r, cat_n]) dX8_route_65 ⟨by show (kc ν - kc ν0) + 1 + 0 ≤ kc r0.1.2 - kc ν0; omega, by show (ks ν - ks ν0) + 9 + 0 ≤ ks r0.1.2 - ks ν0; omega⟩ (fun u hp hx => ?_)
      obtain rfl := hp
      try dsimp only [List.append_nil]
      rw [show rM (zS μ ν a Ad) 25 (v10 - 1) = μ.1 25 (v10 - 1) from mx_lo μ.1 a (k := 25) (i := (v10 - 1)) rfl]
      refine g_adX gm hqn ?_
      have hkp : kp ν Ad (up2 Ad 23 (ν.2 23) qn) := kp_new (k := 23) (by omega) (Nat.le_refl _)
      have hqe : (up2 Ad 23 (ν.2 23) qn) 23 (ν.2 23) = qn := up2_s _ _ _ _
      generalize up2 Ad 23 (ν.2 23) qn = A1 at hkp hqe ⊢
      rw [← hqe]
      refine g_widen (k := kc (nwExe μ ν (p1 - 1) (μ.1 25 (v10 - 1) 0) t16 (μ.1 0 0 10) (μ.1 25 (v10 - 1) 1)).2 - kc ν0) (n := ks (nwExe μ ν (p1 - 1) (μ.1 25 (v10 - 1) 0) t16 (μ.1 0 0 10) (μ.1 25 (v10 - 1) 1)).2 - ks ν0) (by show (kc ν - kc ν0) + 1 + 0 ≤ kc (nwExe μ ν (p1 - 1) (μ.1 25 (v10 - 1) 0) t16 (μ.1 0 0 10) (μ.1 25 (v10 - 1) 1)).2 - kc ν0; omega) (by show (ks ν - ks ν0) + 9 + 0 ≤ ks (nwExe μ ν (p1 - 1) (μ.1 25 (v10 - 1) 0) t16 (μ.1 0 0 10) (μ.1 25 (v10 - 1) 1)).2 - ks ν0; omega) ?_
      rw [show Ad 0 0 = A1 0 0 from (hkp.1 0 _ rfl (of_decide_eq_true g9)).symm]
      rw [show Ad 20 (p1 - 1) = A1 20 (p1 - 1) from (hkp.1 20 _ rfl (of_decide_eq_true g12)).symm]
      rw [show Ad 25 (v10 - 1) = A1 25 (v10 - 1) from (hkp.1 25 _ rfl (of_decide_eq_true g15)).symm]
      rw [show Ad 4 5 = A1 4 5 from (hkp.1 4 _ rfl (of_decide_eq_true g17)).symm]
      exact lb_X8_route_68 C hEv hr hz (mn_trans hm0 m2) (kp_trans hp0 hm0 hkp)  hmk10 hk10 h
noncomputable def l_X8_route_10  (w : Nat) : Nat → MP → NC → Nat → Int32 → Int32 → Option ((MP × NC) × Int32)
  | 0 => fun _ _ _ _ _ => none
  | n + 1 => fun μ ν p1 x2 x3 => b_X8_route_10  (l_X8_route_10  w n) w μ ν p1 x2 x3
theorem ml_X8_route_10 {w : Nat} {r0 : (MP × NC) × Int32}   : ∀ (n : Nat) (μ : MP) (ν : NC) (p1 : Nat) (x2 : Int32) (x3 : Int32), l_X8_route_10  w n μ ν p1 x2 x3 = some r0 → mn ν r0.1.2 := by
  intro n
  induction n with
  | zero => exact fun μ ν p1 x2 x3 h => absurd (show (none : Option ((MP × NC) × Int32)) = some r0 from h) (by simp)
  | succ n ih => exact fun μ ν p1 x2 x3 h => mb_X8_route_10 (w := w)  ih h
theorem ll_X8_route_10 {p : Program} {l : Launch} {e : Env} {s : State} {m : MethodId} {args : Array Value} {below : List Frame} {meth : Method} {c : Code} {D : va_G} {E : Nat → ClassId} {sz : Nat} {μ0 : MP} {ν0 : NC} {a : AS} {Ad0 : Nat → Nat → Nat} {w : Nat} {B : Nat × (Nat → Nat)} {r0 : (MP × NC) × Int32} (C : cx p s m args meth c D E (Aof (zS μ0 ν0 a Ad0) [] s.heap.size) cX8_route 6 "TradeLine") (hEv : eV (Ad0 30 0) (Ad0 31 0) B (Aof (zS μ0 ν0 a Ad0) [] s.heap.size) s s.heap) (hr : meth.sig.returnType = none) (hz : s.heap.size = sz)    : ∀ (n : Nat) (μ : MP) (ν : NC) (Ad : Nat → Nat → Nat) (p1 : Nat) (x2 : Int32) (x3 : Int32), mn ν0 ν → kp ν0 Ad0 Ad → l_X8_route_10  w n μ ν p1 x2 x3 = some r0 → G p l e ({ frames := 8, cells := kc r0.1.2 - kc ν0, slots := ks r0.1.2 - ks ν0, locals := 246 } : Room) s m args below meth c D E (Aof (zS μ0 ν0 a Ad0) [] s.heap.size) 6 (MQ below (cQ D E sz (zS μ0 ν0 a Ad0) [] (pV (fun u => ∃ A1, u = (zS r0.1.1 r0.1.2 a A1, []) ∧ kp ν0 Ad0 A1))) args s (kc r0.1.2 - kc ν0) (ks r0.1.2 - ks ν0) (Aof (zS μ0 ν0 a Ad0) [] s.heap.size)) (zS μ ν a Ad) [] (kc ν - kc ν0) (ks ν - ks ν0) 10 [(0, .ref (Ad 0 0)), (1, nv (Ad 20) p1), (2, .int x2), (3, .int x3)] [] := by
  intro n
  induction n with
  | zero => exact fun μ ν Ad p1 x2 x3 hm0 hp0 h => absurd (show (none : Option ((MP × NC) × Int32)) = some r0 from h) (by simp)
  | succ n ih => exact fun μ ν Ad p1 x2 x3 hm0 hp0 h => lb_X8_route_10 (w := w) C hEv hr hz hm0 hp0   (ml_X8_route_10  n) ih h
noncomputable def f_X8_route  (w : Nat) (μ : MP) (ν : NC) (p1 : Nat) : Option ((MP × NC) × Int32) := bif ltB 0 (ν.2 0) then bif ltB 5 (ν.2 4) then yl ((μ.1 4 5 2)) (fun t3 => l_X8_route_10  w w μ ν p1 t3 t3) else none else none
theorem mb_X8_route_0 {w : Nat} {μ : MP} {ν : NC} {p1 : Nat} {r0 : (MP × NC) × Int32}   (h : f_X8_route  w μ ν p1 = some r0) : mn ν r0.1.2 := by
  unfold f_X8_route at h
  iterate 40 (try first | (with_reducible replace h := (of_guard h).2) | (with_reducible (replace h := of_guardP h; obtain ⟨hg, h⟩ := h)) | (with_reducible replace h := yl_of h rfl) | (with_reducible replace h := (of_thr h).2) | (with_reducible (replace h := bind_of h; obtain ⟨v, hv, h⟩ := h)) | (with_reducible split at h) | (with_reducible (exact ml_X8_route_10  _ _ _ _ _ _ h)) | (with_reducible exact absurd (congrArg Prod.fst (Option.some.inj h)) (by simp)))
set_option maxHeartbeats 4000000 in
set_option maxRecDepth 100000 in
theorem lb_X8_route_0 {p : Program} {l : Launch} {e : Env} {s : State} {m : MethodId} {args : Array Value} {below : List Frame} {meth : Method} {c : Code} {D : va_G} {E : Nat → ClassId} {sz : Nat} {μ0 : MP} {ν0 : NC} {a : AS} {Ad0 : Nat → Nat → Nat} {w : Nat} {B : Nat × (Nat → Nat)} {r0 : (MP × NC) × Int32} (C : cx p s m args meth c D E (Aof (zS μ0 ν0 a Ad0) [] s.heap.size) cX8_route 6 "TradeLine") (hEv : eV (Ad0 30 0) (Ad0 31 0) B (Aof (zS μ0 ν0 a Ad0) [] s.heap.size) s s.heap) (hr : meth.sig.returnType = none) (hz : s.heap.size = sz) {μ : MP} {ν : NC} {Ad : Nat → Nat → Nat} (hm0 : mn ν0 ν) (hp0 : kp ν0 Ad0 Ad) {p1 : Nat}   (h : f_X8_route  w μ ν p1 = some r0) : G p l e ({ frames := 8, cells := kc r0.1.2 - kc ν0, slots := ks r0.1.2 - ks ν0, locals := 246 } : Room) s m args below meth c D E (Aof (zS μ0 ν0 a Ad0) [] s.heap.size) 6 (MQ below (cQ D E sz (zS μ0 ν0 a Ad0) [] (pV (fun u => ∃ A1, u = (zS r0.1.1 r0.1.2 a A1, []) ∧ kp ν0 Ad0 A1))) args s (kc r0.1.2 - kc ν0) (ks r0.1.2 - ks ν0) (Aof (zS μ0 ν0 a Ad0) [] s.heap.size)) (zS μ ν a Ad) [] (kc ν - kc ν0) (ks ν - ks ν0) 0 [(0, .ref (Ad 0 0)), (1, nv (Ad 20) p1)] [] := by
  have m0 := mb_X8_route_0  h
  have e1 := m0.2.1; have e2 := m0.2.2.1; have e3 := hm0.2.1; have e4 := hm0.2.2.1
  unfold f_X8_route at h
  refine g_aload_n C dX8_route_0 rfl 0 rfl ?_
  obtain ⟨g1, h⟩ := of_guard h
  refine g_get (k := 0) (i := 0) (ref := "TradeLine") (v := .ref (Ad 4 5)) C rfl (lvZ g1 rfl) rfl rfl inGX8 5 (by decide) gw_175 (fun _ h => h) rfl dX8_route_1 ?_
  obtain ⟨g2, h⟩ := of_guard h
  refine g_cVi (n := 0) (exc := []) (exr := []) C [] _ rfl rfl [] [] rfl rfl rfl rfl (fun _ h => absurd h (by simp)) (fun _ h => absurd h (by simp)) (fun _ h => absurd h (by simp)) (fun sz => c_Jx4a65c_size_8abf5 l μ ν a Ad _ g2 D E sz) rfl gw_308 gw_5 gw_305 gw_306 gw_307 ⟨by decide +kernel, by decide +kernel, by decide +kernel⟩ ⟨rfl, rfl⟩ ⟨Nat.le_of_ble_eq_true rfl, Nat.le_of_ble_eq_true rfl⟩ (rcvT (lvZ g2 rfl) rfl rfl rfl) (by first | exact Nat.le_of_ble_eq_true rfl | simp [nv_cat, cat_i, cat_r, cat_n]) dX8_route_4 ⟨by show (kc ν - kc ν0) + 0 ≤ kc r0.1.2 - kc ν0; omega, by show (ks ν - ks ν0) + 0 ≤ ks r0.1.2 - ks ν0; omega⟩ (fun r u hp hx => ?_)
  obtain ⟨er, rfl⟩ := hp
  rw [er]
  try dsimp only [List.append_nil]
  refine q_topi (fun t3 et3 => ?_)
  replace h := yl_of h et3
  refine g_istore_n (i := 2) (lv' := [(2, .int t3), (0, .ref (Ad 0 0)), (1, nv (Ad 20) p1)]) C dX8_route_7 rfl (by decide) (by simp [nv_cat, cat_i, cat_r, cat_n]) ?_
  refine g_iload_n C dX8_route_8 rfl 0 rfl ?_
  refine g_istore_n (i := 3) (lv' := [(3, .int t3), (2, .int t3), (0, .ref (Ad 0 0)), (1, nv (Ad 20) p1)]) C dX8_route_9 rfl (by decide) (by simp [nv_cat, cat_i, cat_r, cat_n]) ?_
  refine g_lv [2, 3, 1, 0] rfl ?_
  exact ll_X8_route_10 C hEv hr hz   w _ _ _ _ _ _ hm0 hp0 h
theorem m_X8_route {w : Nat} {μ : MP} {ν : NC} {p1 : Nat} {r0 : (MP × NC) × Int32} (h : f_X8_route w μ ν p1 = some r0) : mn ν r0.1.2 := mb_X8_route_0 h
theorem c_X8_route (l : Launch) (B : Nat × (Nat → Nat)) (μ : MP) (ν : NC) (a : AS) (Ad : Nat → Nat → Nat) (w : Nat) (p1 : Nat) (r0 : (MP × NC) × Int32) (h : f_X8_route w μ ν p1 = some r0) : ∀ D E sz, Met l yX8_route gwX8_route ({ frames := 8, cells := kc r0.1.2 - kc ν, slots := ks r0.1.2 - ks ν, locals := 246 } : Room) (cPe D E sz B (zS μ ν a Ad) [] [] [.ref (Ad 0 0), nv (Ad 20) p1]) (cQ D E sz (zS μ ν a Ad) [] (pV (fun u => ∃ A1, u = (zS r0.1.1 r0.1.2 a A1, []) ∧ kp ν Ad A1))) (kc r0.1.2 - kc ν) (ks r0.1.2 - ks ν) (Aof (zS μ ν a Ad) [] sz) := by
  intro D E sz
  refine g_ofe (cc := cX8_route) (maxL := 6) (ret := none) (own := "TradeLine") (by decide) rfl rfl (by cases p1 <;> exact Nat.le_of_ble_eq_true rfl) ?_
  intro p e s m args below meth c C hr hin hz ha hwr hEv
  refine g_lv (lv' := [(0, .ref (Ad 0 0)), (1, nv (Ad 20) p1)]) [0, 1] (by cases p1 <;> rfl) ?_
  refine g_widen (k := kc ν - kc ν) (n := ks ν - ks ν) (Nat.zero_le _) (Nat.zero_le _) ?_
  exact lb_X8_route_0 C hEv hr hz (mn_rfl _) (kp_rfl _ _) h
