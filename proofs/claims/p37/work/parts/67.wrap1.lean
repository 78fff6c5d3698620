noncomputable def f_L_held (w : Nat) (μ : MP) (ν : NC) (x1 : Int32) : Option ((MP × NC) × Int32) := (f_X8_held w μ ν x1).bind (fun r => if r.1 = 0 then some (((μ, ν), r.2)) else if r.1 = 1 then some ((μ, chg ν 1 6), (-7100 : Int32)) else none)
set_option maxHeartbeats 4000000 in
set_option maxRecDepth 100000 in
theorem r_L_held (l : Launch) (hl : l.stackTraces = false) (B : Nat × (Nat → Nat)) (μ : MP) (ν : NC) (a : AS) (Ad : Nat → Nat → Nat) (w : Nat) (x1 : Int32) (r0 : Int32) (h : f_X8_held w μ ν x1 = some (0, r0)) (h0 : 0 < ν.2 0) : ∀ D E sz, vx_Met l yL_held gwL_held ({ frames := 8, cells := kc (((μ, ν), r0)).1.2 - kc ν, slots := ks (((μ, ν), r0)).1.2 - ks ν, locals := 141 } : Room) (cPh D E sz B (zS μ ν a Ad) [.ref (Ad 0 0), .int x1]) (cQ D E sz (zS μ ν a Ad) [] (pI (fun r u => r = (((μ, ν), r0)).2 ∧ ∃ A1, u = (zS (((μ, ν), r0)).1.1 (((μ, ν), r0)).1.2 a A1, []) ∧ kp ν Ad A1))) (fun _ _ _ => False) (kc (((μ, ν), r0)).1.2 - kc ν) (ks (((μ, ν), r0)).1.2 - ks ν) (Aof (zS μ ν a Ad) [] sz) := by
  intro D E sz
  refine g_ofH (cc := cL_held) (maxL := 4) (ret := some .int) (hh := [(0, 6, 9, 24)]) (own := "TradeLineLaw") (by decide) rfl rfl (Nat.le_of_ble_eq_true rfl) ?_
  intro p e s m args below meth c C hr hT hz hEv hN
  refine g_vx ?_
  refine g_lv (lv' := [(0, .ref (Ad 0 0)), (1, .int x1)]) [0, 1] rfl ?_
  refine g_aload_n C dL_held_0 rfl 0 rfl ?_
  refine g_iload_n C dL_held_1 rfl 1 rfl ?_
  refine g_cVi (n := 1) (exc := []) (exr := []) C [_] _ rfl rfl [] [] rfl rfl rfl rfl (fun _ h => absurd h (by simp)) (fun _ h => absurd h (by simp)) (fun _ h => absurd h (by simp)) (fun sz => c_X8_held l μ ν a Ad w x1 r0 h D E sz) rfl gw_1251 gw_1 gw_1248 gw_1249 gw_1250 ⟨by decide +kernel, by decide +kernel, by decide +kernel⟩ ⟨rfl, rfl⟩ ⟨Nat.le_of_ble_eq_true rfl, Nat.le_of_ble_eq_true rfl⟩ (rcvT ⟨h0, fun e => absurd e (by decide)⟩ rfl rfl rfl) (Nat.le_of_ble_eq_true rfl) dL_held_2 ⟨Nat.zero_le _, Nat.zero_le _⟩ (fun r u hp hx => ?_)
  obtain ⟨er, rfl⟩ := hp
  rw [er]
  try dsimp only [List.append_nil]
  refine g_widen (k := kc ν - kc ν) (n := ks ν - ks ν) (Nat.zero_le _) (Nat.zero_le _) ?_
  refine g_istore_n (lv' := [(2, .int r0), (0, .ref (Ad 0 0)), (1, .int x1)]) C dL_held_5 rfl (by decide) rfl ?_
  refine g_goto (tgt := 14) C dL_held_6 (by decide) ?_
  refine g_iload_n C dL_held_14 rfl 0 rfl ?_
  exact g_iret C hr rfl hz ⟨rfl, rfl, fun _ => rfl, fun _ => rfl⟩ ⟨rfl, Ad, rfl, kp_rfl _ _⟩ (fun j x h => by simp at h) dL_held_15
set_option maxHeartbeats 4000000 in
set_option maxRecDepth 100000 in
theorem e1_L_held (l : Launch) (hl : l.stackTraces = false) (B : Nat × (Nat → Nat)) (μ : MP) (ν : NC) (a : AS) (Ad : Nat → Nat → Nat) (w : Nat) (x1 : Int32) (r0 : Int32) (h : f_X8_held w μ ν x1 = some (1, r0)) (h0 : 0 < ν.2 0) : ∀ D E sz, vx_Met l yL_held gwL_held ({ frames := 8, cells := kc (((μ, chg ν 1 6), (-7100 : Int32))).1.2 - kc ν, slots := ks (((μ, chg ν 1 6), (-7100 : Int32))).1.2 - ks ν, locals := 141 } : Room) (cPh D E sz B (zS μ ν a Ad) [.ref (Ad 0 0), .int x1]) (cQ D E sz (zS μ ν a Ad) [] (pI (fun r u => r = (((μ, chg ν 1 6), (-7100 : Int32))).2 ∧ ∃ A1, u = (zS (((μ, chg ν 1 6), (-7100 : Int32))).1.1 (((μ, chg ν 1 6), (-7100 : Int32))).1.2 a A1, []) ∧ kp ν Ad A1))) (fun _ _ _ => False) (kc (((μ, chg ν 1 6), (-7100 : Int32))).1.2 - kc ν) (ks (((μ, chg ν 1 6), (-7100 : Int32))).1.2 - ks ν) (Aof (zS μ ν a Ad) [] sz) := by
  have k1 := kc_chg ν 1 6; have k2 := ks_chg ν 1 6
  intro D E sz
  refine g_ofH (cc := cL_held) (maxL := 4) (ret := some .int) (hh := [(0, 6, 9, 24)]) (own := "TradeLineLaw") (by decide) rfl rfl (Nat.le_of_ble_eq_true rfl) ?_
  intro p e s m args below meth c C hr hT hz hEv hN
  refine g_lv (lv' := [(0, .ref (Ad 0 0)), (1, .int x1)]) [0, 1] rfl ?_
  refine g_aload_n C dL_held_0 rfl 0 rfl ?_
  refine g_iload_n C dL_held_1 rfl 1 rfl ?_
  refine g_hc (n := 1) (index := 1) C hEv ⟨rfl, rfl⟩ hN [_] _ rfl rfl (fun sz => x_X8_held l hl B μ ν a Ad w x1 0 r0 h D E sz) rfl gw_1251 gw_1 gw_1248 gw_1249 gw_1250 ⟨by decide +kernel, by decide +kernel, by decide +kernel⟩ ⟨rfl, rfl⟩ ⟨Nat.le_of_ble_eq_true rfl, Nat.le_of_ble_eq_true rfl⟩ (rcvT ⟨h0, fun e => absurd e (by decide)⟩ rfl rfl rfl) (Nat.le_of_ble_eq_true rfl) dL_held_2 ⟨by show 1 ≤ kc (chg ν 1 6) - kc ν; omega, by show 6 ≤ ks (chg ν 1 6) - ks ν; omega⟩ [] ⟨0, 6, 9, 24⟩ [] hT (fun z hz => absurd hz (by simp)) (by decide) (by decide) gw_473 (by decide) rfl (fun q9 => ?_)
  refine g_chg 1 6 ?_
  refine g_widen (k := kc (chg ν 1 6) - kc ν) (n := ks (chg ν 1 6) - ks ν) (by omega) (by omega) ?_
  refine g_astore_n (lv' := [(3, .ref q9), (0, .ref (Ad 0 0)), (1, .int x1)]) C dL_held_9 rfl (by decide) rfl ?_
  refine g_sipush (v := (-7100 : Int32)) C dL_held_10 (by decide) ?_
  refine g_vx ?_
  exact g_iret C hr rfl hz ⟨rfl, rfl, fun _ => rfl, fun _ => rfl⟩ ⟨rfl, Ad, rfl, kp_rfl _ _⟩ (fun j x h => by simp at h) dL_held_13
theorem m_L_held {w : Nat} {μ : MP} {ν : NC} {x1 : Int32} {r0 : (MP × NC) × Int32} (h : f_L_held w μ ν x1 = some r0) : mn ν r0.1.2 := by
  unfold f_L_held at h
  obtain ⟨⟨t, r⟩, h1, h⟩ := bind_of h
  by_cases c0 : t = 0
  · subst c0
    obtain rfl := Option.some.inj ((if_pos rfl).symm.trans h)
    exact mn_rfl _
  · replace h := (if_neg c0).symm.trans h
    by_cases c1 : t = 1
    · subst c1
      obtain rfl := Option.some.inj ((if_pos rfl).symm.trans h)
      exact mn_chg _ _ _
    replace h := (if_neg c1).symm.trans h
    exact absurd h (by simp)
theorem c_L_held (l : Launch) (hl : l.stackTraces = false) (B : Nat × (Nat → Nat)) (μ : MP) (ν : NC) (a : AS) (Ad : Nat → Nat → Nat) (w : Nat) (x1 : Int32) (r0 : (MP × NC) × Int32) (h : f_L_held w μ ν x1 = some r0) (h0 : 0 < ν.2 0) : ∀ D E sz, vx_Met l yL_held gwL_held ({ frames := 8, cells := kc (r0).1.2 - kc ν, slots := ks (r0).1.2 - ks ν, locals := 141 } : Room) (cPh D E sz B (zS μ ν a Ad) [.ref (Ad 0 0), .int x1]) (cQ D E sz (zS μ ν a Ad) [] (pI (fun r u => r = (r0).2 ∧ ∃ A1, u = (zS (r0).1.1 (r0).1.2 a A1, []) ∧ kp ν Ad A1))) (fun _ _ _ => False) (kc (r0).1.2 - kc ν) (ks (r0).1.2 - ks ν) (Aof (zS μ ν a Ad) [] sz) := by
  unfold f_L_held at h
  obtain ⟨⟨t, r⟩, h1, h⟩ := bind_of h
  by_cases c0 : t = 0
  · subst c0
    obtain rfl := Option.some.inj ((if_pos rfl).symm.trans h)
    exact r_L_held l hl B μ ν a Ad w x1 r h1 h0
  · replace h := (if_neg c0).symm.trans h
    by_cases c1 : t = 1
    · subst c1
      obtain rfl := Option.some.inj ((if_pos rfl).symm.trans h)
      exact e1_L_held l hl B μ ν a Ad w x1 r h1 h0
    replace h := (if_neg c1).symm.trans h
    exact absurd h (by simp)
noncomputable def f_L_fields (w : Nat) (μ : MP) (ν : NC) (x1 : Int32) (x2 : Int32) : Option ((MP × NC) × Int32) := (f_X8_fields w μ ν x1 x2).bind (fun r => if r.1 = 0 then some (((μ, ν), r.2)) else if r.1 = 1 then some ((μ, chg ν 1 6), (-7100 : Int32)) else none)
set_option maxHeartbeats 4000000 in
set_option maxRecDepth 100000 in
theorem r_L_fields (l : Launch) (hl : l.stackTraces = false) (B : Nat × (Nat → Nat)) (μ : MP) (ν : NC) (a : AS) (Ad : Nat → Nat → Nat) (w : Nat) (x1 : Int32) (x2 : Int32) (r0 : Int32) (h : f_X8_fields w μ ν x1 x2 = some (0, r0)) (h0 : 0 < ν.2 0) : ∀ D E sz, vx_Met l yL_fields gwL_fields ({ frames := 9, cells := kc (((μ, ν), r0)).1.2 - kc ν, slots := ks (((μ, ν), r0)).1.2 - ks ν, locals := 165 } : Room) (cPh D E sz B (zS μ ν a Ad) [.ref (Ad 0 0), .int x1, .int x2]) (cQ D E sz (zS μ ν a Ad) [] (pI (fun r u => r = (((μ, ν), r0)).2 ∧ ∃ A1, u = (zS (((μ, ν), r0)).1.1 (((μ, ν), r0)).1.2 a A1, []) ∧ kp ν Ad A1))) (fun _ _ _ => False) (kc (((μ, ν), r0)).1.2 - kc ν) (ks (((μ, ν), r0)).1.2 - ks ν) (Aof (zS μ ν a Ad) [] sz) := by
  intro D E sz
  refine g_ofH (cc := cL_fields) (maxL := 5) (ret := some .int) (hh := [(0, 7, 10, 24)]) (own := "TradeLineLaw") (by decide) rfl rfl (Nat.le_of_ble_eq_true rfl) ?_
  intro p e s m args below meth c C hr hT hz hEv hN
  refine g_vx ?_
  refine g_lv (lv' := [(0, .ref (Ad 0 0)), (1, .int x1), (2, .int x2)]) [0, 1, 2] rfl ?_
  refine g_aload_n C dL_fields_0 rfl 0 rfl ?_
  refine g_iload_n C dL_fields_1 rfl 1 rfl ?_
  refine g_iload_n C dL_fields_2 rfl 2 rfl ?_
  refine g_cVi (n := 2) (exc := []) (exr := []) C [_, _] _ rfl rfl [] [] rfl rfl rfl rfl (fun _ h => absurd h (by simp)) (fun _ h => absurd h (by simp)) (fun _ h => absurd h (by simp)) (fun sz => c_X8_fields l μ ν a Ad w x1 x2 r0 h D E sz) rfl gw_1258 gw_1 gw_1255 gw_1256 gw_1257 ⟨by decide +kernel, by decide +kernel, by decide +kernel⟩ ⟨rfl, rfl⟩ ⟨Nat.le_of_ble_eq_true rfl, Nat.le_of_ble_eq_true rfl⟩ (rcvT ⟨h0, fun e => absurd e (by decide)⟩ rfl rfl rfl) (Nat.le_of_ble_eq_true rfl) dL_fields_3 ⟨Nat.zero_le _, Nat.zero_le _⟩ (fun r u hp hx => ?_)
  obtain ⟨er, rfl⟩ := hp
  rw [er]
  try dsimp only [List.append_nil]
  refine g_widen (k := kc ν - kc ν) (n := ks ν - ks ν) (Nat.zero_le _) (Nat.zero_le _) ?_
  refine g_istore_n (lv' := [(3, .int r0), (0, .ref (Ad 0 0)), (1, .int x1), (2, .int x2)]) C dL_fields_6 rfl (by decide) rfl ?_
  refine g_goto (tgt := 16) C dL_fields_7 (by decide) ?_
  refine g_iload_n C dL_fields_16 rfl 0 rfl ?_
  exact g_iret C hr rfl hz ⟨rfl, rfl, fun _ => rfl, fun _ => rfl⟩ ⟨rfl, Ad, rfl, kp_rfl _ _⟩ (fun j x h => by simp at h) dL_fields_17
set_option maxHeartbeats 4000000 in
set_option maxRecDepth 100000 in
theorem e1_L_fields (l : Launch) (hl : l.stackTraces = false) (B : Nat × (Nat → Nat)) (μ : MP) (ν : NC) (a : AS) (Ad : Nat → Nat → Nat) (w : Nat) (x1 : Int32) (x2 : Int32) (r0 : Int32) (h : f_X8_fields w μ ν x1 x2 = some (1, r0)) (h0 : 0 < ν.2 0) : ∀ D E sz, vx_Met l yL_fields gwL_fields ({ frames := 9, cells := kc (((μ, chg ν 1 6), (-7100 : Int32))).1.2 - kc ν, slots := ks (((μ, chg ν 1 6), (-7100 : Int32))).1.2 - ks ν, locals := 165 } : Room) (cPh D E sz B (zS μ ν a Ad) [.ref (Ad 0 0), .int x1, .int x2]) (cQ D E sz (zS μ ν a Ad) [] (pI (fun r u => r = (((μ, chg ν 1 6), (-7100 : Int32))).2 ∧ ∃ A1, u = (zS (((μ, chg ν 1 6), (-7100 : Int32))).1.1 (((μ, chg ν 1 6), (-7100 : Int32))).1.2 a A1, []) ∧ kp ν Ad A1))) (fun _ _ _ => False) (kc (((μ, chg ν 1 6), (-7100 : Int32))).1.2 - kc ν) (ks (((μ, chg ν 1 6), (-7100 : Int32))).1.2 - ks ν) (Aof (zS μ ν a Ad) [] sz) := by
  have k1 := kc_chg ν 1 6; have k2 := ks_chg ν 1 6
  intro D E sz
  refine g_ofH (cc := cL_fields) (maxL := 5) (ret := some .int) (hh := [(0, 7, 10, 24)]) (own := "TradeLineLaw") (by decide) rfl rfl (Nat.le_of_ble_eq_true rfl) ?_
  intro p e s m args below meth c C hr hT hz hEv hN
  refine g_lv (lv' := [(0, .ref (Ad 0 0)), (1, .int x1), (2, .int x2)]) [0, 1, 2] rfl ?_
  refine g_aload_n C dL_fields_0 rfl 0 rfl ?_
  refine g_iload_n C dL_fields_1 rfl 1 rfl ?_
  refine g_iload_n C dL_fields_2 rfl 2 rfl ?_
  refine g_hc (n := 1) (index := 2) C hEv ⟨rfl, rfl⟩ hN [_, _] _ rfl rfl (fun sz => x_X8_fields l hl B μ ν a Ad w x1 x2 0 r0 h D E sz) rfl gw_1258 gw_1 gw_1255 gw_1256 gw_1257 ⟨by decide +kernel, by decide +kernel, by decide +kernel⟩ ⟨rfl, rfl⟩ ⟨Nat.le_of_ble_eq_true rfl, Nat.le_of_ble_eq_true rfl⟩ (rcvT ⟨h0, fun e => absurd e (by decide)⟩ rfl rfl rfl) (Nat.le_of_ble_eq_true rfl) dL_fields_3 ⟨by show 1 ≤ kc (chg ν 1 6) - kc ν; omega, by show 6 ≤ ks (chg ν 1 6) - ks ν; omega⟩ [] ⟨0, 7, 10, 24⟩ [] hT (fun z hz => absurd hz (by simp)) (by decide) (by decide) gw_473 (by decide) rfl (fun q9 => ?_)
  refine g_chg 1 6 ?_
  refine g_widen (k := kc (chg ν 1 6) - kc ν) (n := ks (chg ν 1 6) - ks ν) (by omega) (by omega) ?_
  refine g_astore (lv' := [(4, .ref q9), (0, .ref (Ad 0 0)), (1, .int x1), (2, .int x2)]) C dL_fields_10 (by decide) rfl ?_
  refine g_sipush (v := (-7100 : Int32)) C dL_fields_12 (by decide) ?_
  refine g_vx ?_
  exact g_iret C hr rfl hz ⟨rfl, rfl, fun _ => rfl, fun _ => rfl⟩ ⟨rfl, Ad, rfl, kp_rfl _ _⟩ (fun j x h => by simp at h) dL_fields_15
theorem m_L_fields {w : Nat} {μ : MP} {ν : NC} {x1 : Int32} {x2 : Int32} {r0 : (MP × NC) × Int32} (h : f_L_fields w μ ν x1 x2 = some r0) : mn ν r0.1.2 := by
  unfold f_L_fields at h
  obtain ⟨⟨t, r⟩, h1, h⟩ := bind_of h
  by_cases c0 : t = 0
  · subst c0
    obtain rfl := Option.some.inj ((if_pos rfl).symm.trans h)
    exact mn_rfl _
  · replace h := (if_neg c0).symm.trans h
    by_cases c1 : t = 1
    · subst c1
      obtain rfl := Option.some.inj ((if_pos rfl).symm.trans h)
      exact mn_chg _ _ _
    replace h := (if_neg c1).symm.trans h
    exact absurd h (by simp)
theorem c_L_fields (l : Launch) (hl : l.stackTraces = false) (B : Nat × (Nat → Nat)) (μ : MP) (ν : NC) (a : AS) (Ad : Nat → Nat → Nat) (w : Nat) (x1 : Int32) (x2 : Int32) (r0 : (MP × NC) × Int32) (h : f_L_fields w μ ν x1 x2 = some r0) (h0 : 0 < ν.2 0) : ∀ D E sz, vx_Met l yL_fields gwL_fields ({ frames := 9, cells := kc (r0).1.2 - kc ν, slots := ks (r0).1.2 - ks ν, locals := 165 } : Room) (cPh D E sz B (zS μ ν a Ad) [.ref (Ad 0 0), .int x1, .int x2]) (cQ D E sz (zS μ ν a Ad) [] (pI (fun r u => r = (r0).2 ∧ ∃ A1, u = (zS (r0).1.1 (r0).1.2 a A1, []) ∧ kp ν Ad A1))) (fun _ _ _ => False) (kc (r0).1.2 - kc ν) (ks (r0).1.2 - ks ν) (Aof (zS μ ν a Ad) [] sz) := by
  unfold f_L_fields at h
  obtain ⟨⟨t, r⟩, h1, h⟩ := bind_of h
  by_cases c0 : t = 0
  · subst c0
    obtain rfl := Option.some.inj ((if_pos rfl).symm.trans h)
    exact r_L_fields l hl B μ ν a Ad w x1 x2 r h1 h0
  · replace h := (if_neg c0).symm.trans h
    by_cases c1 : t = 1
    · subst c1
      obtain rfl := Option.some.inj ((if_pos rfl).symm.trans h)
      exact e1_L_fields l hl B μ ν a Ad w x1 x2 r h1 h0
    replace h := (if_neg c1).symm.trans h
    exact absurd h (by simp)
noncomputable def f_L_tagAt (w : Nat) (μ : MP) (ν : NC) (x1 : Int32) (x2 : Int32) (x3 : Int32) : Option ((MP × NC) × Int32) := (f_X8_tagAt w μ ν x1 x2 x3).bind (fun r => if r.1 = 0 then some (((μ, ν), r.2)) else if r.1 = 1 then some ((μ, chg ν 1 6), (-7100 : Int32)) else none)
set_option maxHeartbeats 4000000 in
set_option maxRecDepth 100000 in
theorem r_L_tagAt (l : Launch) (hl : l.stackTraces = false) (B : Nat × (Nat → Nat)) (μ : MP) (ν : NC) (a : AS) (Ad : Nat → Nat → Nat) (w : Nat) (x1 : Int32) (x2 : Int32) (x3 : Int32) (r0 : Int32) (h : f_X8_tagAt w μ ν x1 x2 x3 = some (0, r0)) (h0 : 0 < ν.2 0) : ∀ D E sz, vx_Met l yL_tagAt gwL_tagAt ({ frames := 9, cells := kc (((μ, ν), r0)).1.2 - kc ν, slots := ks (((μ, ν), r0)).1.2 - ks ν, locals := 167 } : Room) (cPh D E sz B (zS μ ν a Ad) [.ref (Ad 0 0), .int x1, .int x2, .int x3]) (cQ D E sz (zS μ ν a Ad) [] (pI (fun r u => r = (((μ, ν), r0)).2 ∧ ∃ A1, u = (zS (((μ, ν), r0)).1.1 (((μ, ν), r0)).1.2 a A1, []) ∧ kp ν Ad A1))) (fun _ _ _ => False) (kc (((μ, ν), r0)).1.2 - kc ν) (ks (((μ, ν), r0)).1.2 - ks ν) (Aof (zS μ ν a Ad) [] sz) := by
  intro D E sz
  refine g_ofH (cc := cL_tagAt) (maxL := 6) (ret := some .int) (hh := [(0, 9, 12, 24)]) (own := "TradeLineLaw") (by decide) rfl rfl (Nat.le_of_ble_eq_true rfl) ?_
  intro p e s m args below meth c C hr hT hz hEv hN
  refine g_vx ?_
  refine g_lv (lv' := [(0, .ref (Ad 0 0)), (1, .int x1), (2, .int x2), (3, .int x3)]) [0, 1, 2, 3] rfl ?_
  refine g_aload_n C dL_tagAt_0 rfl 0 rfl ?_
  refine g_iload_n C dL_tagAt_1 rfl 1 rfl ?_
  refine g_iload_n C dL_tagAt_2 rfl 2 rfl ?_
  refine g_iload_n C dL_tagAt_3 rfl 3 rfl ?_
  refine g_cVi (n := 3) (exc := []) (exr := []) C [_, _, _] _ rfl rfl [] [] rfl rfl rfl rfl (fun _ h => absurd h (by simp)) (fun _ h => absurd h (by simp)) (fun _ h => absurd h (by simp)) (fun sz => c_X8_tagAt l μ ν a Ad w x1 x2 x3 r0 h D E sz) rfl gw_1277 gw_1 gw_1274 gw_1275 gw_1276 ⟨by decide +kernel, by decide +kernel, by decide +kernel⟩ ⟨rfl, rfl⟩ ⟨Nat.le_of_ble_eq_true rfl, Nat.le_of_ble_eq_true rfl⟩ (rcvT ⟨h0, fun e => absurd e (by decide)⟩ rfl rfl rfl) (Nat.le_of_ble_eq_true rfl) dL_tagAt_4 ⟨Nat.zero_le _, Nat.zero_le _⟩ (fun r u hp hx => ?_)
  obtain ⟨er, rfl⟩ := hp
  rw [er]
  try dsimp only [List.append_nil]
  refine g_widen (k := kc ν - kc ν) (n := ks ν - ks ν) (Nat.zero_le _) (Nat.zero_le _) ?_
  refine g_istore (lv' := [(4, .int r0), (0, .ref (Ad 0 0)), (1, .int x1), (2, .int x2), (3, .int x3)]) C dL_tagAt_7 (by decide) rfl ?_
  refine g_goto (tgt := 18) C dL_tagAt_9 (by decide) ?_
  refine g_iload C dL_tagAt_18 0 rfl ?_
  exact g_iret C hr rfl hz ⟨rfl, rfl, fun _ => rfl, fun _ => rfl⟩ ⟨rfl, Ad, rfl, kp_rfl _ _⟩ (fun j x h => by simp at h) dL_tagAt_20
set_option maxHeartbeats 4000000 in
set_option maxRecDepth 100000 in
theorem e1_L_tagAt (l : Launch) (hl : l.stackTraces = false) (B : Nat × (Nat → Nat)) (μ : MP) (ν : NC) (a : AS) (Ad : Nat → Nat → Nat) (w : Nat) (x1 : Int32) (x2 : Int32) (x3 : Int32) (r0 : Int32) (h : f_X8_tagAt w μ ν x1 x2 x3 = some (1, r0)) (h0 : 0 < ν.2 0) : ∀ D E sz, vx_Met l yL_tagAt gwL_tagAt ({ frames := 9, cells := kc (((μ, chg ν 1 6), (-7100 : Int32))).1.2 - kc ν, slots := ks (((μ, chg ν 1 6), (-7100 : Int32))).1.2 - ks ν, locals := 167 } : Room) (cPh D E sz B (zS μ ν a Ad) [.ref (Ad 0 0), .int x1, .int x2, .int x3]) (cQ D E sz (zS μ ν a Ad) [] (pI (fun r u => r = (((μ, chg ν 1 6), (-7100 : Int32))).2 ∧ ∃ A1, u = (zS (((μ, chg ν 1 6), (-7100 : Int32))).1.1 (((μ, chg ν 1 6), (-7100 : Int32))).1.2 a A1, []) ∧ kp ν Ad A1))) (fun _ _ _ => False) (kc (((μ, chg ν 1 6), (-7100 : Int32))).1.2 - kc ν) (ks (((μ, chg ν 1 6), (-7100 : Int32))).1.2 - ks ν) (Aof (zS μ ν a Ad) [] sz) := by
  have k1 := kc_chg ν 1 6; have k2 := ks_chg ν 1 6
  intro D E sz
  refine g_ofH (cc := cL_tagAt) (maxL := 6) (ret := some .int) (hh := [(0, 9, 12, 24)]) (own := "TradeLineLaw") (by decide) rfl rfl (Nat.le_of_ble_eq_true rfl) ?_
  intro p e s m args below meth c C hr hT hz hEv hN
  refine g_lv (lv' := [(0, .ref (Ad 0 0)), (1, .int x1), (2, .int x2), (3, .int x3)]) [0, 1, 2, 3] rfl ?_
  refine g_aload_n C dL_tagAt_0 rfl 0 rfl ?_
  refine g_iload_n C dL_tagAt_1 rfl 1 rfl ?_
  refine g_iload_n C dL_tagAt_2 rfl 2 rfl ?_
  refine g_iload_n C dL_tagAt_3 rfl 3 rfl ?_
  refine g_hc (n := 1) (index := 3) C hEv ⟨rfl, rfl⟩ hN [_, _, _] _ rfl rfl (fun sz => x_X8_tagAt l hl B μ ν a Ad w x1 x2 x3 0 r0 h D E sz) rfl gw_1277 gw_1 gw_1274 gw_1275 gw_1276 ⟨by decide +kernel, by decide +kernel, by decide +kernel⟩ ⟨rfl, rfl⟩ ⟨Nat.le_of_ble_eq_true rfl, Nat.le_of_ble_eq_true rfl⟩ (rcvT ⟨h0, fun e => absurd e (by decide)⟩ rfl rfl rfl) (Nat.le_of_ble_eq_true rfl) dL_tagAt_4 ⟨by show 1 ≤ kc (chg ν 1 6) - kc ν; omega, by show 6 ≤ ks (chg ν 1 6) - ks ν; omega⟩ [] ⟨0, 9, 12, 24⟩ [] hT (fun z hz => absurd hz (by simp)) (by decide) (by decide) gw_473 (by decide) rfl (fun q9 => ?_)
  refine g_chg 1 6 ?_
  refine g_widen (k := kc (chg ν 1 6) - kc ν) (n := ks (chg ν 1 6) - ks ν) (by omega) (by omega) ?_
  refine g_astore (lv' := [(5, .ref q9), (0, .ref (Ad 0 0)), (1, .int x1), (2, .int x2), (3, .int x3)]) C dL_tagAt_12 (by decide) rfl ?_
  refine g_sipush (v := (-7100 : Int32)) C dL_tagAt_14 (by decide) ?_
  refine g_vx ?_
  exact g_iret C hr rfl hz ⟨rfl, rfl, fun _ => rfl, fun _ => rfl⟩ ⟨rfl, Ad, rfl, kp_rfl _ _⟩ (fun j x h => by simp at h) dL_tagAt_17
theorem m_L_tagAt {w : Nat} {μ : MP} {ν : NC} {x1 : Int32} {x2 : Int32} {x3 : Int32} {r0 : (MP × NC) × Int32} (h : f_L_tagAt w μ ν x1 x2 x3 = some r0) : mn ν r0.1.2 := by
  unfold f_L_tagAt at h
  obtain ⟨⟨t, r⟩, h1, h⟩ := bind_of h
  by_cases c0 : t = 0
  · subst c0
    obtain rfl := Option.some.inj ((if_pos rfl).symm.trans h)
    exact mn_rfl _
  · replace h := (if_neg c0).symm.trans h
    by_cases c1 : t = 1
    · subst c1
      obtain rfl := Option.some.inj ((if_pos rfl).symm.trans h)
      exact mn_chg _ _ _
    replace h := (if_neg c1).symm.trans h
    exact absurd h (by simp)
theorem c_L_tagAt (l : Launch) (hl : l.stackTraces = false) (B : Nat × (Nat → Nat)) (μ : MP) (ν : NC) (a : AS) (Ad : Nat → Nat → Nat) (w : Nat) (x1 : Int32) (x2 : Int32) (x3 : Int32) (r0 : (MP × NC) × Int32) (h : f_L_tagAt w μ ν x1 x2 x3 = some r0) (h0 : 0 < ν.2 0) : ∀ D E sz, vx_Met l yL_tagAt gwL_tagAt ({ frames := 9, cells := kc (r0).1.2 - kc ν, slots := ks (r0).1.2 - ks ν, locals := 167 } : Room) (cPh D E sz B (zS μ ν a Ad) [.ref (Ad 0 0), .int x1, .int x2, .int x3]) (cQ D E sz (zS μ ν a Ad) [] (pI (fun r u => r = (r0).2 ∧ ∃ A1, u = (zS (r0).1.1 (r0).1.2 a A1, []) ∧ kp ν Ad A1))) (fun _ _ _ => False) (kc (r0).1.2 - kc ν) (ks (r0).1.2 - ks ν) (Aof (zS μ ν a Ad) [] sz) := by
  unfold f_L_tagAt at h
  obtain ⟨⟨t, r⟩, h1, h⟩ := bind_of h
  by_cases c0 : t = 0
  · subst c0
    obtain rfl := Option.some.inj ((if_pos rfl).symm.trans h)
    exact r_L_tagAt l hl B μ ν a Ad w x1 x2 x3 r h1 h0
  · replace h := (if_neg c0).symm.trans h
    by_cases c1 : t = 1
    · subst c1
      obtain rfl := Option.some.inj ((if_pos rfl).symm.trans h)
      exact e1_L_tagAt l hl B μ ν a Ad w x1 x2 x3 r h1 h0
    replace h := (if_neg c1).symm.trans h
    exact absurd h (by simp)
noncomputable def f_L_valueAt (w : Nat) (μ : MP) (ν : NC) (x1 : Int32) (x2 : Int32) (x3 : Int32) : Option ((MP × NC) × Int32) := (f_X8_valueAt w μ ν x1 x2 x3).bind (fun r => if r.1 = 0 then some (((μ, ν), r.2)) else if r.1 = 1 then some ((μ, chg ν 1 6), (-7100 : Int32)) else none)
set_option maxHeartbeats 4000000 in
set_option maxRecDepth 100000 in
theorem r_L_valueAt (l : Launch) (hl : l.stackTraces = false) (B : Nat × (Nat → Nat)) (μ : MP) (ν : NC) (a : AS) (Ad : Nat → Nat → Nat) (w : Nat) (x1 : Int32) (x2 : Int32) (x3 : Int32) (r0 : Int32) (h : f_X8_valueAt w μ ν x1 x2 x3 = some (0, r0)) (h0 : 0 < ν.2 0) : ∀ D E sz, vx_Met l yL_valueAt gwL_valueAt ({ frames := 9, cells := kc (((μ, ν), r0)).1.2 - kc ν, slots := ks (((μ, ν), r0)).1.2 - ks ν, locals := 167 } : Room) (cPh D E sz B (zS μ ν a Ad) [.ref (Ad 0 0), .int x1, .int x2, .int x3]) (cQ D E sz (zS μ ν a Ad) [] (pI (fun r u => r = (((μ, ν), r0)).2 ∧ ∃ A1, u = (zS (((μ, ν), r0)).1.1 (((μ, ν), r0)).1.2 a A1, []) ∧ kp ν Ad A1))) (fun _ _ _ => False) (kc (((μ, ν), r0)).1.2 - kc ν) (ks (((μ, ν), r0)).1.2 - ks ν) (Aof (zS μ ν a Ad) [] sz) := by
  intro D E sz
  refine g_ofH (cc := cL_valueAt) (maxL := 6) (ret := some .int) (hh := [(0, 9, 12, 24)]) (own := "TradeLineLaw") (by decide) rfl rfl (Nat.le_of_ble_eq_true rfl) ?_
  intro p e s m args below meth c C hr hT hz hEv hN
  refine g_vx ?_
  refine g_lv (lv' := [(0, .ref (Ad 0 0)), (1, .int x1), (2, .int x2), (3, .int x3)]) [0, 1, 2, 3] rfl ?_
  refine g_aload_n C dL_valueAt_0 rfl 0 rfl ?_
  refine g_iload_n C dL_valueAt_1 rfl 1 rfl ?_
  refine g_iload_n C dL_valueAt_2 rfl 2 rfl ?_
  refine g_iload_n C dL_valueAt_3 rfl 3 rfl ?_
  refine g_cVi (n := 3) (exc := []) (exr := []) C [_, _, _] _ rfl rfl [] [] rfl rfl rfl rfl (fun _ h => absurd h (by simp)) (fun _ h => absurd h (by simp)) (fun _ h => absurd h (by simp)) (fun sz => c_X8_valueAt l μ ν a Ad w x1 x2 x3 r0 h D E sz) rfl gw_1290 gw_1 gw_1287 gw_1288 gw_1289 ⟨by decide +kernel, by decide +kernel, by decide +kernel⟩ ⟨rfl, rfl⟩ ⟨Nat.le_of_ble_eq_true rfl, Nat.le_of_ble_eq_true rfl⟩ (rcvT ⟨h0, fun e => absurd e (by decide)⟩ rfl rfl rfl) (Nat.le_of_ble_eq_true rfl) dL_valueAt_4 ⟨Nat.zero_le _, Nat.zero_le _⟩ (fun r u hp hx => ?_)
  obtain ⟨er, rfl⟩ := hp
  rw [er]
  try dsimp only [List.append_nil]
  refine g_widen (k := kc ν - kc ν) (n := ks ν - ks ν) (Nat.zero_le _) (Nat.zero_le _) ?_
  refine g_istore (lv' := [(4, .int r0), (0, .ref (Ad 0 0)), (1, .int x1), (2, .int x2), (3, .int x3)]) C dL_valueAt_7 (by decide) rfl ?_
  refine g_goto (tgt := 18) C dL_valueAt_9 (by decide) ?_
  refine g_iload C dL_valueAt_18 0 rfl ?_
  exact g_iret C hr rfl hz ⟨rfl, rfl, fun _ => rfl, fun _ => rfl⟩ ⟨rfl, Ad, rfl, kp_rfl _ _⟩ (fun j x h => by simp at h) dL_valueAt_20
set_option maxHeartbeats 4000000 in
set_option maxRecDepth 100000 in
theorem e1_L_valueAt (l : Launch) (hl : l.stackTraces = false) (B : Nat × (Nat → Nat)) (μ : MP) (ν : NC) (a : AS) (Ad : Nat → Nat → Nat) (w : Nat) (x1 : Int32) (x2 : Int32) (x3 : Int32) (r0 : Int32) (h : f_X8_valueAt w μ ν x1 x2 x3 = some (1, r0)) (h0 : 0 < ν.2 0) : ∀ D E sz, vx_Met l yL_valueAt gwL_valueAt ({ frames := 9, cells := kc (((μ, chg ν 1 6), (-7100 : Int32))).1.2 - kc ν, slots := ks (((μ, chg ν 1 6), (-7100 : Int32))).1.2 - ks ν, locals := 167 } : Room) (cPh D E sz B (zS μ ν a Ad) [.ref (Ad 0 0), .int x1, .int x2, .int x3]) (cQ D E sz (zS μ ν a Ad) [] (pI (fun r u => r = (((μ, chg ν 1 6), (-7100 : Int32))).2 ∧ ∃ A1, u = (zS (((μ, chg ν 1 6), (-7100 : Int32))).1.1 (((μ, chg ν 1 6), (-7100 : Int32))).1.2 a A1, []) ∧ kp ν Ad A1))) (fun _ _ _ => False) (kc (((μ, chg ν 1 6), (-7100 : Int32))).1.2 - kc ν) (ks (((μ, chg ν 1 6), (-7100 : Int32))).1.2 - ks ν) (Aof (zS μ ν a Ad) [] sz) := by
  have k1 := kc_chg ν 1 6; have k2 := ks_chg ν 1 6
  intro D E sz
  refine g_ofH (cc := cL_valueAt) (maxL := 6) (ret := some .int) (hh := [(0, 9, 12, 24)]) (own := "TradeLineLaw") (by decide) rfl rfl (Nat.le_of_ble_eq_true rfl) ?_
  intro p e s m args below meth c C hr hT hz hEv hN
  refine g_lv (lv' := [(0, .ref (Ad 0 0)), (1, .int x1), (2, .int x2), (3, .int x3)]) [0, 1, 2, 3] rfl ?_
  refine g_aload_n C dL_valueAt_0 rfl 0 rfl ?_
  refine g_iload_n C dL_valueAt_1 rfl 1 rfl ?_
  refine g_iload_n C dL_valueAt_2 rfl 2 rfl ?_
  refine g_iload_n C dL_valueAt_3 rfl 3 rfl ?_
  refine g_hc (n := 1) (index := 3) C hEv ⟨rfl, rfl⟩ hN [_, _, _] _ rfl rfl (fun sz => x_X8_valueAt l hl B μ ν a Ad w x1 x2 x3 0 r0 h D E sz) rfl gw_1290 gw_1 gw_1287 gw_1288 gw_1289 ⟨by decide +kernel, by decide +kernel, by decide +kernel⟩ ⟨rfl, rfl⟩ ⟨Nat.le_of_ble_eq_true rfl, Nat.le_of_ble_eq_true rfl⟩ (rcvT ⟨h0, fun e => absurd e (by decide)⟩ rfl rfl rfl) (Nat.le_of_ble_eq_true rfl) dL_valueAt_4 ⟨by show 1 ≤ kc (chg ν 1 6) - kc ν; omega, by show 6 ≤ ks (chg ν 1 6) - ks ν; omega⟩ [] ⟨0, 9, 12, 24⟩ [] hT (fun z hz => absurd hz (by simp)) (by decide) (by decide) gw_473 (by decide) rfl (fun q9 => ?_)
  refine g_chg 1 6 ?_
  refine g_widen (k := kc (chg ν 1 6) - kc ν) (n := ks (chg ν 1 6) - ks ν) (by omega) (by omega) ?_
  refine g_astore (lv' := [(5, .ref q9), (0, .ref (Ad 0 0)), (1, .int x1), (2, .int x2), (3, .int x3)]) C dL_valueAt_12 (by decide) rfl ?_
  refine g_sipush (v := (-7100 : Int32)) C dL_valueAt_14 (by decide) ?_
  refine g_vx ?_
  exact g_iret C hr rfl hz ⟨rfl, rfl, fun _ => rfl, fun _ => rfl⟩ ⟨rfl, Ad, rfl, kp_rfl _ _⟩ (fun j x h => by simp at h) dL_valueAt_17
theorem m_L_valueAt {w : Nat} {μ : MP} {ν : NC} {x1 : Int32} {x2 : Int32} {x3 : Int32} {r0 : (MP × NC) × Int32} (h : f_L_valueAt w μ ν x1 x2 x3 = some r0) : mn ν r0.1.2 := by
  unfold f_L_valueAt at h
  obtain ⟨⟨t, r⟩, h1, h⟩ := bind_of h
  by_cases c0 : t = 0
  · subst c0
    obtain rfl := Option.some.inj ((if_pos rfl).symm.trans h)
    exact mn_rfl _
  · replace h := (if_neg c0).symm.trans h
    by_cases c1 : t = 1
    · subst c1
      obtain rfl := Option.some.inj ((if_pos rfl).symm.trans h)
      exact mn_chg _ _ _
    replace h := (if_neg c1).symm.trans h
    exact absurd h (by simp)
theorem c_L_valueAt (l : Launch) (hl : l.stackTraces = false) (B : Nat × (Nat → Nat)) (μ : MP) (ν : NC) (a : AS) (Ad : Nat → Nat → Nat) (w : Nat) (x1 : Int32) (x2 : Int32) (x3 : Int32) (r0 : (MP × NC) × Int32) (h : f_L_valueAt w μ ν x1 x2 x3 = some r0) (h0 : 0 < ν.2 0) : ∀ D E sz, vx_Met l yL_valueAt gwL_valueAt ({ frames := 9, cells := kc (r0).1.2 - kc ν, slots := ks (r0).1.2 - ks ν, locals := 167 } : Room) (cPh D E sz B (zS μ ν a Ad) [.ref (Ad 0 0), .int x1, .int x2, .int x3]) (cQ D E sz (zS μ ν a Ad) [] (pI (fun r u => r = (r0).2 ∧ ∃ A1, u = (zS (r0).1.1 (r0).1.2 a A1, []) ∧ kp ν Ad A1))) (fun _ _ _ => False) (kc (r0).1.2 - kc ν) (ks (r0).1.2 - ks ν) (Aof (zS μ ν a Ad) [] sz) := by
  unfold f_L_valueAt at h
  obtain ⟨⟨t, r⟩, h1, h⟩ := bind_of h
  by_cases c0 : t = 0
  · subst c0
    obtain rfl := Option.some.inj ((if_pos rfl).symm.trans h)
    exact r_L_valueAt l hl B μ ν a Ad w x1 x2 x3 r h1 h0
  · replace h := (if_neg c0).symm.trans h
    by_cases c1 : t = 1
    · subst c1
      obtain rfl := Option.some.inj ((if_pos rfl).symm.trans h)
      exact e1_L_valueAt l hl B μ ν a Ad w x1 x2 x3 r h1 h0
    replace h := (if_neg c1).symm.trans h
    exact absurd h (by simp)
noncomputable def f_L_stateOf (w : Nat) (μ : MP) (ν : NC) (x1 : Int32) : Option ((MP × NC) × Int32) := (f_X8_stateOf w μ ν x1).bind (fun r => if r.1 = 0 then some (((μ, ν), r.2)) else if r.1 = 1 then some ((μ, chg ν 1 6), (-7100 : Int32)) else none)
set_option maxHeartbeats 4000000 in
set_option maxRecDepth 100000 in
theorem r_L_stateOf (l : Launch) (hl : l.stackTraces = false) (B : Nat × (Nat → Nat)) (μ : MP) (ν : NC) (a : AS) (Ad : Nat → Nat → Nat) (w : Nat) (x1 : Int32) (r0 : Int32) (h : f_X8_stateOf w μ ν x1 = some (0, r0)) (h0 : 0 < ν.2 0) : ∀ D E sz, vx_Met l yL_stateOf gwL_stateOf ({ frames := 8, cells := kc (((μ, ν), r0)).1.2 - kc ν, slots := ks (((μ, ν), r0)).1.2 - ks ν, locals := 145 } : Room) (cPh D E sz B (zS μ ν a Ad) [.ref (Ad 0 0), .int x1]) (cQ D E sz (zS μ ν a Ad) [] (pI (fun r u => r = (((μ, ν), r0)).2 ∧ ∃ A1, u = (zS (((μ, ν), r0)).1.1 (((μ, ν), r0)).1.2 a A1, []) ∧ kp ν Ad A1))) (fun _ _ _ => False) (kc (((μ, ν), r0)).1.2 - kc ν) (ks (((μ, ν), r0)).1.2 - ks ν) (Aof (zS μ ν a Ad) [] sz) := by
  intro D E sz
  refine g_ofH (cc := cL_stateOf) (maxL := 4) (ret := some .int) (hh := [(0, 6, 9, 24)]) (own := "TradeLineLaw") (by decide) rfl rfl (Nat.le_of_ble_eq_true rfl) ?_
  intro p e s m args below meth c C hr hT hz hEv hN
  refine g_vx ?_
  refine g_lv (lv' := [(0, .ref (Ad 0 0)), (1, .int x1)]) [0, 1] rfl ?_
  refine g_aload_n C dL_stateOf_0 rfl 0 rfl ?_
  refine g_iload_n C dL_stateOf_1 rfl 1 rfl ?_
  refine g_cVi (n := 1) (exc := []) (exr := []) C [_] _ rfl rfl [] [] rfl rfl rfl rfl (fun _ h => absurd h (by simp)) (fun _ h => absurd h (by simp)) (fun _ h => absurd h (by simp)) (fun sz => c_X8_stateOf l μ ν a Ad w x1 r0 h D E sz) rfl gw_1298 gw_1 gw_1295 gw_1296 gw_1297 ⟨by decide +kernel, by decide +kernel, by decide +kernel⟩ ⟨rfl, rfl⟩ ⟨Nat.le_of_ble_eq_true rfl, Nat.le_of_ble_eq_true rfl⟩ (rcvT ⟨h0, fun e => absurd e (by decide)⟩ rfl rfl rfl) (Nat.le_of_ble_eq_true rfl) dL_stateOf_2 ⟨Nat.zero_le _, Nat.zero_le _⟩ (fun r u hp hx => ?_)
  obtain ⟨er, rfl⟩ := hp
  rw [er]
  try dsimp only [List.append_nil]
  refine g_widen (k := kc ν - kc ν) (n := ks ν - ks ν) (Nat.zero_le _) (Nat.zero_le _) ?_
  refine g_istore_n (lv' := [(2, .int r0), (0, .ref (Ad 0 0)), (1, .int x1)]) C dL_stateOf_5 rfl (by decide) rfl ?_
  refine g_goto (tgt := 14) C dL_stateOf_6 (by decide) ?_
  refine g_iload_n C dL_stateOf_14 rfl 0 rfl ?_
  exact g_iret C hr rfl hz ⟨rfl, rfl, fun _ => rfl, fun _ => rfl⟩ ⟨rfl, Ad, rfl, kp_rfl _ _⟩ (fun j x h => by simp at h) dL_stateOf_15
set_option maxHeartbeats 4000000 in
set_option maxRecDepth 100000 in
theorem e1_L_stateOf (l : Launch) (hl : l.stackTraces = false) (B : Nat × (Nat → Nat)) (μ : MP) (ν : NC) (a : AS) (Ad : Nat → Nat → Nat) (w : Nat) (x1 : Int32) (r0 : Int32) (h : f_X8_stateOf w μ ν x1 = some (1, r0)) (h0 : 0 < ν.2 0) : ∀ D E sz, vx_Met l yL_stateOf gwL_stateOf ({ frames := 8, cells := kc (((μ, chg ν 1 6), (-7100 : Int32))).1.2 - kc ν, slots := ks (((μ, chg ν 1 6), (-7100 : Int32))).1.2 - ks ν, locals := 145 } : Room) (cPh D E sz B (zS μ ν a Ad) [.ref (Ad 0 0), .int x1]) (cQ D E sz (zS μ ν a Ad) [] (pI (fun r u => r = (((μ, chg ν 1 6), (-7100 : Int32))).2 ∧ ∃ A1, u = (zS (((μ, chg ν 1 6), (-7100 : Int32))).1.1 (((μ, chg ν 1 6), (-7100 : Int32))).1.2 a A1, []) ∧ kp ν Ad A1))) (fun _ _ _ => False) (kc (((μ, chg ν 1 6), (-7100 : Int32))).1.2 - kc ν) (ks (((μ, chg ν 1 6), (-7100 : Int32))).1.2 - ks ν) (Aof (zS μ ν a Ad) [] sz) := by
  have k1 := kc_chg ν 1 6; have k2 := ks_chg ν 1 6
  intro D E sz
  refine g_ofH (cc := cL_stateOf) (maxL := 4) (ret := some .int) (hh := [(0, 6, 9, 24)]) (own := "TradeLineLaw") (by decide) rfl rfl (Nat.le_of_ble_eq_true rfl) ?_
  intro p e s m args below meth c C hr hT hz hEv hN
  refine g_lv (lv' := [(0, .ref (Ad 0 0)), (1, .int x1)]) [0, 1] rfl ?_
  refine g_aload_n C dL_stateOf_0 rfl 0 rfl ?_
  refine g_iload_n C dL_stateOf_1 rfl 1 rfl ?_
  refine g_hc (n := 1) (index := 1) C hEv ⟨rfl, rfl⟩ hN [_] _ rfl rfl (fun sz => x_X8_stateOf l hl B μ ν a Ad w x1 0 r0 h D E sz) rfl gw_1298 gw_1 gw_1295 gw_1296 gw_1297 ⟨by decide +kernel, by decide +kernel, by decide +kernel⟩ ⟨rfl, rfl⟩ ⟨Nat.le_of_ble_eq_true rfl, Nat.le_of_ble_eq_true rfl⟩ (rcvT ⟨h0, fun e => absurd e (by decide)⟩ rfl rfl rfl) (Nat.le_of_ble_eq_true rfl) dL_stateOf_2 ⟨by show 1 ≤ kc (chg ν 1 6) - kc ν; omega, by show 6 ≤ ks (chg ν 1 6) - ks ν; omega⟩ [] ⟨0, 6, 9, 24⟩ [] hT (fun z hz => absurd hz (by simp)) (by decide) (by decide) gw_473 (by decide) rfl (fun q9 => ?_)
  refine g_chg 1 6 ?_
  refine g_widen (k := kc (chg ν 1 6) - kc ν) (n := ks (chg ν 1 6) - ks ν) (by omega) (by omega) ?_
  refine g_astore_n (lv' := [(3, .ref q9), (0, .ref (Ad 0 0)), (1, .int x1)]) C dL_stateOf_9 rfl (by decide) rfl ?_
  refine g_sipush (v := (-7100 : Int32)) C dL_stateOf_10 (by decide) ?_
  refine g_vx ?_
  exact g_iret C hr rfl hz ⟨rfl, rfl, fun _ => rfl, fun _ => rfl⟩ ⟨rfl, Ad, rfl, kp_rfl _ _⟩ (fun j x h => by simp at h) dL_stateOf_13
theorem m_L_stateOf {w : Nat} {μ : MP} {ν : NC} {x1 : Int32} {r0 : (MP × NC) × Int32} (h : f_L_stateOf w μ ν x1 = some r0) : mn ν r0.1.2 := by
  unfold f_L_stateOf at h
  obtain ⟨⟨t, r⟩, h1, h⟩ := bind_of h
  by_cases c0 : t = 0
  · subst c0
    obtain rfl := Option.some.inj ((if_pos rfl).symm.trans h)
    exact mn_rfl _
  · replace h := (if_neg c0).symm.trans h
    by_cases c1 : t = 1
    · subst c1
      obtain rfl := Option.some.inj ((if_pos rfl).symm.trans h)
      exact mn_chg _ _ _
    replace h := (if_neg c1).symm.trans h
    exact absurd h (by simp)
theorem c_L_stateOf (l : Launch) (hl : l.stackTraces = false) (B : Nat × (Nat → Nat)) (μ : MP) (ν : NC) (a : AS) (Ad : Nat → Nat → Nat) (w : Nat) (x1 : Int32) (r0 : (MP × NC) × Int32) (h : f_L_stateOf w μ ν x1 = some r0) (h0 : 0 < ν.2 0) : ∀ D E sz, vx_Met l yL_stateOf gwL_stateOf ({ frames := 8, cells := kc (r0).1.2 - kc ν, slots := ks (r0).1.2 - ks ν, locals := 145 } : Room) (cPh D E sz B (zS μ ν a Ad) [.ref (Ad 0 0), .int x1]) (cQ D E sz (zS μ ν a Ad) [] (pI (fun r u => r = (r0).2 ∧ ∃ A1, u = (zS (r0).1.1 (r0).1.2 a A1, []) ∧ kp ν Ad A1))) (fun _ _ _ => False) (kc (r0).1.2 - kc ν) (ks (r0).1.2 - ks ν) (Aof (zS μ ν a Ad) [] sz) := by
  unfold f_L_stateOf at h
  obtain ⟨⟨t, r⟩, h1, h⟩ := bind_of h
  by_cases c0 : t = 0
  · subst c0
    obtain rfl := Option.some.inj ((if_pos rfl).symm.trans h)
    exact r_L_stateOf l hl B μ ν a Ad w x1 r h1 h0
  · replace h := (if_neg c0).symm.trans h
    by_cases c1 : t = 1
    · subst c1
      obtain rfl := Option.some.inj ((if_pos rfl).symm.trans h)
      exact e1_L_stateOf l hl B μ ν a Ad w x1 r h1 h0
    replace h := (if_neg c1).symm.trans h
    exact absurd h (by simp)
noncomputable def f_L_isLeftOut (w : Nat) (μ : MP) (ν : NC) (x1 : Int32) : Option ((MP × NC) × Int32) := (f_X8_isLeftOut w μ ν x1).bind (fun r => if r.1 = 0 then some (((μ, ν), nz r.2)) else if r.1 = 1 then some ((μ, chg ν 1 6), (-7100 : Int32)) else none)
set_option maxHeartbeats 4000000 in
set_option maxRecDepth 100000 in
theorem r_L_isLeftOut (l : Launch) (hl : l.stackTraces = false) (B : Nat × (Nat → Nat)) (μ : MP) (ν : NC) (a : AS) (Ad : Nat → Nat → Nat) (w : Nat) (x1 : Int32) (r0 : Int32) (h : f_X8_isLeftOut w μ ν x1 = some (0, r0)) (h0 : 0 < ν.2 0) : ∀ D E sz, vx_Met l yL_isLeftOut gwL_isLeftOut ({ frames := 8, cells := kc (((μ, ν), nz r0)).1.2 - kc ν, slots := ks (((μ, ν), nz r0)).1.2 - ks ν, locals := 146 } : Room) (cPh D E sz B (zS μ ν a Ad) [.ref (Ad 0 0), .int x1]) (cQ D E sz (zS μ ν a Ad) [] (pI (fun r u => r = (((μ, ν), nz r0)).2 ∧ ∃ A1, u = (zS (((μ, ν), nz r0)).1.1 (((μ, ν), nz r0)).1.2 a A1, []) ∧ kp ν Ad A1))) (fun _ _ _ => False) (kc (((μ, ν), nz r0)).1.2 - kc ν) (ks (((μ, ν), nz r0)).1.2 - ks ν) (Aof (zS μ ν a Ad) [] sz) := by
  intro D E sz
  refine g_ofH (cc := cL_isLeftOut) (maxL := 4) (ret := some .int) (hh := [(0, 6, 9, 24)]) (own := "TradeLineLaw") (by decide) rfl rfl (Nat.le_of_ble_eq_true rfl) ?_
  intro p e s m args below meth c C hr hT hz hEv hN
  refine g_vx ?_
  refine g_lv (lv' := [(0, .ref (Ad 0 0)), (1, .int x1)]) [0, 1] rfl ?_
  refine g_aload_n C dL_isLeftOut_0 rfl 0 rfl ?_
  refine g_iload_n C dL_isLeftOut_1 rfl 1 rfl ?_
  refine g_cVi (n := 1) (exc := []) (exr := []) C [_] _ rfl rfl [] [] rfl rfl rfl rfl (fun _ h => absurd h (by simp)) (fun _ h => absurd h (by simp)) (fun _ h => absurd h (by simp)) (fun sz => c_X8_isLeftOut l μ ν a Ad w x1 r0 h D E sz) rfl gw_1305 gw_1 gw_1302 gw_1303 gw_1304 ⟨by decide +kernel, by decide +kernel, by decide +kernel⟩ ⟨rfl, rfl⟩ ⟨Nat.le_of_ble_eq_true rfl, Nat.le_of_ble_eq_true rfl⟩ (rcvT ⟨h0, fun e => absurd e (by decide)⟩ rfl rfl rfl) (Nat.le_of_ble_eq_true rfl) dL_isLeftOut_2 ⟨Nat.zero_le _, Nat.zero_le _⟩ (fun r u hp hx => ?_)
  obtain ⟨er, rfl⟩ := hp
  rw [er]
  try dsimp only [List.append_nil]
  refine g_widen (k := kc ν - kc ν) (n := ks ν - ks ν) (Nat.zero_le _) (Nat.zero_le _) ?_
  refine g_istore_n (lv' := [(2, .int r0), (0, .ref (Ad 0 0)), (1, .int x1)]) C dL_isLeftOut_5 rfl (by decide) rfl ?_
  refine g_goto (tgt := 14) C dL_isLeftOut_6 (by decide) ?_
  refine g_iload_n C dL_isLeftOut_14 rfl 0 rfl ?_
  refine g_nz C dL_isLeftOut_15 dL_isLeftOut_18 dL_isLeftOut_19 dL_isLeftOut_22 ?_
  exact g_iret C hr rfl hz ⟨rfl, rfl, fun _ => rfl, fun _ => rfl⟩ ⟨rfl, Ad, rfl, kp_rfl _ _⟩ (fun j x h => by simp at h) dL_isLeftOut_23
set_option maxHeartbeats 4000000 in
set_option maxRecDepth 100000 in
theorem e1_L_isLeftOut (l : Launch) (hl : l.stackTraces = false) (B : Nat × (Nat → Nat)) (μ : MP) (ν : NC) (a : AS) (Ad : Nat → Nat → Nat) (w : Nat) (x1 : Int32) (r0 : Int32) (h : f_X8_isLeftOut w μ ν x1 = some (1, r0)) (h0 : 0 < ν.2 0) : ∀ D E sz, vx_Met l yL_isLeftOut gwL_isLeftOut ({ frames := 8, cells := kc (((μ, chg ν 1 6), (-7100 : Int32))).1.2 - kc ν, slots := ks (((μ, chg ν 1 6), (-7100 : Int32))).1.2 - ks ν, locals := 146 } : Room) (cPh D E sz B (zS μ ν a Ad) [.ref (Ad 0 0), .int x1]) (cQ D E sz (zS μ ν a Ad) [] (pI (fun r u => r = (((μ, chg ν 1 6), (-7100 : Int32))).2 ∧ ∃ A1, u = (zS (((μ, chg ν 1 6), (-7100 : Int32))).1.1 (((μ, chg ν 1 6), (-7100 : Int32))).1.2 a A1, []) ∧ kp ν Ad A1))) (fun _ _ _ => False) (kc (((μ, chg ν 1 6), (-7100 : Int32))).1.2 - kc ν) (ks (((μ, chg ν 1 6), (-7100 : Int32))).1.2 - ks ν) (Aof (zS μ ν a Ad) [] sz) := by
  have k1 := kc_chg ν 1 6; have k2 := ks_chg ν 1 6
  intro D E sz
  refine g_ofH (cc := cL_isLeftOut) (maxL := 4) (ret := some .int) (hh := [(0, 6, 9, 24)]) (own := "TradeLineLaw") (by decide) rfl rfl (Nat.le_of_ble_eq_true rfl) ?_
  intro p e s m args below meth c C hr hT hz hEv hN
  refine g_lv (lv' := [(0, .ref (Ad 0 0)), (1, .int x1)]) [0, 1] rfl ?_
  refine g_aload_n C dL_isLeftOut_0 rfl 0 rfl ?_
  refine g_iload_n C dL_isLeftOut_1 rfl 1 rfl ?_
  refine g_hc (n := 1) (index := 1) C hEv ⟨rfl, rfl⟩ hN [_] _ rfl rfl (fun sz => x_X8_isLeftOut l hl B μ ν a Ad w x1 0 r0 h D E sz) rfl gw_1305 gw_1 gw_1302 gw_1303 gw_1304 ⟨by decide +kernel, by decide +kernel, by decide +kernel⟩ ⟨rfl, rfl⟩ ⟨Nat.le_of_ble_eq_true rfl, Nat.le_of_ble_eq_true rfl⟩ (rcvT ⟨h0, fun e => absurd e (by decide)⟩ rfl rfl rfl) (Nat.le_of_ble_eq_true rfl) dL_isLeftOut_2 ⟨by show 1 ≤ kc (chg ν 1 6) - kc ν; omega, by show 6 ≤ ks (chg ν 1 6) - ks ν; omega⟩ [] ⟨0, 6, 9, 24⟩ [] hT (fun z hz => absurd hz (by simp)) (by decide) (by decide) gw_473 (by decide) rfl (fun q9 => ?_)
  refine g_chg 1 6 ?_
  refine g_widen (k := kc (chg ν 1 6) - kc ν) (n := ks (chg ν 1 6) - ks ν) (by omega) (by omega) ?_
  refine g_astore_n (lv' := [(3, .ref q9), (0, .ref (Ad 0 0)), (1, .int x1)]) C dL_isLeftOut_9 rfl (by decide) rfl ?_
  refine g_sipush (v := (-7100 : Int32)) C dL_isLeftOut_10 (by decide) ?_
  refine g_vx ?_
  exact g_iret C hr rfl hz ⟨rfl, rfl, fun _ => rfl, fun _ => rfl⟩ ⟨rfl, Ad, rfl, kp_rfl _ _⟩ (fun j x h => by simp at h) dL_isLeftOut_13
theorem m_L_isLeftOut {w : Nat} {μ : MP} {ν : NC} {x1 : Int32} {r0 : (MP × NC) × Int32} (h : f_L_isLeftOut w μ ν x1 = some r0) : mn ν r0.1.2 := by
  unfold f_L_isLeftOut at h
  obtain ⟨⟨t, r⟩, h1, h⟩ := bind_of h
  by_cases c0 : t = 0
  · subst c0
    obtain rfl := Option.some.inj ((if_pos rfl).symm.trans h)
    exact mn_rfl _
  · replace h := (if_neg c0).symm.trans h
    by_cases c1 : t = 1
    · subst c1
      obtain rfl := Option.some.inj ((if_pos rfl).symm.trans h)
      exact mn_chg _ _ _
    replace h := (if_neg c1).symm.trans h
    exact absurd h (by simp)
theorem c_L_isLeftOut (l : Launch) (hl : l.stackTraces = false) (B : Nat × (Nat → Nat)) (μ : MP) (ν : NC) (a : AS) (Ad : Nat → Nat → Nat) (w : Nat) (x1 : Int32) (r0 : (MP × NC) × Int32) (h : f_L_isLeftOut w μ ν x1 = some r0) (h0 : 0 < ν.2 0) : ∀ D E sz, vx_Met l yL_isLeftOut gwL_isLeftOut ({ frames := 8, cells := kc (r0).1.2 - kc ν, slots := ks (r0).1.2 - ks ν, locals := 146 } : Room) (cPh D E sz B (zS μ ν a Ad) [.ref (Ad 0 0), .int x1]) (cQ D E sz (zS μ ν a Ad) [] (pI (fun r u => r = (r0).2 ∧ ∃ A1, u = (zS (r0).1.1 (r0).1.2 a A1, []) ∧ kp ν Ad A1))) (fun _ _ _ => False) (kc (r0).1.2 - kc ν) (ks (r0).1.2 - ks ν) (Aof (zS μ ν a Ad) [] sz) := by
  unfold f_L_isLeftOut at h
  obtain ⟨⟨t, r⟩, h1, h⟩ := bind_of h
  by_cases c0 : t = 0
  · subst c0
    obtain rfl := Option.some.inj ((if_pos rfl).symm.trans h)
    exact r_L_isLeftOut l hl B μ ν a Ad w x1 r h1 h0
  · replace h := (if_neg c0).symm.trans h
    by_cases c1 : t = 1
    · subst c1
      obtain rfl := Option.some.inj ((if_pos rfl).symm.trans h)
      exact e1_L_isLeftOut l hl B μ ν a Ad w x1 r h1 h0
    replace h := (if_neg c1).symm.trans h
    exact absurd h (by simp)
noncomputable def f_L_underWay (w : Nat) (μ : MP) (ν : NC) (x1 : Int32) : Option ((MP × NC) × Int32) := (f_X8_underWay w μ ν x1).bind (fun r => if r.1 = 0 then some (((μ, ν), r.2)) else if r.1 = 1 then some ((μ, chg ν 1 6), (-7100 : Int32)) else none)
set_option maxHeartbeats 4000000 in
set_option maxRecDepth 100000 in
theorem r_L_underWay (l : Launch) (hl : l.stackTraces = false) (B : Nat × (Nat → Nat)) (μ : MP) (ν : NC) (a : AS) (Ad : Nat → Nat → Nat) (w : Nat) (x1 : Int32) (r0 : Int32) (h : f_X8_underWay w μ ν x1 = some (0, r0)) (h0 : 0 < ν.2 0) : ∀ D E sz, vx_Met l yL_underWay gwL_underWay ({ frames := 8, cells := kc (((μ, ν), r0)).1.2 - kc ν, slots := ks (((μ, ν), r0)).1.2 - ks ν, locals := 145 } : Room) (cPh D E sz B (zS μ ν a Ad) [.ref (Ad 0 0), .int x1]) (cQ D E sz (zS μ ν a Ad) [] (pI (fun r u => r = (((μ, ν), r0)).2 ∧ ∃ A1, u = (zS (((μ, ν), r0)).1.1 (((μ, ν), r0)).1.2 a A1, []) ∧ kp ν Ad A1))) (fun _ _ _ => False) (kc (((μ, ν), r0)).1.2 - kc ν) (ks (((μ, ν), r0)).1.2 - ks ν) (Aof (zS μ ν a Ad) [] sz) := by
  intro D E sz
  refine g_ofH (cc := cL_underWay) (maxL := 4) (ret := some .int) (hh := [(0, 6, 9, 24)]) (own := "TradeLineLaw") (by decide) rfl rfl (Nat.le_of_ble_eq_true rfl) ?_
  intro p e s m args below meth c C hr hT hz hEv hN
  refine g_vx ?_
  refine g_lv (lv' := [(0, .ref (Ad 0 0)), (1, .int x1)]) [0, 1] rfl ?_
  refine g_aload_n C dL_underWay_0 rfl 0 rfl ?_
  refine g_iload_n C dL_underWay_1 rfl 1 rfl ?_
  refine g_cVi (n := 1) (exc := []) (exr := []) C [_] _ rfl rfl [] [] rfl rfl rfl rfl (fun _ h => absurd h (by simp)) (fun _ h => absurd h (by simp)) (fun _ h => absurd h (by simp)) (fun sz => c_X8_underWay l μ ν a Ad w x1 r0 h D E sz) rfl gw_1312 gw_1 gw_1309 gw_1310 gw_1311 ⟨by decide +kernel, by decide +kernel, by decide +kernel⟩ ⟨rfl, rfl⟩ ⟨Nat.le_of_ble_eq_true rfl, Nat.le_of_ble_eq_true rfl⟩ (rcvT ⟨h0, fun e => absurd e (by decide)⟩ rfl rfl rfl) (Nat.le_of_ble_eq_true rfl) dL_underWay_2 ⟨Nat.zero_le _, Nat.zero_le _⟩ (fun r u hp hx => ?_)
  obtain ⟨er, rfl⟩ := hp
  rw [er]
  try dsimp only [List.append_nil]
  refine g_widen (k := kc ν - kc ν) (n := ks ν - ks ν) (Nat.zero_le _) (Nat.zero_le _) ?_
  refine g_istore_n (lv' := [(2, .int r0), (0, .ref (Ad 0 0)), (1, .int x1)]) C dL_underWay_5 rfl (by decide) rfl ?_
  refine g_goto (tgt := 14) C dL_underWay_6 (by decide) ?_
  refine g_iload_n C dL_underWay_14 rfl 0 rfl ?_
  exact g_iret C hr rfl hz ⟨rfl, rfl, fun _ => rfl, fun _ => rfl⟩ ⟨rfl, Ad, rfl, kp_rfl _ _⟩ (fun j x h => by simp at h) dL_underWay_15
set_option maxHeartbeats 4000000 in
set_option maxRecDepth 100000 in
theorem e1_L_underWay (l : Launch) (hl : l.stackTraces = false) (B : Nat × (Nat → Nat)) (μ : MP) (ν : NC) (a : AS) (Ad : Nat → Nat → Nat) (w : Nat) (x1 : Int32) (r0 : Int32) (h : f_X8_underWay w μ ν x1 = some (1, r0)) (h0 : 0 < ν.2 0) : ∀ D E sz, vx_Met l yL_underWay gwL_underWay ({ frames := 8, cells := kc (((μ, chg ν 1 6), (-7100 : Int32))).1.2 - kc ν, slots := ks (((μ, chg ν 1 6), (-7100 : Int32))).1.2 - ks ν, locals := 145 } : Room) (cPh D E sz B (zS μ ν a Ad) [.ref (Ad 0 0), .int x1]) (cQ D E sz (zS μ ν a Ad) [] (pI (fun r u => r = (((μ, chg ν 1 6), (-7100 : Int32))).2 ∧ ∃ A1, u = (zS (((μ, chg ν 1 6), (-7100 : Int32))).1.1 (((μ, chg ν 1 6), (-7100 : Int32))).1.2 a A1, []) ∧ kp ν Ad A1))) (fun _ _ _ => False) (kc (((μ, chg ν 1 6), (-7100 : Int32))).1.2 - kc ν) (ks (((μ, chg ν 1 6), (-7100 : Int32))).1.2 - ks ν) (Aof (zS μ ν a Ad) [] sz) := by
  have k1 := kc_chg ν 1 6; have k2 := ks_chg ν 1 6
  intro D E sz
  refine g_ofH (cc := cL_underWay) (maxL := 4) (ret := some .int) (hh := [(0, 6, 9, 24)]) (own := "TradeLineLaw") (by decide) rfl rfl (Nat.le_of_ble_eq_true rfl) ?_
  intro p e s m args below meth c C hr hT hz hEv hN
  refine g_lv (lv' := [(0, .ref (Ad 0 0)), (1, .int x1)]) [0, 1] rfl ?_
  refine g_aload_n C dL_underWay_0 rfl 0 rfl ?_
  refine g_iload_n C dL_underWay_1 rfl 1 rfl ?_
  refine g_hc (n := 1) (index := 1) C hEv ⟨rfl, rfl⟩ hN [_] _ rfl rfl (fun sz => x_X8_underWay l hl B μ ν a Ad w x1 0 r0 h D E sz) rfl gw_1312 gw_1 gw_1309 gw_1310 gw_1311 ⟨by decide +kernel, by decide +kernel, by decide +kernel⟩ ⟨rfl, rfl⟩ ⟨Nat.le_of_ble_eq_true rfl, Nat.le_of_ble_eq_true rfl⟩ (rcvT ⟨h0, fun e => absurd e (by decide)⟩ rfl rfl rfl) (Nat.le_of_ble_eq_true rfl) dL_underWay_2 ⟨by show 1 ≤ kc (chg ν 1 6) - kc ν; omega, by show 6 ≤ ks (chg ν 1 6) - ks ν; omega⟩ [] ⟨0, 6, 9, 24⟩ [] hT (fun z hz => absurd hz (by simp)) (by decide) (by decide) gw_473 (by decide) rfl (fun q9 => ?_)
  refine g_chg 1 6 ?_
  refine g_widen (k := kc (chg ν 1 6) - kc ν) (n := ks (chg ν 1 6) - ks ν) (by omega) (by omega) ?_
  refine g_astore_n (lv' := [(3, .ref q9), (0, .ref (Ad 0 0)), (1, .int x1)]) C dL_underWay_9 rfl (by decide) rfl ?_
  refine g_sipush (v := (-7100 : Int32)) C dL_underWay_10 (by decide) ?_
  refine g_vx ?_
  exact g_iret C hr rfl hz ⟨rfl, rfl, fun _ => rfl, fun _ => rfl⟩ ⟨rfl, Ad, rfl, kp_rfl _ _⟩ (fun j x h => by simp at h) dL_underWay_13
theorem m_L_underWay {w : Nat} {μ : MP} {ν : NC} {x1 : Int32} {r0 : (MP × NC) × Int32} (h : f_L_underWay w μ ν x1 = some r0) : mn ν r0.1.2 := by
  unfold f_L_underWay at h
  obtain ⟨⟨t, r⟩, h1, h⟩ := bind_of h
  by_cases c0 : t = 0
  · subst c0
    obtain rfl := Option.some.inj ((if_pos rfl).symm.trans h)
    exact mn_rfl _
  · replace h := (if_neg c0).symm.trans h
    by_cases c1 : t = 1
    · subst c1
      obtain rfl := Option.some.inj ((if_pos rfl).symm.trans h)
      exact mn_chg _ _ _
    replace h := (if_neg c1).symm.trans h
    exact absurd h (by simp)
theorem c_L_underWay (l : Launch) (hl : l.stackTraces = false) (B : Nat × (Nat → Nat)) (μ : MP) (ν : NC) (a : AS) (Ad : Nat → Nat → Nat) (w : Nat) (x1 : Int32) (r0 : (MP × NC) × Int32) (h : f_L_underWay w μ ν x1 = some r0) (h0 : 0 < ν.2 0) : ∀ D E sz, vx_Met l yL_underWay gwL_underWay ({ frames := 8, cells := kc (r0).1.2 - kc ν, slots := ks (r0).1.2 - ks ν, locals := 145 } : Room) (cPh D E sz B (zS μ ν a Ad) [.ref (Ad 0 0), .int x1]) (cQ D E sz (zS μ ν a Ad) [] (pI (fun r u => r = (r0).2 ∧ ∃ A1, u = (zS (r0).1.1 (r0).1.2 a A1, []) ∧ kp ν Ad A1))) (fun _ _ _ => False) (kc (r0).1.2 - kc ν) (ks (r0).1.2 - ks ν) (Aof (zS μ ν a Ad) [] sz) := by
  unfold f_L_underWay at h
  obtain ⟨⟨t, r⟩, h1, h⟩ := bind_of h
  by_cases c0 : t = 0
  · subst c0
    obtain rfl := Option.some.inj ((if_pos rfl).symm.trans h)
    exact r_L_underWay l hl B μ ν a Ad w x1 r h1 h0
  · replace h := (if_neg c0).symm.trans h
    by_cases c1 : t = 1
    · subst c1
      obtain rfl := Option.some.inj ((if_pos rfl).symm.trans h)
      exact e1_L_underWay l hl B μ ν a Ad w x1 r h1 h0
    replace h := (if_neg c1).symm.trans h
    exact absurd h (by simp)
noncomputable def f_L_venues (w : Nat) (μ : MP) (ν : NC) (x1 : Int32) : Option ((MP × NC) × Int32) := (f_X8_venues w μ ν x1).bind (fun r => if r.1 = 0 then some (((μ, ν), r.2)) else if r.1 = 1 then some ((μ, chg ν 1 6), (-7100 : Int32)) else none)
set_option maxHeartbeats 4000000 in
set_option maxRecDepth 100000 in
theorem r_L_venues (l : Launch) (hl : l.stackTraces = false) (B : Nat × (Nat → Nat)) (μ : MP) (ν : NC) (a : AS) (Ad : Nat → Nat → Nat) (w : Nat) (x1 : Int32) (r0 : Int32) (h : f_X8_venues w μ ν x1 = some (0, r0)) (h0 : 0 < ν.2 0) : ∀ D E sz, vx_Met l yL_venues gwL_venues ({ frames := 8, cells := kc (((μ, ν), r0)).1.2 - kc ν, slots := ks (((μ, ν), r0)).1.2 - ks ν, locals := 148 } : Room) (cPh D E sz B (zS μ ν a Ad) [.ref (Ad 0 0), .int x1]) (cQ D E sz (zS μ ν a Ad) [] (pI (fun r u => r = (((μ, ν), r0)).2 ∧ ∃ A1, u = (zS (((μ, ν), r0)).1.1 (((μ, ν), r0)).1.2 a A1, []) ∧ kp ν Ad A1))) (fun _ _ _ => False) (kc (((μ, ν), r0)).1.2 - kc ν) (ks (((μ, ν), r0)).1.2 - ks ν) (Aof (zS μ ν a Ad) [] sz) := by
  intro D E sz
  refine g_ofH (cc := cL_venues) (maxL := 4) (ret := some .int) (hh := [(0, 6, 9, 24)]) (own := "TradeLineLaw") (by decide) rfl rfl (Nat.le_of_ble_eq_true rfl) ?_
  intro p e s m args below meth c C hr hT hz hEv hN
  refine g_vx ?_
  refine g_lv (lv' := [(0, .ref (Ad 0 0)), (1, .int x1)]) [0, 1] rfl ?_
  refine g_aload_n C dL_venues_0 rfl 0 rfl ?_
  refine g_iload_n C dL_venues_1 rfl 1 rfl ?_
  refine g_cVi (n := 1) (exc := []) (exr := []) C [_] _ rfl rfl [] [] rfl rfl rfl rfl (fun _ h => absurd h (by simp)) (fun _ h => absurd h (by simp)) (fun _ h => absurd h (by simp)) (fun sz => c_X8_venues l μ ν a Ad w x1 r0 h D E sz) rfl gw_1319 gw_1 gw_1316 gw_1317 gw_1318 ⟨by decide +kernel, by decide +kernel, by decide +kernel⟩ ⟨rfl, rfl⟩ ⟨Nat.le_of_ble_eq_true rfl, Nat.le_of_ble_eq_true rfl⟩ (rcvT ⟨h0, fun e => absurd e (by decide)⟩ rfl rfl rfl) (Nat.le_of_ble_eq_true rfl) dL_venues_2 ⟨Nat.zero_le _, Nat.zero_le _⟩ (fun r u hp hx => ?_)
  obtain ⟨er, rfl⟩ := hp
  rw [er]
  try dsimp only [List.append_nil]
  refine g_widen (k := kc ν - kc ν) (n := ks ν - ks ν) (Nat.zero_le _) (Nat.zero_le _) ?_
  refine g_istore_n (lv' := [(2, .int r0), (0, .ref (Ad 0 0)), (1, .int x1)]) C dL_venues_5 rfl (by decide) rfl ?_
  refine g_goto (tgt := 14) C dL_venues_6 (by decide) ?_
  refine g_iload_n C dL_venues_14 rfl 0 rfl ?_
  exact g_iret C hr rfl hz ⟨rfl, rfl, fun _ => rfl, fun _ => rfl⟩ ⟨rfl, Ad, rfl, kp_rfl _ _⟩ (fun j x h => by simp at h) dL_venues_15
set_option maxHeartbeats 4000000 in
set_option maxRecDepth 100000 in
theorem e1_L_venues (l : Launch) (hl : l.stackTraces = false) (B : Nat × (Nat → Nat)) (μ : MP) (ν : NC) (a : AS) (Ad : Nat → Nat → Nat) (w : Nat) (x1 : Int32) (r0 : Int32) (h : f_X8_venues w μ ν x1 = some (1, r0)) (h0 : 0 < ν.2 0) : ∀ D E sz, vx_Met l yL_venues gwL_venues ({ frames := 8, cells := kc (((μ, chg ν 1 6), (-7100 : Int32))).1.2 - kc ν, slots := ks (((μ, chg ν 1 6), (-7100 : Int32))).1.2 - ks ν, locals := 148 } : Room) (cPh D E sz B (zS μ ν a Ad) [.ref (Ad 0 0), .int x1]) (cQ D E sz (zS μ ν a Ad) [] (pI (fun r u => r = (((μ, chg ν 1 6), (-7100 : Int32))).2 ∧ ∃ A1, u = (zS (((μ, chg ν 1 6), (-7100 : Int32))).1.1 (((μ, chg ν 1 6), (-7100 : Int32))).1.2 a A1, []) ∧ kp ν Ad A1))) (fun _ _ _ => False) (kc (((μ, chg ν 1 6), (-7100 : Int32))).1.2 - kc ν) (ks (((μ, chg ν 1 6), (-7100 : Int32))).1.2 - ks ν) (Aof (zS μ ν a Ad) [] sz) := by
  have k1 := kc_chg ν 1 6; have k2 := ks_chg ν 1 6
  intro D E sz
  refine g_ofH (cc := cL_venues) (maxL := 4) (ret := some .int) (hh := [(0, 6, 9, 24)]) (own := "TradeLineLaw") (by decide) rfl rfl (Nat.le_of_ble_eq_true rfl) ?_
  intro p e s m args below meth c C hr hT hz hEv hN
  refine g_lv (lv' := [(0, .ref (Ad 0 0)), (1, .int x1)]) [0, 1] rfl ?_
  refine g_aload_n C dL_venues_0 rfl 0 rfl ?_
  refine g_iload_n C dL_venues_1 rfl 1 rfl ?_
  refine g_hc (n := 1) (index := 1) C hEv ⟨rfl, rfl⟩ hN [_] _ rfl rfl (fun sz => x_X8_venues l hl B μ ν a Ad w x1 0 r0 h D E sz) rfl gw_1319 gw_1 gw_1316 gw_1317 gw_1318 ⟨by decide +kernel, by decide +kernel, by decide +kernel⟩ ⟨rfl, rfl⟩ ⟨Nat.le_of_ble_eq_true rfl, Nat.le_of_ble_eq_true rfl⟩ (rcvT ⟨h0, fun e => absurd e (by decide)⟩ rfl rfl rfl) (Nat.le_of_ble_eq_true rfl) dL_venues_2 ⟨by show 1 ≤ kc (chg ν 1 6) - kc ν; omega, by show 6 ≤ ks (chg ν 1 6) - ks ν; omega⟩ [] ⟨0, 6, 9, 24⟩ [] hT (fun z hz => absurd hz (by simp)) (by decide) (by decide) gw_473 (by decide) rfl (fun q9 => ?_)
  refine g_chg 1 6 ?_
  refine g_widen (k := kc (chg ν 1 6) - kc ν) (n := ks (chg ν 1 6) - ks ν) (by omega) (by omega) ?_
  refine g_astore_n (lv' := [(3, .ref q9), (0, .ref (Ad 0 0)), (1, .int x1)]) C dL_venues_9 rfl (by decide) rfl ?_
  refine g_sipush (v := (-7100 : Int32)) C dL_venues_10 (by decide) ?_
  refine g_vx ?_
  exact g_iret C hr rfl hz ⟨rfl, rfl, fun _ => rfl, fun _ => rfl⟩ ⟨rfl, Ad, rfl, kp_rfl _ _⟩ (fun j x h => by simp at h) dL_venues_13
theorem m_L_venues {w : Nat} {μ : MP} {ν : NC} {x1 : Int32} {r0 : (MP × NC) × Int32} (h : f_L_venues w μ ν x1 = some r0) : mn ν r0.1.2 := by
  unfold f_L_venues at h
  obtain ⟨⟨t, r⟩, h1, h⟩ := bind_of h
  by_cases c0 : t = 0
  · subst c0
    obtain rfl := Option.some.inj ((if_pos rfl).symm.trans h)
    exact mn_rfl _
  · replace h := (if_neg c0).symm.trans h
    by_cases c1 : t = 1
    · subst c1
      obtain rfl := Option.some.inj ((if_pos rfl).symm.trans h)
      exact mn_chg _ _ _
    replace h := (if_neg c1).symm.trans h
    exact absurd h (by simp)
theorem c_L_venues (l : Launch) (hl : l.stackTraces = false) (B : Nat × (Nat → Nat)) (μ : MP) (ν : NC) (a : AS) (Ad : Nat → Nat → Nat) (w : Nat) (x1 : Int32) (r0 : (MP × NC) × Int32) (h : f_L_venues w μ ν x1 = some r0) (h0 : 0 < ν.2 0) : ∀ D E sz, vx_Met l yL_venues gwL_venues ({ frames := 8, cells := kc (r0).1.2 - kc ν, slots := ks (r0).1.2 - ks ν, locals := 148 } : Room) (cPh D E sz B (zS μ ν a Ad) [.ref (Ad 0 0), .int x1]) (cQ D E sz (zS μ ν a Ad) [] (pI (fun r u => r = (r0).2 ∧ ∃ A1, u = (zS (r0).1.1 (r0).1.2 a A1, []) ∧ kp ν Ad A1))) (fun _ _ _ => False) (kc (r0).1.2 - kc ν) (ks (r0).1.2 - ks ν) (Aof (zS μ ν a Ad) [] sz) := by
  unfold f_L_venues at h
  obtain ⟨⟨t, r⟩, h1, h⟩ := bind_of h
  by_cases c0 : t = 0
  · subst c0
    obtain rfl := Option.some.inj ((if_pos rfl).symm.trans h)
    exact r_L_venues l hl B μ ν a Ad w x1 r h1 h0
  · replace h := (if_neg c0).symm.trans h
    by_cases c1 : t = 1
    · subst c1
      obtain rfl := Option.some.inj ((if_pos rfl).symm.trans h)
      exact e1_L_venues l hl B μ ν a Ad w x1 r h1 h0
    replace h := (if_neg c1).symm.trans h
    exact absurd h (by simp)
noncomputable def f_L_left (w : Nat) (μ : MP) (ν : NC) (x1 : Int32) (x2 : Int32) : Option ((MP × NC) × Int32) := (f_X8_left w μ ν x1 x2).bind (fun r => if r.1 = 0 then some (((μ, ν), r.2)) else if r.1 = 1 then some ((μ, chg ν 1 6), (-7100 : Int32)) else none)
set_option maxHeartbeats 4000000 in
set_option maxRecDepth 100000 in
theorem r_L_left (l : Launch) (hl : l.stackTraces = false) (B : Nat × (Nat → Nat)) (μ : MP) (ν : NC) (a : AS) (Ad : Nat → Nat → Nat) (w : Nat) (x1 : Int32) (x2 : Int32) (r0 : Int32) (h : f_X8_left w μ ν x1 x2 = some (0, r0)) (h0 : 0 < ν.2 0) : ∀ D E sz, vx_Met l yL_left gwL_left ({ frames := 8, cells := kc (((μ, ν), r0)).1.2 - kc ν, slots := ks (((μ, ν), r0)).1.2 - ks ν, locals := 147 } : Room) (cPh D E sz B (zS μ ν a Ad) [.ref (Ad 0 0), .int x1, .int x2]) (cQ D E sz (zS μ ν a Ad) [] (pI (fun r u => r = (((μ, ν), r0)).2 ∧ ∃ A1, u = (zS (((μ, ν), r0)).1.1 (((μ, ν), r0)).1.2 a A1, []) ∧ kp ν Ad A1))) (fun _ _ _ => False) (kc (((μ, ν), r0)).1.2 - kc ν) (ks (((μ, ν), r0)).1.2 - ks ν) (Aof (zS μ ν a Ad) [] sz) := by
  intro D E sz
  refine g_ofH (cc := cL_left) (maxL := 5) (ret := some .int) (hh := [(0, 7, 10, 24)]) (own := "TradeLineLaw") (by decide) rfl rfl (Nat.le_of_ble_eq_true rfl) ?_
  intro p e s m args below meth c C hr hT hz hEv hN
  refine g_vx ?_
  refine g_lv (lv' := [(0, .ref (Ad 0 0)), (1, .int x1), (2, .int x2)]) [0, 1, 2] rfl ?_
  refine g_aload_n C dL_left_0 rfl 0 rfl ?_
  refine g_iload_n C dL_left_1 rfl 1 rfl ?_
  refine g_iload_n C dL_left_2 rfl 2 rfl ?_
  refine g_cVi (n := 2) (exc := []) (exr := []) C [_, _] _ rfl rfl [] [] rfl rfl rfl rfl (fun _ h => absurd h (by simp)) (fun _ h => absurd h (by simp)) (fun _ h => absurd h (by simp)) (fun sz => c_X8_left l μ ν a Ad w x1 x2 r0 h D E sz) rfl gw_1330 gw_1 gw_1327 gw_1328 gw_1329 ⟨by decide +kernel, by decide +kernel, by decide +kernel⟩ ⟨rfl, rfl⟩ ⟨Nat.le_of_ble_eq_true rfl, Nat.le_of_ble_eq_true rfl⟩ (rcvT ⟨h0, fun e => absurd e (by decide)⟩ rfl rfl rfl) (Nat.le_of_ble_eq_true rfl) dL_left_3 ⟨Nat.zero_le _, Nat.zero_le _⟩ (fun r u hp hx => ?_)
  obtain ⟨er, rfl⟩ := hp
  rw [er]
  try dsimp only [List.append_nil]
  refine g_widen (k := kc ν - kc ν) (n := ks ν - ks ν) (Nat.zero_le _) (Nat.zero_le _) ?_
  refine g_istore_n (lv' := [(3, .int r0), (0, .ref (Ad 0 0)), (1, .int x1), (2, .int x2)]) C dL_left_6 rfl (by decide) rfl ?_
  refine g_goto (tgt := 16) C dL_left_7 (by decide) ?_
  refine g_iload_n C dL_left_16 rfl 0 rfl ?_
  exact g_iret C hr rfl hz ⟨rfl, rfl, fun _ => rfl, fun _ => rfl⟩ ⟨rfl, Ad, rfl, kp_rfl _ _⟩ (fun j x h => by simp at h) dL_left_17
set_option maxHeartbeats 4000000 in
set_option maxRecDepth 100000 in
theorem e1_L_left (l : Launch) (hl : l.stackTraces = false) (B : Nat × (Nat → Nat)) (μ : MP) (ν : NC) (a : AS) (Ad : Nat → Nat → Nat) (w : Nat) (x1 : Int32) (x2 : Int32) (r0 : Int32) (h : f_X8_left w μ ν x1 x2 = some (1, r0)) (h0 : 0 < ν.2 0) : ∀ D E sz, vx_Met l yL_left gwL_left ({ frames := 8, cells := kc (((μ, chg ν 1 6), (-7100 : Int32))).1.2 - kc ν, slots := ks (((μ, chg ν 1 6), (-7100 : Int32))).1.2 - ks ν, locals := 147 } : Room) (cPh D E sz B (zS μ ν a Ad) [.ref (Ad 0 0), .int x1, .int x2]) (cQ D E sz (zS μ ν a Ad) [] (pI (fun r u => r = (((μ, chg ν 1 6), (-7100 : Int32))).2 ∧ ∃ A1, u = (zS (((μ, chg ν 1 6), (-7100 : Int32))).1.1 (((μ, chg ν 1 6), (-7100 : Int32))).1.2 a A1, []) ∧ kp ν Ad A1))) (fun _ _ _ => False) (kc (((μ, chg ν 1 6), (-7100 : Int32))).1.2 - kc ν) (ks (((μ, chg ν 1 6), (-7100 : Int32))).1.2 - ks ν) (Aof (zS μ ν a Ad) [] sz) := by
  have k1 := kc_chg ν 1 6; have k2 := ks_chg ν 1 6
  intro D E sz
  refine g_ofH (cc := cL_left) (maxL := 5) (ret := some .int) (hh := [(0, 7, 10, 24)]) (own := "TradeLineLaw") (by decide) rfl rfl (Nat.le_of_ble_eq_true rfl) ?_
  intro p e s m args below meth c C hr hT hz hEv hN
  refine g_lv (lv' := [(0, .ref (Ad 0 0)), (1, .int x1), (2, .int x2)]) [0, 1, 2] rfl ?_
  refine g_aload_n C dL_left_0 rfl 0 rfl ?_
  refine g_iload_n C dL_left_1 rfl 1 rfl ?_
  refine g_iload_n C dL_left_2 rfl 2 rfl ?_
  refine g_hc (n := 1) (index := 2) C hEv ⟨rfl, rfl⟩ hN [_, _] _ rfl rfl (fun sz => x_X8_left l hl B μ ν a Ad w x1 x2 0 r0 h D E sz) rfl gw_1330 gw_1 gw_1327 gw_1328 gw_1329 ⟨by decide +kernel, by decide +kernel, by decide +kernel⟩ ⟨rfl, rfl⟩ ⟨Nat.le_of_ble_eq_true rfl, Nat.le_of_ble_eq_true rfl⟩ (rcvT ⟨h0, fun e => absurd e (by decide)⟩ rfl rfl rfl) (Nat.le_of_ble_eq_true rfl) dL_left_3 ⟨by show 1 ≤ kc (chg ν 1 6) - kc ν; omega, by show 6 ≤ ks (chg ν 1 6) - ks ν; omega⟩ [] ⟨0, 7, 10, 24⟩ [] hT (fun z hz => absurd hz (by simp)) (by decide) (by decide) gw_473 (by decide) rfl (fun q9 => ?_)
  refine g_chg 1 6 ?_
  refine g_widen (k := kc (chg ν 1 6) - kc ν) (n := ks (chg ν 1 6) - ks ν) (by omega) (by omega) ?_
  refine g_astore (lv' := [(4, .ref q9), (0, .ref (Ad 0 0)), (1, .int x1), (2, .int x2)]) C dL_left_10 (by decide) rfl ?_
  refine g_sipush (v := (-7100 : Int32)) C dL_left_12 (by decide) ?_
  refine g_vx ?_
  exact g_iret C hr rfl hz ⟨rfl, rfl, fun _ => rfl, fun _ => rfl⟩ ⟨rfl, Ad, rfl, kp_rfl _ _⟩ (fun j x h => by simp at h) dL_left_15
theorem m_L_left {w : Nat} {μ : MP} {ν : NC} {x1 : Int32} {x2 : Int32} {r0 : (MP × NC) × Int32} (h : f_L_left w μ ν x1 x2 = some r0) : mn ν r0.1.2 := by
  unfold f_L_left at h
  obtain ⟨⟨t, r⟩, h1, h⟩ := bind_of h
  by_cases c0 : t = 0
  · subst c0
    obtain rfl := Option.some.inj ((if_pos rfl).symm.trans h)
    exact mn_rfl _
  · replace h := (if_neg c0).symm.trans h
    by_cases c1 : t = 1
    · subst c1
      obtain rfl := Option.some.inj ((if_pos rfl).symm.trans h)
      exact mn_chg _ _ _
    replace h := (if_neg c1).symm.trans h
    exact absurd h (by simp)
theorem c_L_left (l : Launch) (hl : l.stackTraces = false) (B : Nat × (Nat → Nat)) (μ : MP) (ν : NC) (a : AS) (Ad : Nat → Nat → Nat) (w : Nat) (x1 : Int32) (x2 : Int32) (r0 : (MP × NC) × Int32) (h : f_L_left w μ ν x1 x2 = some r0) (h0 : 0 < ν.2 0) : ∀ D E sz, vx_Met l yL_left gwL_left ({ frames := 8, cells := kc (r0).1.2 - kc ν, slots := ks (r0).1.2 - ks ν, locals := 147 } : Room) (cPh D E sz B (zS μ ν a Ad) [.ref (Ad 0 0), .int x1, .int x2]) (cQ D E sz (zS μ ν a Ad) [] (pI (fun r u => r = (r0).2 ∧ ∃ A1, u = (zS (r0).1.1 (r0).1.2 a A1, []) ∧ kp ν Ad A1))) (fun _ _ _ => False) (kc (r0).1.2 - kc ν) (ks (r0).1.2 - ks ν) (Aof (zS μ ν a Ad) [] sz) := by
  unfold f_L_left at h
  obtain ⟨⟨t, r⟩, h1, h⟩ := bind_of h
  by_cases c0 : t = 0
  · subst c0
    obtain rfl := Option.some.inj ((if_pos rfl).symm.trans h)
    exact r_L_left l hl B μ ν a Ad w x1 x2 r h1 h0
  · replace h := (if_neg c0).symm.trans h
    by_cases c1 : t = 1
    · subst c1
      obtain rfl := Option.some.inj ((if_pos rfl).symm.trans h)
      exact e1_L_left l hl B μ ν a Ad w x1 x2 r h1 h0
    replace h := (if_neg c1).symm.trans h
    exact absurd h (by simp)
noncomputable def f_L_done (w : Nat) (μ : MP) (ν : NC) (x1 : Int32) (x2 : Int32) : Option ((MP × NC) × Int32) := (f_X8_done w μ ν x1 x2).bind (fun r => if r.1 = 0 then some (((μ, ν), r.2)) else if r.1 = 1 then some ((μ, chg ν 1 6), (-7100 : Int32)) else none)
set_option maxHeartbeats 4000000 in
set_option maxRecDepth 100000 in
theorem r_L_done (l : Launch) (hl : l.stackTraces = false) (B : Nat × (Nat → Nat)) (μ : MP) (ν : NC) (a : AS) (Ad : Nat → Nat → Nat) (w : Nat) (x1 : Int32) (x2 : Int32) (r0 : Int32) (h : f_X8_done w μ ν x1 x2 = some (0, r0)) (h0 : 0 < ν.2 0) : ∀ D E sz, vx_Met l yL_done gwL_done ({ frames := 8, cells := kc (((μ, ν), r0)).1.2 - kc ν, slots := ks (((μ, ν), r0)).1.2 - ks ν, locals := 147 } : Room) (cPh D E sz B (zS μ ν a Ad) [.ref (Ad 0 0), .int x1, .int x2]) (cQ D E sz (zS μ ν a Ad) [] (pI (fun r u => r = (((μ, ν), r0)).2 ∧ ∃ A1, u = (zS (((μ, ν), r0)).1.1 (((μ, ν), r0)).1.2 a A1, []) ∧ kp ν Ad A1))) (fun _ _ _ => False) (kc (((μ, ν), r0)).1.2 - kc ν) (ks (((μ, ν), r0)).1.2 - ks ν) (Aof (zS μ ν a Ad) [] sz) := by
  intro D E sz
  refine g_ofH (cc := cL_done) (maxL := 5) (ret := some .int) (hh := [(0, 7, 10, 24)]) (own := "TradeLineLaw") (by decide) rfl rfl (Nat.le_of_ble_eq_true rfl) ?_
  intro p e s m args below meth c C hr hT hz hEv hN
  refine g_vx ?_
  refine g_lv (lv' := [(0, .ref (Ad 0 0)), (1, .int x1), (2, .int x2)]) [0, 1, 2] rfl ?_
  refine g_aload_n C dL_done_0 rfl 0 rfl ?_
  refine g_iload_n C dL_done_1 rfl 1 rfl ?_
  refine g_iload_n C dL_done_2 rfl 2 rfl ?_
  refine g_cVi (n := 2) (exc := []) (exr := []) C [_, _] _ rfl rfl [] [] rfl rfl rfl rfl (fun _ h => absurd h (by simp)) (fun _ h => absurd h (by simp)) (fun _ h => absurd h (by simp)) (fun sz => c_X8_done l μ ν a Ad w x1 x2 r0 h D E sz) rfl gw_1349 gw_1 gw_1346 gw_1347 gw_1348 ⟨by decide +kernel, by decide +kernel, by decide +kernel⟩ ⟨rfl, rfl⟩ ⟨Nat.le_of_ble_eq_true rfl, Nat.le_of_ble_eq_true rfl⟩ (rcvT ⟨h0, fun e => absurd e (by decide)⟩ rfl rfl rfl) (Nat.le_of_ble_eq_true rfl) dL_done_3 ⟨Nat.zero_le _, Nat.zero_le _⟩ (fun r u hp hx => ?_)
  obtain ⟨er, rfl⟩ := hp
  rw [er]
  try dsimp only [List.append_nil]
  refine g_widen (k := kc ν - kc ν) (n := ks ν - ks ν) (Nat.zero_le _) (Nat.zero_le _) ?_
  refine g_istore_n (lv' := [(3, .int r0), (0, .ref (Ad 0 0)), (1, .int x1), (2, .int x2)]) C dL_done_6 rfl (by decide) rfl ?_
  refine g_goto (tgt := 16) C dL_done_7 (by decide) ?_
  refine g_iload_n C dL_done_16 rfl 0 rfl ?_
  exact g_iret C hr rfl hz ⟨rfl, rfl, fun _ => rfl, fun _ => rfl⟩ ⟨rfl, Ad, rfl, kp_rfl _ _⟩ (fun j x h => by simp at h) dL_done_17
set_option maxHeartbeats 4000000 in
set_option maxRecDepth 100000 in
theorem e1_L_done (l : Launch) (hl : l.stackTraces = false) (B : Nat × (Nat → Nat)) (μ : MP) (ν : NC) (a : AS) (Ad : Nat → Nat → Nat) (w : Nat) (x1 : Int32) (x2 : Int32) (r0 : Int32) (h : f_X8_done w μ ν x1 x2 = some (1, r0)) (h0 : 0 < ν.2 0) : ∀ D E sz, vx_Met l yL_done gwL_done ({ frames := 8, cells := kc (((μ, chg ν 1 6), (-7100 : Int32))).1.2 - kc ν, slots := ks (((μ, chg ν 1 6), (-7100 : Int32))).1.2 - ks ν, locals := 147 } : Room) (cPh D E sz B (zS μ ν a Ad) [.ref (Ad 0 0), .int x1, .int x2]) (cQ D E sz (zS μ ν a Ad) [] (pI (fun r u => r = (((μ, chg ν 1 6), (-7100 : Int32))).2 ∧ ∃ A1, u = (zS (((μ, chg ν 1 6), (-7100 : Int32))).1.1 (((μ, chg ν 1 6), (-7100 : Int32))).1.2 a A1, []) ∧ kp ν Ad A1))) (fun _ _ _ => False) (kc (((μ, chg ν 1 6), (-7100 : Int32))).1.2 - kc ν) (ks (((μ, chg ν 1 6), (-7100 : Int32))).1.2 - ks ν) (Aof (zS μ ν a Ad) [] sz) := by
  have k1 := kc_chg ν 1 6; have k2 := ks_chg ν 1 6
  intro D E sz
  refine g_ofH (cc := cL_done) (maxL := 5) (ret := some .int) (hh := [(0, 7, 10, 24)]) (own := "TradeLineLaw") (by decide) rfl rfl (Nat.le_of_ble_eq_true rfl) ?_
  intro p e s m args below meth c C hr hT hz hEv hN
  refine g_lv (lv' := [(0, .ref (Ad 0 0)), (1, .int x1), (2, .int x2)]) [0, 1, 2] rfl ?_
  refine g_aload_n C dL_done_0 rfl 0 rfl ?_
  refine g_iload_n C dL_done_1 rfl 1 rfl ?_
  refine g_iload_n C dL_done_2 rfl 2 rfl ?_
  refine g_hc (n := 1) (index := 2) C hEv ⟨rfl, rfl⟩ hN [_, _] _ rfl rfl (fun sz => x_X8_done l hl B μ ν a Ad w x1 x2 0 r0 h D E sz) rfl gw_1349 gw_1 gw_1346 gw_1347 gw_1348 ⟨by decide +kernel, by decide +kernel, by decide +kernel⟩ ⟨rfl, rfl⟩ ⟨Nat.le_of_ble_eq_true rfl, Nat.le_of_ble_eq_true rfl⟩ (rcvT ⟨h0, fun e => absurd e (by decide)⟩ rfl rfl rfl) (Nat.le_of_ble_eq_true rfl) dL_done_3 ⟨by show 1 ≤ kc (chg ν 1 6) - kc ν; omega, by show 6 ≤ ks (chg ν 1 6) - ks ν; omega⟩ [] ⟨0, 7, 10, 24⟩ [] hT (fun z hz => absurd hz (by simp)) (by decide) (by decide) gw_473 (by decide) rfl (fun q9 => ?_)
  refine g_chg 1 6 ?_
  refine g_widen (k := kc (chg ν 1 6) - kc ν) (n := ks (chg ν 1 6) - ks ν) (by omega) (by omega) ?_
  refine g_astore (lv' := [(4, .ref q9), (0, .ref (Ad 0 0)), (1, .int x1), (2, .int x2)]) C dL_done_10 (by decide) rfl ?_
  refine g_sipush (v := (-7100 : Int32)) C dL_done_12 (by decide) ?_
  refine g_vx ?_
  exact g_iret C hr rfl hz ⟨rfl, rfl, fun _ => rfl, fun _ => rfl⟩ ⟨rfl, Ad, rfl, kp_rfl _ _⟩ (fun j x h => by simp at h) dL_done_15
theorem m_L_done {w : Nat} {μ : MP} {ν : NC} {x1 : Int32} {x2 : Int32} {r0 : (MP × NC) × Int32} (h : f_L_done w μ ν x1 x2 = some r0) : mn ν r0.1.2 := by
  unfold f_L_done at h
  obtain ⟨⟨t, r⟩, h1, h⟩ := bind_of h
  by_cases c0 : t = 0
  · subst c0
    obtain rfl := Option.some.inj ((if_pos rfl).symm.trans h)
    exact mn_rfl _
  · replace h := (if_neg c0).symm.trans h
    by_cases c1 : t = 1
    · subst c1
      obtain rfl := Option.some.inj ((if_pos rfl).symm.trans h)
      exact mn_chg _ _ _
    replace h := (if_neg c1).symm.trans h
    exact absurd h (by simp)
theorem c_L_done (l : Launch) (hl : l.stackTraces = false) (B : Nat × (Nat → Nat)) (μ : MP) (ν : NC) (a : AS) (Ad : Nat → Nat → Nat) (w : Nat) (x1 : Int32) (x2 : Int32) (r0 : (MP × NC) × Int32) (h : f_L_done w μ ν x1 x2 = some r0) (h0 : 0 < ν.2 0) : ∀ D E sz, vx_Met l yL_done gwL_done ({ frames := 8, cells := kc (r0).1.2 - kc ν, slots := ks (r0).1.2 - ks ν, locals := 147 } : Room) (cPh D E sz B (zS μ ν a Ad) [.ref (Ad 0 0), .int x1, .int x2]) (cQ D E sz (zS μ ν a Ad) [] (pI (fun r u => r = (r0).2 ∧ ∃ A1, u = (zS (r0).1.1 (r0).1.2 a A1, []) ∧ kp ν Ad A1))) (fun _ _ _ => False) (kc (r0).1.2 - kc ν) (ks (r0).1.2 - ks ν) (Aof (zS μ ν a Ad) [] sz) := by
  unfold f_L_done at h
  obtain ⟨⟨t, r⟩, h1, h⟩ := bind_of h
  by_cases c0 : t = 0
  · subst c0
    obtain rfl := Option.some.inj ((if_pos rfl).symm.trans h)
    exact r_L_done l hl B μ ν a Ad w x1 x2 r h1 h0
  · replace h := (if_neg c0).symm.trans h
    by_cases c1 : t = 1
    · subst c1
      obtain rfl := Option.some.inj ((if_pos rfl).symm.trans h)
      exact e1_L_done l hl B μ ν a Ad w x1 x2 r h1 h0
    replace h := (if_neg c1).symm.trans h
    exact absurd h (by simp)
noncomputable def f_L_doneByLog (w : Nat) (μ : MP) (ν : NC) (x1 : Int32) (x2 : Int32) : Option ((MP × NC) × Int32) := (f_X8_doneByLog w μ ν x1 x2).bind (fun r => if r.1 = 0 then some (((μ, ν), r.2)) else if r.1 = 1 then some ((μ, chg ν 1 6), (-7100 : Int32)) else none)
set_option maxHeartbeats 4000000 in
set_option maxRecDepth 100000 in
theorem r_L_doneByLog (l : Launch) (hl : l.stackTraces = false) (B : Nat × (Nat → Nat)) (μ : MP) (ν : NC) (a : AS) (Ad : Nat → Nat → Nat) (w : Nat) (x1 : Int32) (x2 : Int32) (r0 : Int32) (h : f_X8_doneByLog w μ ν x1 x2 = some (0, r0)) (h0 : 0 < ν.2 0) : ∀ D E sz, vx_Met l yL_doneByLog gwL_doneByLog ({ frames := 8, cells := kc (((μ, ν), r0)).1.2 - kc ν, slots := ks (((μ, ν), r0)).1.2 - ks ν, locals := 150 } : Room) (cPh D E sz B (zS μ ν a Ad) [.ref (Ad 0 0), .int x1, .int x2]) (cQ D E sz (zS μ ν a Ad) [] (pI (fun r u => r = (((μ, ν), r0)).2 ∧ ∃ A1, u = (zS (((μ, ν), r0)).1.1 (((μ, ν), r0)).1.2 a A1, []) ∧ kp ν Ad A1))) (fun _ _ _ => False) (kc (((μ, ν), r0)).1.2 - kc ν) (ks (((μ, ν), r0)).1.2 - ks ν) (Aof (zS μ ν a Ad) [] sz) := by
  intro D E sz
  refine g_ofH (cc := cL_doneByLog) (maxL := 5) (ret := some .int) (hh := [(0, 7, 10, 24)]) (own := "TradeLineLaw") (by decide) rfl rfl (Nat.le_of_ble_eq_true rfl) ?_
  intro p e s m args below meth c C hr hT hz hEv hN
  refine g_vx ?_
  refine g_lv (lv' := [(0, .ref (Ad 0 0)), (1, .int x1), (2, .int x2)]) [0, 1, 2] rfl ?_
  refine g_aload_n C dL_doneByLog_0 rfl 0 rfl ?_
  refine g_iload_n C dL_doneByLog_1 rfl 1 rfl ?_
  refine g_iload_n C dL_doneByLog_2 rfl 2 rfl ?_
  refine g_cVi (n := 2) (exc := []) (exr := []) C [_, _] _ rfl rfl [] [] rfl rfl rfl rfl (fun _ h => absurd h (by simp)) (fun _ h => absurd h (by simp)) (fun _ h => absurd h (by simp)) (fun sz => c_X8_doneByLog l μ ν a Ad w x1 x2 r0 h D E sz) rfl gw_1357 gw_1 gw_1354 gw_1355 gw_1356 ⟨by decide +kernel, by decide +kernel, by decide +kernel⟩ ⟨rfl, rfl⟩ ⟨Nat.le_of_ble_eq_true rfl, Nat.le_of_ble_eq_true rfl⟩ (rcvT ⟨h0, fun e => absurd e (by decide)⟩ rfl rfl rfl) (Nat.le_of_ble_eq_true rfl) dL_doneByLog_3 ⟨Nat.zero_le _, Nat.zero_le _⟩ (fun r u hp hx => ?_)
  obtain ⟨er, rfl⟩ := hp
  rw [er]
  try dsimp only [List.append_nil]
  refine g_widen (k := kc ν - kc ν) (n := ks ν - ks ν) (Nat.zero_le _) (Nat.zero_le _) ?_
  refine g_istore_n (lv' := [(3, .int r0), (0, .ref (Ad 0 0)), (1, .int x1), (2, .int x2)]) C dL_doneByLog_6 rfl (by decide) rfl ?_
  refine g_goto (tgt := 16) C dL_doneByLog_7 (by decide) ?_
  refine g_iload_n C dL_doneByLog_16 rfl 0 rfl ?_
  exact g_iret C hr rfl hz ⟨rfl, rfl, fun _ => rfl, fun _ => rfl⟩ ⟨rfl, Ad, rfl, kp_rfl _ _⟩ (fun j x h => by simp at h) dL_doneByLog_17
set_option maxHeartbeats 4000000 in
set_option maxRecDepth 100000 in
theorem e1_L_doneByLog (l : Launch) (hl : l.stackTraces = false) (B : Nat × (Nat → Nat)) (μ : MP) (ν : NC) (a : AS) (Ad : Nat → Nat → Nat) (w : Nat) (x1 : Int32) (x2 : Int32) (r0 : Int32) (h : f_X8_doneByLog w μ ν x1 x2 = some (1, r0)) (h0 : 0 < ν.2 0) : ∀ D E sz, vx_Met l yL_doneByLog gwL_doneByLog ({ frames := 8, cells := kc (((μ, chg ν 1 6), (-7100 : Int32))).1.2 - kc ν, slots := ks (((μ, chg ν 1 6), (-7100 : Int32))).1.2 - ks ν, locals := 150 } : Room) (cPh D E sz B (zS μ ν a Ad) [.ref (Ad 0 0), .int x1, .int x2]) (cQ D E sz (zS μ ν a Ad) [] (pI (fun r u => r = (((μ, chg ν 1 6), (-7100 : Int32))).2 ∧ ∃ A1, u = (zS (((μ, chg ν 1 6), (-7100 : Int32))).1.1 (((μ, chg ν 1 6), (-7100 : Int32))).1.2 a A1, []) ∧ kp ν Ad A1))) (fun _ _ _ => False) (kc (((μ, chg ν 1 6), (-7100 : Int32))).1.2 - kc ν) (ks (((μ, chg ν 1 6), (-7100 : Int32))).1.2 - ks ν) (Aof (zS μ ν a Ad) [] sz) := by
  have k1 := kc_chg ν 1 6; have k2 := ks_chg ν 1 6
  intro D E sz
  refine g_ofH (cc := cL_doneByLog) (maxL := 5) (ret := some .int) (hh := [(0, 7, 10, 24)]) (own := "TradeLineLaw") (by decide) rfl rfl (Nat.le_of_ble_eq_true rfl) ?_
  intro p e s m args below meth c C hr hT hz hEv hN
  refine g_lv (lv' := [(0, .ref (Ad 0 0)), (1, .int x1), (2, .int x2)]) [0, 1, 2] rfl ?_
  refine g_aload_n C dL_doneByLog_0 rfl 0 rfl ?_
  refine g_iload_n C dL_doneByLog_1 rfl 1 rfl ?_
  refine g_iload_n C dL_doneByLog_2 rfl 2 rfl ?_
  refine g_hc (n := 1) (index := 2) C hEv ⟨rfl, rfl⟩ hN [_, _] _ rfl rfl (fun sz => x_X8_doneByLog l hl B μ ν a Ad w x1 x2 0 r0 h D E sz) rfl gw_1357 gw_1 gw_1354 gw_1355 gw_1356 ⟨by decide +kernel, by decide +kernel, by decide +kernel⟩ ⟨rfl, rfl⟩ ⟨Nat.le_of_ble_eq_true rfl, Nat.le_of_ble_eq_true rfl⟩ (rcvT ⟨h0, fun e => absurd e (by decide)⟩ rfl rfl rfl) (Nat.le_of_ble_eq_true rfl) dL_doneByLog_3 ⟨by show 1 ≤ kc (chg ν 1 6) - kc ν; omega, by show 6 ≤ ks (chg ν 1 6) - ks ν; omega⟩ [] ⟨0, 7, 10, 24⟩ [] hT (fun z hz => absurd hz (by simp)) (by decide) (by decide) gw_473 (by decide) rfl (fun q9 => ?_)
  refine g_chg 1 6 ?_
  refine g_widen (k := kc (chg ν 1 6) - kc ν) (n := ks (chg ν 1 6) - ks ν) (by omega) (by omega) ?_
  refine g_astore (lv' := [(4, .ref q9), (0, .ref (Ad 0 0)), (1, .int x1), (2, .int x2)]) C dL_doneByLog_10 (by decide) rfl ?_
  refine g_sipush (v := (-7100 : Int32)) C dL_doneByLog_12 (by decide) ?_
  refine g_vx ?_
  exact g_iret C hr rfl hz ⟨rfl, rfl, fun _ => rfl, fun _ => rfl⟩ ⟨rfl, Ad, rfl, kp_rfl _ _⟩ (fun j x h => by simp at h) dL_doneByLog_15
theorem m_L_doneByLog {w : Nat} {μ : MP} {ν : NC} {x1 : Int32} {x2 : Int32} {r0 : (MP × NC) × Int32} (h : f_L_doneByLog w μ ν x1 x2 = some r0) : mn ν r0.1.2 := by
  unfold f_L_doneByLog at h
  obtain ⟨⟨t, r⟩, h1, h⟩ := bind_of h
  by_cases c0 : t = 0
  · subst c0
    obtain rfl := Option.some.inj ((if_pos rfl).symm.trans h)
    exact mn_rfl _
  · replace h := (if_neg c0).symm.trans h
    by_cases c1 : t = 1
    · subst c1
      obtain rfl := Option.some.inj ((if_pos rfl).symm.trans h)
      exact mn_chg _ _ _
    replace h := (if_neg c1).symm.trans h
    exact absurd h (by simp)
theorem c_L_doneByLog (l : Launch) (hl : l.stackTraces = false) (B : Nat × (Nat → Nat)) (μ : MP) (ν : NC) (a : AS) (Ad : Nat → Nat → Nat) (w : Nat) (x1 : Int32) (x2 : Int32) (r0 : (MP × NC) × Int32) (h : f_L_doneByLog w μ ν x1 x2 = some r0) (h0 : 0 < ν.2 0) : ∀ D E sz, vx_Met l yL_doneByLog gwL_doneByLog ({ frames := 8, cells := kc (r0).1.2 - kc ν, slots := ks (r0).1.2 - ks ν, locals := 150 } : Room) (cPh D E sz B (zS μ ν a Ad) [.ref (Ad 0 0), .int x1, .int x2]) (cQ D E sz (zS μ ν a Ad) [] (pI (fun r u => r = (r0).2 ∧ ∃ A1, u = (zS (r0).1.1 (r0).1.2 a A1, []) ∧ kp ν Ad A1))) (fun _ _ _ => False) (kc (r0).1.2 - kc ν) (ks (r0).1.2 - ks ν) (Aof (zS μ ν a Ad) [] sz) := by
  unfold f_L_doneByLog at h
  obtain ⟨⟨t, r⟩, h1, h⟩ := bind_of h
  by_cases c0 : t = 0
  · subst c0
    obtain rfl := Option.some.inj ((if_pos rfl).symm.trans h)
    exact r_L_doneByLog l hl B μ ν a Ad w x1 x2 r h1 h0
  · replace h := (if_neg c0).symm.trans h
    by_cases c1 : t = 1
    · subst c1
      obtain rfl := Option.some.inj ((if_pos rfl).symm.trans h)
      exact e1_L_doneByLog l hl B μ ν a Ad w x1 x2 r h1 h0
    replace h := (if_neg c1).symm.trans h
    exact absurd h (by simp)
noncomputable def f_L_out (w : Nat) (μ : MP) (ν : NC) (x1 : Int32) (x2 : Int32) : Option ((MP × NC) × Int32) := (f_X8_out w μ ν x1 x2).bind (fun r => if r.1 = 0 then some (((μ, ν), r.2)) else if r.1 = 1 then some ((μ, chg ν 1 6), (-7100 : Int32)) else none)
set_option maxHeartbeats 4000000 in
set_option maxRecDepth 100000 in
theorem r_L_out (l : Launch) (hl : l.stackTraces = false) (B : Nat × (Nat → Nat)) (μ : MP) (ν : NC) (a : AS) (Ad : Nat → Nat → Nat) (w : Nat) (x1 : Int32) (x2 : Int32) (r0 : Int32) (h : f_X8_out w μ ν x1 x2 = some (0, r0)) (h0 : 0 < ν.2 0) : ∀ D E sz, vx_Met l yL_out gwL_out ({ frames := 8, cells := kc (((μ, ν), r0)).1.2 - kc ν, slots := ks (((μ, ν), r0)).1.2 - ks ν, locals := 147 } : Room) (cPh D E sz B (zS μ ν a Ad) [.ref (Ad 0 0), .int x1, .int x2]) (cQ D E sz (zS μ ν a Ad) [] (pI (fun r u => r = (((μ, ν), r0)).2 ∧ ∃ A1, u = (zS (((μ, ν), r0)).1.1 (((μ, ν), r0)).1.2 a A1, []) ∧ kp ν Ad A1))) (fun _ _ _ => False) (kc (((μ, ν), r0)).1.2 - kc ν) (ks (((μ, ν), r0)).1.2 - ks ν) (Aof (zS μ ν a Ad) [] sz) := by
  intro D E sz
  refine g_ofH (cc := cL_out) (maxL := 5) (ret := some .int) (hh := [(0, 7, 10, 24)]) (own := "TradeLineLaw") (by decide) rfl rfl (Nat.le_of_ble_eq_true rfl) ?_
  intro p e s m args below meth c C hr hT hz hEv hN
  refine g_vx ?_
  refine g_lv (lv' := [(0, .ref (Ad 0 0)), (1, .int x1), (2, .int x2)]) [0, 1, 2] rfl ?_
  refine g_aload_n C dL_out_0 rfl 0 rfl ?_
  refine g_iload_n C dL_out_1 rfl 1 rfl ?_
  refine g_iload_n C dL_out_2 rfl 2 rfl ?_
  refine g_cVi (n := 2) (exc := []) (exr := []) C [_, _] _ rfl rfl [] [] rfl rfl rfl rfl (fun _ h => absurd h (by simp)) (fun _ h => absurd h (by simp)) (fun _ h => absurd h (by simp)) (fun sz => c_X8_out l μ ν a Ad w x1 x2 r0 h D E sz) rfl gw_1368 gw_1 gw_1365 gw_1366 gw_1367 ⟨by decide +kernel, by decide +kernel, by decide +kernel⟩ ⟨rfl, rfl⟩ ⟨Nat.le_of_ble_eq_true rfl, Nat.le_of_ble_eq_true rfl⟩ (rcvT ⟨h0, fun e => absurd e (by decide)⟩ rfl rfl rfl) (Nat.le_of_ble_eq_true rfl) dL_out_3 ⟨Nat.zero_le _, Nat.zero_le _⟩ (fun r u hp hx => ?_)
  obtain ⟨er, rfl⟩ := hp
  rw [er]
  try dsimp only [List.append_nil]
  refine g_widen (k := kc ν - kc ν) (n := ks ν - ks ν) (Nat.zero_le _) (Nat.zero_le _) ?_
  refine g_istore_n (lv' := [(3, .int r0), (0, .ref (Ad 0 0)), (1, .int x1), (2, .int x2)]) C dL_out_6 rfl (by decide) rfl ?_
  refine g_goto (tgt := 16) C dL_out_7 (by decide) ?_
  refine g_iload_n C dL_out_16 rfl 0 rfl ?_
  exact g_iret C hr rfl hz ⟨rfl, rfl, fun _ => rfl, fun _ => rfl⟩ ⟨rfl, Ad, rfl, kp_rfl _ _⟩ (fun j x h => by simp at h) dL_out_17
set_option maxHeartbeats 4000000 in
set_option maxRecDepth 100000 in
theorem e1_L_out (l : Launch) (hl : l.stackTraces = false) (B : Nat × (Nat → Nat)) (μ : MP) (ν : NC) (a : AS) (Ad : Nat → Nat → Nat) (w : Nat) (x1 : Int32) (x2 : Int32) (r0 : Int32) (h : f_X8_out w μ ν x1 x2 = some (1, r0)) (h0 : 0 < ν.2 0) : ∀ D E sz, vx_Met l yL_out gwL_out ({ frames := 8, cells := kc (((μ, chg ν 1 6), (-7100 : Int32))).1.2 - kc ν, slots := ks (((μ, chg ν 1 6), (-7100 : Int32))).1.2 - ks ν, locals := 147 } : Room) (cPh D E sz B (zS μ ν a Ad) [.ref (Ad 0 0), .int x1, .int x2]) (cQ D E sz (zS μ ν a Ad) [] (pI (fun r u => r = (((μ, chg ν 1 6), (-7100 : Int32))).2 ∧ ∃ A1, u = (zS (((μ, chg ν 1 6), (-7100 : Int32))).1.1 (((μ, chg ν 1 6), (-7100 : Int32))).1.2 a A1, []) ∧ kp ν Ad A1))) (fun _ _ _ => False) (kc (((μ, chg ν 1 6), (-7100 : Int32))).1.2 - kc ν) (ks (((μ, chg ν 1 6), (-7100 : Int32))).1.2 - ks ν) (Aof (zS μ ν a Ad) [] sz) := by
  have k1 := kc_chg ν 1 6; have k2 := ks_chg ν 1 6
  intro D E sz
  refine g_ofH (cc := cL_out) (maxL := 5) (ret := some .int) (hh := [(0, 7, 10, 24)]) (own := "TradeLineLaw") (by decide) rfl rfl (Nat.le_of_ble_eq_true rfl) ?_
  intro p e s m args below meth c C hr hT hz hEv hN
  refine g_lv (lv' := [(0, .ref (Ad 0 0)), (1, .int x1), (2, .int x2)]) [0, 1, 2] rfl ?_
  refine g_aload_n C dL_out_0 rfl 0 rfl ?_
  refine g_iload_n C dL_out_1 rfl 1 rfl ?_
  refine g_iload_n C dL_out_2 rfl 2 rfl ?_
  refine g_hc (n := 1) (index := 2) C hEv ⟨rfl, rfl⟩ hN [_, _] _ rfl rfl (fun sz => x_X8_out l hl B μ ν a Ad w x1 x2 0 r0 h D E sz) rfl gw_1368 gw_1 gw_1365 gw_1366 gw_1367 ⟨by decide +kernel, by decide +kernel, by decide +kernel⟩ ⟨rfl, rfl⟩ ⟨Nat.le_of_ble_eq_true rfl, Nat.le_of_ble_eq_true rfl⟩ (rcvT ⟨h0, fun e => absurd e (by decide)⟩ rfl rfl rfl) (Nat.le_of_ble_eq_true rfl) dL_out_3 ⟨by show 1 ≤ kc (chg ν 1 6) - kc ν; omega, by show 6 ≤ ks (chg ν 1 6) - ks ν; omega⟩ [] ⟨0, 7, 10, 24⟩ [] hT (fun z hz => absurd hz (by simp)) (by decide) (by decide) gw_473 (by decide) rfl (fun q9 => ?_)
  refine g_chg 1 6 ?_
  refine g_widen (k := kc (chg ν 1 6) - kc ν) (n := ks (chg ν 1 6) - ks ν) (by omega) (by omega) ?_
  refine g_astore (lv' := [(4, .ref q9), (0, .ref (Ad 0 0)), (1, .int x1), (2, .int x2)]) C dL_out_10 (by decide) rfl ?_
  refine g_sipush (v := (-7100 : Int32)) C dL_out_12 (by decide) ?_
  refine g_vx ?_
  exact g_iret C hr rfl hz ⟨rfl, rfl, fun _ => rfl, fun _ => rfl⟩ ⟨rfl, Ad, rfl, kp_rfl _ _⟩ (fun j x h => by simp at h) dL_out_15
theorem m_L_out {w : Nat} {μ : MP} {ν : NC} {x1 : Int32} {x2 : Int32} {r0 : (MP × NC) × Int32} (h : f_L_out w μ ν x1 x2 = some r0) : mn ν r0.1.2 := by
  unfold f_L_out at h
  obtain ⟨⟨t, r⟩, h1, h⟩ := bind_of h
  by_cases c0 : t = 0
  · subst c0
    obtain rfl := Option.some.inj ((if_pos rfl).symm.trans h)
    exact mn_rfl _
  · replace h := (if_neg c0).symm.trans h
    by_cases c1 : t = 1
    · subst c1
      obtain rfl := Option.some.inj ((if_pos rfl).symm.trans h)
      exact mn_chg _ _ _
    replace h := (if_neg c1).symm.trans h
    exact absurd h (by simp)
theorem c_L_out (l : Launch) (hl : l.stackTraces = false) (B : Nat × (Nat → Nat)) (μ : MP) (ν : NC) (a : AS) (Ad : Nat → Nat → Nat) (w : Nat) (x1 : Int32) (x2 : Int32) (r0 : (MP × NC) × Int32) (h : f_L_out w μ ν x1 x2 = some r0) (h0 : 0 < ν.2 0) : ∀ D E sz, vx_Met l yL_out gwL_out ({ frames := 8, cells := kc (r0).1.2 - kc ν, slots := ks (r0).1.2 - ks ν, locals := 147 } : Room) (cPh D E sz B (zS μ ν a Ad) [.ref (Ad 0 0), .int x1, .int x2]) (cQ D E sz (zS μ ν a Ad) [] (pI (fun r u => r = (r0).2 ∧ ∃ A1, u = (zS (r0).1.1 (r0).1.2 a A1, []) ∧ kp ν Ad A1))) (fun _ _ _ => False) (kc (r0).1.2 - kc ν) (ks (r0).1.2 - ks ν) (Aof (zS μ ν a Ad) [] sz) := by
  unfold f_L_out at h
  obtain ⟨⟨t, r⟩, h1, h⟩ := bind_of h
  by_cases c0 : t = 0
  · subst c0
    obtain rfl := Option.some.inj ((if_pos rfl).symm.trans h)
    exact r_L_out l hl B μ ν a Ad w x1 x2 r h1 h0
  · replace h := (if_neg c0).symm.trans h
    by_cases c1 : t = 1
    · subst c1
      obtain rfl := Option.some.inj ((if_pos rfl).symm.trans h)
      exact e1_L_out l hl B μ ν a Ad w x1 x2 r h1 h0
    replace h := (if_neg c1).symm.trans h
    exact absurd h (by simp)
noncomputable def f_L_quoted (w : Nat) (μ : MP) (ν : NC) (x1 : Int32) (x2 : Int32) : Option ((MP × NC) × Int32) := (f_X8_quoted w μ ν x1 x2).bind (fun r => if r.1 = 0 then some (((μ, ν), r.2)) else if r.1 = 1 then some ((μ, chg ν 1 6), (-7100 : Int32)) else none)
set_option maxHeartbeats 4000000 in
set_option maxRecDepth 100000 in
theorem r_L_quoted (l : Launch) (hl : l.stackTraces = false) (B : Nat × (Nat → Nat)) (μ : MP) (ν : NC) (a : AS) (Ad : Nat → Nat → Nat) (w : Nat) (x1 : Int32) (x2 : Int32) (r0 : Int32) (h : f_X8_quoted w μ ν x1 x2 = some (0, r0)) (h0 : 0 < ν.2 0) : ∀ D E sz, vx_Met l yL_quoted gwL_quoted ({ frames := 8, cells := kc (((μ, ν), r0)).1.2 - kc ν, slots := ks (((μ, ν), r0)).1.2 - ks ν, locals := 145 } : Room) (cPh D E sz B (zS μ ν a Ad) [.ref (Ad 0 0), .int x1, .int x2]) (cQ D E sz (zS μ ν a Ad) [] (pI (fun r u => r = (((μ, ν), r0)).2 ∧ ∃ A1, u = (zS (((μ, ν), r0)).1.1 (((μ, ν), r0)).1.2 a A1, []) ∧ kp ν Ad A1))) (fun _ _ _ => False) (kc (((μ, ν), r0)).1.2 - kc ν) (ks (((μ, ν), r0)).1.2 - ks ν) (Aof (zS μ ν a Ad) [] sz) := by
  intro D E sz
  refine g_ofH (cc := cL_quoted) (maxL := 5) (ret := some .int) (hh := [(0, 7, 10, 24)]) (own := "TradeLineLaw") (by decide) rfl rfl (Nat.le_of_ble_eq_true rfl) ?_
  intro p e s m args below meth c C hr hT hz hEv hN
  refine g_vx ?_
  refine g_lv (lv' := [(0, .ref (Ad 0 0)), (1, .int x1), (2, .int x2)]) [0, 1, 2] rfl ?_
  refine g_aload_n C dL_quoted_0 rfl 0 rfl ?_
  refine g_iload_n C dL_quoted_1 rfl 1 rfl ?_
  refine g_iload_n C dL_quoted_2 rfl 2 rfl ?_
  refine g_cVi (n := 2) (exc := []) (exr := []) C [_, _] _ rfl rfl [] [] rfl rfl rfl rfl (fun _ h => absurd h (by simp)) (fun _ h => absurd h (by simp)) (fun _ h => absurd h (by simp)) (fun sz => c_X8_quoted l μ ν a Ad w x1 x2 r0 h D E sz) rfl gw_1375 gw_1 gw_1372 gw_1373 gw_1374 ⟨by decide +kernel, by decide +kernel, by decide +kernel⟩ ⟨rfl, rfl⟩ ⟨Nat.le_of_ble_eq_true rfl, Nat.le_of_ble_eq_true rfl⟩ (rcvT ⟨h0, fun e => absurd e (by decide)⟩ rfl rfl rfl) (Nat.le_of_ble_eq_true rfl) dL_quoted_3 ⟨Nat.zero_le _, Nat.zero_le _⟩ (fun r u hp hx => ?_)
  obtain ⟨er, rfl⟩ := hp
  rw [er]
  try dsimp only [List.append_nil]
  refine g_widen (k := kc ν - kc ν) (n := ks ν - ks ν) (Nat.zero_le _) (Nat.zero_le _) ?_
  refine g_istore_n (lv' := [(3, .int r0), (0, .ref (Ad 0 0)), (1, .int x1), (2, .int x2)]) C dL_quoted_6 rfl (by decide) rfl ?_
  refine g_goto (tgt := 16) C dL_quoted_7 (by decide) ?_
  refine g_iload_n C dL_quoted_16 rfl 0 rfl ?_
  exact g_iret C hr rfl hz ⟨rfl, rfl, fun _ => rfl, fun _ => rfl⟩ ⟨rfl, Ad, rfl, kp_rfl _ _⟩ (fun j x h => by simp at h) dL_quoted_17
set_option maxHeartbeats 4000000 in
set_option maxRecDepth 100000 in
theorem e1_L_quoted (l : Launch) (hl : l.stackTraces = false) (B : Nat × (Nat → Nat)) (μ : MP) (ν : NC) (a : AS) (Ad : Nat → Nat → Nat) (w : Nat) (x1 : Int32) (x2 : Int32) (r0 : Int32) (h : f_X8_quoted w μ ν x1 x2 = some (1, r0)) (h0 : 0 < ν.2 0) : ∀ D E sz, vx_Met l yL_quoted gwL_quoted ({ frames := 8, cells := kc (((μ, chg ν 1 6), (-7100 : Int32))).1.2 - kc ν, slots := ks (((μ, chg ν 1 6), (-7100 : Int32))).1.2 - ks ν, locals := 145 } : Room) (cPh D E sz B (zS μ ν a Ad) [.ref (Ad 0 0), .int x1, .int x2]) (cQ D E sz (zS μ ν a Ad) [] (pI (fun r u => r = (((μ, chg ν 1 6), (-7100 : Int32))).2 ∧ ∃ A1, u = (zS (((μ, chg ν 1 6), (-7100 : Int32))).1.1 (((μ, chg ν 1 6), (-7100 : Int32))).1.2 a A1, []) ∧ kp ν Ad A1))) (fun _ _ _ => False) (kc (((μ, chg ν 1 6), (-7100 : Int32))).1.2 - kc ν) (ks (((μ, chg ν 1 6), (-7100 : Int32))).1.2 - ks ν) (Aof (zS μ ν a Ad) [] sz) := by
  have k1 := kc_chg ν 1 6; have k2 := ks_chg ν 1 6
  intro D E sz
  refine g_ofH (cc := cL_quoted) (maxL := 5) (ret := some .int) (hh := [(0, 7, 10, 24)]) (own := "TradeLineLaw") (by decide) rfl rfl (Nat.le_of_ble_eq_true rfl) ?_
  intro p e s m args below meth c C hr hT hz hEv hN
  refine g_lv (lv' := [(0, .ref (Ad 0 0)), (1, .int x1), (2, .int x2)]) [0, 1, 2] rfl ?_
  refine g_aload_n C dL_quoted_0 rfl 0 rfl ?_
  refine g_iload_n C dL_quoted_1 rfl 1 rfl ?_
  refine g_iload_n C dL_quoted_2 rfl 2 rfl ?_
  refine g_hc (n := 1) (index := 2) C hEv ⟨rfl, rfl⟩ hN [_, _] _ rfl rfl (fun sz => x_X8_quoted l hl B μ ν a Ad w x1 x2 0 r0 h D E sz) rfl gw_1375 gw_1 gw_1372 gw_1373 gw_1374 ⟨by decide +kernel, by decide +kernel, by decide +kernel⟩ ⟨rfl, rfl⟩ ⟨Nat.le_of_ble_eq_true rfl, Nat.le_of_ble_eq_true rfl⟩ (rcvT ⟨h0, fun e => absurd e (by decide)⟩ rfl rfl rfl) (Nat.le_of_ble_eq_true rfl) dL_quoted_3 ⟨by show 1 ≤ kc (chg ν 1 6) - kc ν; omega, by show 6 ≤ ks (chg ν 1 6) - ks ν; omega⟩ [] ⟨0, 7, 10, 24⟩ [] hT (fun z hz => absurd hz (by simp)) (by decide) (by decide) gw_473 (by decide) rfl (fun q9 => ?_)
  refine g_chg 1 6 ?_
  refine g_widen (k := kc (chg ν 1 6) - kc ν) (n := ks (chg ν 1 6) - ks ν) (by omega) (by omega) ?_
  refine g_astore (lv' := [(4, .ref q9), (0, .ref (Ad 0 0)), (1, .int x1), (2, .int x2)]) C dL_quoted_10 (by decide) rfl ?_
  refine g_sipush (v := (-7100 : Int32)) C dL_quoted_12 (by decide) ?_
  refine g_vx ?_
  exact g_iret C hr rfl hz ⟨rfl, rfl, fun _ => rfl, fun _ => rfl⟩ ⟨rfl, Ad, rfl, kp_rfl _ _⟩ (fun j x h => by simp at h) dL_quoted_15
theorem m_L_quoted {w : Nat} {μ : MP} {ν : NC} {x1 : Int32} {x2 : Int32} {r0 : (MP × NC) × Int32} (h : f_L_quoted w μ ν x1 x2 = some r0) : mn ν r0.1.2 := by
  unfold f_L_quoted at h
  obtain ⟨⟨t, r⟩, h1, h⟩ := bind_of h
  by_cases c0 : t = 0
  · subst c0
    obtain rfl := Option.some.inj ((if_pos rfl).symm.trans h)
    exact mn_rfl _
  · replace h := (if_neg c0).symm.trans h
    by_cases c1 : t = 1
    · subst c1
      obtain rfl := Option.some.inj ((if_pos rfl).symm.trans h)
      exact mn_chg _ _ _
    replace h := (if_neg c1).symm.trans h
    exact absurd h (by simp)
theorem c_L_quoted (l : Launch) (hl : l.stackTraces = false) (B : Nat × (Nat → Nat)) (μ : MP) (ν : NC) (a : AS) (Ad : Nat → Nat → Nat) (w : Nat) (x1 : Int32) (x2 : Int32) (r0 : (MP × NC) × Int32) (h : f_L_quoted w μ ν x1 x2 = some r0) (h0 : 0 < ν.2 0) : ∀ D E sz, vx_Met l yL_quoted gwL_quoted ({ frames := 8, cells := kc (r0).1.2 - kc ν, slots := ks (r0).1.2 - ks ν, locals := 145 } : Room) (cPh D E sz B (zS μ ν a Ad) [.ref (Ad 0 0), .int x1, .int x2]) (cQ D E sz (zS μ ν a Ad) [] (pI (fun r u => r = (r0).2 ∧ ∃ A1, u = (zS (r0).1.1 (r0).1.2 a A1, []) ∧ kp ν Ad A1))) (fun _ _ _ => False) (kc (r0).1.2 - kc ν) (ks (r0).1.2 - ks ν) (Aof (zS μ ν a Ad) [] sz) := by
  unfold f_L_quoted at h
  obtain ⟨⟨t, r⟩, h1, h⟩ := bind_of h
  by_cases c0 : t = 0
  · subst c0
    obtain rfl := Option.some.inj ((if_pos rfl).symm.trans h)
    exact r_L_quoted l hl B μ ν a Ad w x1 x2 r h1 h0
  · replace h := (if_neg c0).symm.trans h
    by_cases c1 : t = 1
    · subst c1
      obtain rfl := Option.some.inj ((if_pos rfl).symm.trans h)
      exact e1_L_quoted l hl B μ ν a Ad w x1 x2 r h1 h0
    replace h := (if_neg c1).symm.trans h
    exact absurd h (by simp)
noncomputable def f_L_total (w : Nat) (μ : MP) (ν : NC) (x1 : Int32) (x2 : Int32) (x3 : Int32) (x4 : Int32) : Option ((MP × NC) × Int32) := (f_X8_total w μ ν x1 x2 x3 x4).bind (fun r => if r.1 = 0 then some (((μ, ν), r.2)) else if r.1 = 1 then some ((μ, chg ν 1 6), (-7100 : Int32)) else if r.1 = 2 then some ((μ, chg ν 1 6), (-7200 : Int32)) else none)
set_option maxHeartbeats 4000000 in
set_option maxRecDepth 100000 in
theorem r_L_total (l : Launch) (hl : l.stackTraces = false) (B : Nat × (Nat → Nat)) (μ : MP) (ν : NC) (a : AS) (Ad : Nat → Nat → Nat) (w : Nat) (x1 : Int32) (x2 : Int32) (x3 : Int32) (x4 : Int32) (r0 : Int32) (h : f_X8_total w μ ν x1 x2 x3 x4 = some (0, r0)) (h0 : 0 < ν.2 0) : ∀ D E sz, vx_Met l yL_total gwL_total ({ frames := 8, cells := kc (((μ, ν), r0)).1.2 - kc ν, slots := ks (((μ, ν), r0)).1.2 - ks ν, locals := 149 } : Room) (cPh D E sz B (zS μ ν a Ad) [.ref (Ad 0 0), .int x1, .int x2, .int x3, .int x4]) (cQ D E sz (zS μ ν a Ad) [] (pI (fun r u => r = (((μ, ν), r0)).2 ∧ ∃ A1, u = (zS (((μ, ν), r0)).1.1 (((μ, ν), r0)).1.2 a A1, []) ∧ kp ν Ad A1))) (fun _ _ _ => False) (kc (((μ, ν), r0)).1.2 - kc ν) (ks (((μ, ν), r0)).1.2 - ks ν) (Aof (zS μ ν a Ad) [] sz) := by
  intro D E sz
  refine g_ofH (cc := cL_total) (maxL := 7) (ret := some .int) (hh := [(0, 11, 14, 24), (0, 11, 20, 26)]) (own := "TradeLineLaw") (by decide) rfl rfl (Nat.le_of_ble_eq_true rfl) ?_
  intro p e s m args below meth c C hr hT hz hEv hN
  refine g_vx ?_
  refine g_lv (lv' := [(0, .ref (Ad 0 0)), (1, .int x1), (2, .int x2), (3, .int x3), (4, .int x4)]) [0, 1, 2, 3, 4] rfl ?_
  refine g_aload_n C dL_total_0 rfl 0 rfl ?_
  refine g_iload_n C dL_total_1 rfl 1 rfl ?_
  refine g_iload_n C dL_total_2 rfl 2 rfl ?_
  refine g_iload_n C dL_total_3 rfl 3 rfl ?_
  refine g_iload C dL_total_4 4 rfl ?_
  refine g_cVi (n := 4) (exc := []) (exr := []) C [_, _, _, _] _ rfl rfl [] [] rfl rfl rfl rfl (fun _ h => absurd h (by simp)) (fun _ h => absurd h (by simp)) (fun _ h => absurd h (by simp)) (fun sz => c_X8_total l μ ν a Ad w x1 x2 x3 x4 r0 h D E sz) rfl gw_1382 gw_1 gw_1379 gw_1380 gw_1381 ⟨by decide +kernel, by decide +kernel, by decide +kernel⟩ ⟨rfl, rfl⟩ ⟨Nat.le_of_ble_eq_true rfl, Nat.le_of_ble_eq_true rfl⟩ (rcvT ⟨h0, fun e => absurd e (by decide)⟩ rfl rfl rfl) (Nat.le_of_ble_eq_true rfl) dL_total_6 ⟨Nat.zero_le _, Nat.zero_le _⟩ (fun r u hp hx => ?_)
  obtain ⟨er, rfl⟩ := hp
  rw [er]
  try dsimp only [List.append_nil]
  refine g_widen (k := kc ν - kc ν) (n := ks ν - ks ν) (Nat.zero_le _) (Nat.zero_le _) ?_
  refine g_istore (lv' := [(5, .int r0), (0, .ref (Ad 0 0)), (1, .int x1), (2, .int x2), (3, .int x3), (4, .int x4)]) C dL_total_9 (by decide) rfl ?_
  refine g_goto (tgt := 26) C dL_total_11 (by decide) ?_
  refine g_iload C dL_total_26 0 rfl ?_
  exact g_iret C hr rfl hz ⟨rfl, rfl, fun _ => rfl, fun _ => rfl⟩ ⟨rfl, Ad, rfl, kp_rfl _ _⟩ (fun j x h => by simp at h) dL_total_28
set_option maxHeartbeats 4000000 in
set_option maxRecDepth 100000 in
theorem e1_L_total (l : Launch) (hl : l.stackTraces = false) (B : Nat × (Nat → Nat)) (μ : MP) (ν : NC) (a : AS) (Ad : Nat → Nat → Nat) (w : Nat) (x1 : Int32) (x2 : Int32) (x3 : Int32) (x4 : Int32) (r0 : Int32) (h : f_X8_total w μ ν x1 x2 x3 x4 = some (1, r0)) (h0 : 0 < ν.2 0) : ∀ D E sz, vx_Met l yL_total gwL_total ({ frames := 8, cells := kc (((μ, chg ν 1 6), (-7100 : Int32))).1.2 - kc ν, slots := ks (((μ, chg ν 1 6), (-7100 : Int32))).1.2 - ks ν, locals := 149 } : Room) (cPh D E sz B (zS μ ν a Ad) [.ref (Ad 0 0), .int x1, .int x2, .int x3, .int x4]) (cQ D E sz (zS μ ν a Ad) [] (pI (fun r u => r = (((μ, chg ν 1 6), (-7100 : Int32))).2 ∧ ∃ A1, u = (zS (((μ, chg ν 1 6), (-7100 : Int32))).1.1 (((μ, chg ν 1 6), (-7100 : Int32))).1.2 a A1, []) ∧ kp ν Ad A1))) (fun _ _ _ => False) (kc (((μ, chg ν 1 6), (-7100 : Int32))).1.2 - kc ν) (ks (((μ, chg ν 1 6), (-7100 : Int32))).1.2 - ks ν) (Aof (zS μ ν a Ad) [] sz) := by
  have k1 := kc_chg ν 1 6; have k2 := ks_chg ν 1 6
  intro D E sz
  refine g_ofH (cc := cL_total) (maxL := 7) (ret := some .int) (hh := [(0, 11, 14, 24), (0, 11, 20, 26)]) (own := "TradeLineLaw") (by decide) rfl rfl (Nat.le_of_ble_eq_true rfl) ?_
  intro p e s m args below meth c C hr hT hz hEv hN
  refine g_lv (lv' := [(0, .ref (Ad 0 0)), (1, .int x1), (2, .int x2), (3, .int x3), (4, .int x4)]) [0, 1, 2, 3, 4] rfl ?_
  refine g_aload_n C dL_total_0 rfl 0 rfl ?_
  refine g_iload_n C dL_total_1 rfl 1 rfl ?_
  refine g_iload_n C dL_total_2 rfl 2 rfl ?_
  refine g_iload_n C dL_total_3 rfl 3 rfl ?_
  refine g_iload C dL_total_4 4 rfl ?_
  refine g_hc (n := 1) (index := 4) C hEv ⟨rfl, rfl⟩ hN [_, _, _, _] _ rfl rfl (fun sz => x_X8_total l hl B μ ν a Ad w x1 x2 x3 x4 0 r0 h D E sz) rfl gw_1382 gw_1 gw_1379 gw_1380 gw_1381 ⟨by decide +kernel, by decide +kernel, by decide +kernel⟩ ⟨rfl, rfl⟩ ⟨Nat.le_of_ble_eq_true rfl, Nat.le_of_ble_eq_true rfl⟩ (rcvT ⟨h0, fun e => absurd e (by decide)⟩ rfl rfl rfl) (Nat.le_of_ble_eq_true rfl) dL_total_6 ⟨by show 1 ≤ kc (chg ν 1 6) - kc ν; omega, by show 6 ≤ ks (chg ν 1 6) - ks ν; omega⟩ [] ⟨0, 11, 14, 24⟩ [⟨0, 11, 20, 26⟩] hT (fun z hz => absurd hz (by simp)) (by decide) (by decide) gw_473 (by decide) rfl (fun q9 => ?_)
  refine g_chg 1 6 ?_
  refine g_widen (k := kc (chg ν 1 6) - kc ν) (n := ks (chg ν 1 6) - ks ν) (by omega) (by omega) ?_
  refine g_astore (lv' := [(6, .ref q9), (0, .ref (Ad 0 0)), (1, .int x1), (2, .int x2), (3, .int x3), (4, .int x4)]) C dL_total_14 (by decide) rfl ?_
  refine g_sipush (v := (-7100 : Int32)) C dL_total_16 (by decide) ?_
  refine g_vx ?_
  exact g_iret C hr rfl hz ⟨rfl, rfl, fun _ => rfl, fun _ => rfl⟩ ⟨rfl, Ad, rfl, kp_rfl _ _⟩ (fun j x h => by simp at h) dL_total_19
set_option maxHeartbeats 4000000 in
set_option maxRecDepth 100000 in
theorem e2_L_total (l : Launch) (hl : l.stackTraces = false) (B : Nat × (Nat → Nat)) (μ : MP) (ν : NC) (a : AS) (Ad : Nat → Nat → Nat) (w : Nat) (x1 : Int32) (x2 : Int32) (x3 : Int32) (x4 : Int32) (r0 : Int32) (h : f_X8_total w μ ν x1 x2 x3 x4 = some (2, r0)) (h0 : 0 < ν.2 0) : ∀ D E sz, vx_Met l yL_total gwL_total ({ frames := 8, cells := kc (((μ, chg ν 1 6), (-7200 : Int32))).1.2 - kc ν, slots := ks (((μ, chg ν 1 6), (-7200 : Int32))).1.2 - ks ν, locals := 149 } : Room) (cPh D E sz B (zS μ ν a Ad) [.ref (Ad 0 0), .int x1, .int x2, .int x3, .int x4]) (cQ D E sz (zS μ ν a Ad) [] (pI (fun r u => r = (((μ, chg ν 1 6), (-7200 : Int32))).2 ∧ ∃ A1, u = (zS (((μ, chg ν 1 6), (-7200 : Int32))).1.1 (((μ, chg ν 1 6), (-7200 : Int32))).1.2 a A1, []) ∧ kp ν Ad A1))) (fun _ _ _ => False) (kc (((μ, chg ν 1 6), (-7200 : Int32))).1.2 - kc ν) (ks (((μ, chg ν 1 6), (-7200 : Int32))).1.2 - ks ν) (Aof (zS μ ν a Ad) [] sz) := by
  have k1 := kc_chg ν 1 6; have k2 := ks_chg ν 1 6
  intro D E sz
  refine g_ofH (cc := cL_total) (maxL := 7) (ret := some .int) (hh := [(0, 11, 14, 24), (0, 11, 20, 26)]) (own := "TradeLineLaw") (by decide) rfl rfl (Nat.le_of_ble_eq_true rfl) ?_
  intro p e s m args below meth c C hr hT hz hEv hN
  refine g_lv (lv' := [(0, .ref (Ad 0 0)), (1, .int x1), (2, .int x2), (3, .int x3), (4, .int x4)]) [0, 1, 2, 3, 4] rfl ?_
  refine g_aload_n C dL_total_0 rfl 0 rfl ?_
  refine g_iload_n C dL_total_1 rfl 1 rfl ?_
  refine g_iload_n C dL_total_2 rfl 2 rfl ?_
  refine g_iload_n C dL_total_3 rfl 3 rfl ?_
  refine g_iload C dL_total_4 4 rfl ?_
  refine g_hc (n := 2) (index := 4) C hEv ⟨rfl, rfl⟩ hN [_, _, _, _] _ rfl rfl (fun sz => x_X8_total l hl B μ ν a Ad w x1 x2 x3 x4 1 r0 h D E sz) rfl gw_1382 gw_1 gw_1379 gw_1380 gw_1381 ⟨by decide +kernel, by decide +kernel, by decide +kernel⟩ ⟨rfl, rfl⟩ ⟨Nat.le_of_ble_eq_true rfl, Nat.le_of_ble_eq_true rfl⟩ (rcvT ⟨h0, fun e => absurd e (by decide)⟩ rfl rfl rfl) (Nat.le_of_ble_eq_true rfl) dL_total_6 ⟨by show 1 ≤ kc (chg ν 1 6) - kc ν; omega, by show 6 ≤ ks (chg ν 1 6) - ks ν; omega⟩ [⟨0, 11, 14, 24⟩] ⟨0, 11, 20, 26⟩ [] hT (fun z hz => by obtain rfl := List.mem_singleton.mp hz; exact ⟨by decide, exN 1, gw_473, by simp [eN]⟩) (by decide) (by decide) gw_474 (by decide) rfl (fun q9 => ?_)
  refine g_chg 1 6 ?_
  refine g_widen (k := kc (chg ν 1 6) - kc ν) (n := ks (chg ν 1 6) - ks ν) (by omega) (by omega) ?_
  refine g_astore (lv' := [(6, .ref q9), (0, .ref (Ad 0 0)), (1, .int x1), (2, .int x2), (3, .int x3), (4, .int x4)]) C dL_total_20 (by decide) rfl ?_
  refine g_sipush (v := (-7200 : Int32)) C dL_total_22 (by decide) ?_
  refine g_vx ?_
  exact g_iret C hr rfl hz ⟨rfl, rfl, fun _ => rfl, fun _ => rfl⟩ ⟨rfl, Ad, rfl, kp_rfl _ _⟩ (fun j x h => by simp at h) dL_total_25
theorem m_L_total {w : Nat} {μ : MP} {ν : NC} {x1 : Int32} {x2 : Int32} {x3 : Int32} {x4 : Int32} {r0 : (MP × NC) × Int32} (h : f_L_total w μ ν x1 x2 x3 x4 = some r0) : mn ν r0.1.2 := by
  unfold f_L_total at h
  obtain ⟨⟨t, r⟩, h1, h⟩ := bind_of h
  by_cases c0 : t = 0
  · subst c0
    obtain rfl := Option.some.inj ((if_pos rfl).symm.trans h)
    exact mn_rfl _
  · replace h := (if_neg c0).symm.trans h
    by_cases c1 : t = 1
    · subst c1
      obtain rfl := Option.some.inj ((if_pos rfl).symm.trans h)
      exact mn_chg _ _ _
    replace h := (if_neg c1).symm.trans h
    by_cases c2 : t = 2
    · subst c2
      obtain rfl := Option.some.inj ((if_pos rfl).symm.trans h)
      exact mn_chg _ _ _
    replace h := (if_neg c2).symm.trans h
    exact absurd h (by simp)
theorem c_L_total (l : Launch) (hl : l.stackTraces = false) (B : Nat × (Nat → Nat)) (μ : MP) (ν : NC) (a : AS) (Ad : Nat → Nat → Nat) (w : Nat) (x1 : Int32) (x2 : Int32) (x3 : Int32) (x4 : Int32) (r0 : (MP × NC) × Int32) (h : f_L_total w μ ν x1 x2 x3 x4 = some r0) (h0 : 0 < ν.2 0) : ∀ D E sz, vx_Met l yL_total gwL_total ({ frames := 8, cells := kc (r0).1.2 - kc ν, slots := ks (r0).1.2 - ks ν, locals := 149 } : Room) (cPh D E sz B (zS μ ν a Ad) [.ref (Ad 0 0), .int x1, .int x2, .int x3, .int x4]) (cQ D E sz (zS μ ν a Ad) [] (pI (fun r u => r = (r0).2 ∧ ∃ A1, u = (zS (r0).1.1 (r0).1.2 a A1, []) ∧ kp ν Ad A1))) (fun _ _ _ => False) (kc (r0).1.2 - kc ν) (ks (r0).1.2 - ks ν) (Aof (zS μ ν a Ad) [] sz) := by
  unfold f_L_total at h
  obtain ⟨⟨t, r⟩, h1, h⟩ := bind_of h
  by_cases c0 : t = 0
  · subst c0
    obtain rfl := Option.some.inj ((if_pos rfl).symm.trans h)
    exact r_L_total l hl B μ ν a Ad w x1 x2 x3 x4 r h1 h0
  · replace h := (if_neg c0).symm.trans h
    by_cases c1 : t = 1
    · subst c1
      obtain rfl := Option.some.inj ((if_pos rfl).symm.trans h)
      exact e1_L_total l hl B μ ν a Ad w x1 x2 x3 x4 r h1 h0
    replace h := (if_neg c1).symm.trans h
    by_cases c2 : t = 2
    · subst c2
      obtain rfl := Option.some.inj ((if_pos rfl).symm.trans h)
      exact e2_L_total l hl B μ ν a Ad w x1 x2 x3 x4 r h1 h0
    replace h := (if_neg c2).symm.trans h
    exact absurd h (by simp)
