noncomputable def f_L_connect (w : Nat) (μ : MP) (ν : NC) (x1 : Int32) : Option ((MP × NC) × Int32) := (f_X8_connect w μ ν x1).bind (fun r => if r.1 = 0 then some ((r.2.1, (0 : Int32))) else if r.1 = 3 then some ((μ, chg ν 1 6), (-7300 : Int32)) else none)
set_option maxHeartbeats 4000000 in
set_option maxRecDepth 100000 in
theorem r_L_connect (l : Launch) (hl : l.stackTraces = false) (B : Nat × (Nat → Nat)) (μ : MP) (ν : NC) (a : AS) (Ad : Nat → Nat → Nat) (w : Nat) (x1 : Int32) (r0 : (MP × NC) × Int32) (h : f_X8_connect w μ ν x1 = some (0, r0)) (h0 : 0 < ν.2 0) : ∀ D E sz, vx_Met l yL_connect gwL_connect ({ frames := 9, cells := kc ((r0.1, (0 : Int32))).1.2 - kc ν, slots := ks ((r0.1, (0 : Int32))).1.2 - ks ν, locals := 267 } : Room) (cPh D E sz B (zS μ ν a Ad) [.ref (Ad 0 0), .int x1]) (cQ D E sz (zS μ ν a Ad) [] (pI (fun r u => r = ((r0.1, (0 : Int32))).2 ∧ ∃ A1, u = (zS ((r0.1, (0 : Int32))).1.1 ((r0.1, (0 : Int32))).1.2 a A1, []) ∧ kp ν Ad A1))) (fun _ _ _ => False) (kc ((r0.1, (0 : Int32))).1.2 - kc ν) (ks ((r0.1, (0 : Int32))).1.2 - ks ν) (Aof (zS μ ν a Ad) [] sz) := by
  intro D E sz
  refine g_ofH (cc := cL_connect) (maxL := 3) (ret := some .int) (hh := [(0, 5, 8, 14)]) (own := "TradeLineLaw") (by decide) rfl rfl (Nat.le_of_ble_eq_true rfl) ?_
  intro p e s m args below meth c C hr hT hz hEv hN
  refine g_vx ?_
  refine g_lv (lv' := [(0, .ref (Ad 0 0)), (1, .int x1)]) [0, 1] rfl ?_
  refine g_aload_n C dL_connect_0 rfl 0 rfl ?_
  refine g_iload_n C dL_connect_1 rfl 1 rfl ?_
  refine g_cVve (n := 1) (exc := []) (exr := []) C hEv ⟨rfl, rfl⟩ [_] _ rfl rfl [] [] rfl rfl rfl rfl (fun _ h => absurd h (by simp)) (fun _ h => absurd h (by simp)) (fun _ h => absurd h (by simp)) (fun sz => c_X8_connect l B μ ν a Ad w x1 r0 h D E sz) rfl gw_218 gw_1 gw_215 gw_216 gw_217 ⟨by decide +kernel, by decide +kernel, by decide +kernel⟩ ⟨rfl, rfl⟩ ⟨Nat.le_of_ble_eq_true rfl, Nat.le_of_ble_eq_true rfl⟩ (rcvT ⟨h0, fun e => absurd e (by decide)⟩ rfl rfl rfl) (Nat.le_of_ble_eq_true rfl) dL_connect_2 ⟨by show 0 + (kc r0.1.2 - kc ν) ≤ kc r0.1.2 - kc ν; omega, by show 0 + (ks r0.1.2 - ks ν) ≤ ks r0.1.2 - ks ν; omega⟩ (fun u hp hx => ?_)
  obtain ⟨A1, rfl, hkp⟩ := hp
  have hm := m_X8_connect h
  try dsimp only [List.append_nil]
  refine g_widen (k := kc r0.1.2 - kc ν) (n := ks r0.1.2 - ks ν) (by omega) (by omega) ?_
  refine g_goto (tgt := 13) C dL_connect_5 (by decide) ?_
  refine g_iconst (v := (0 : Int32)) C dL_connect_13 (by decide) ?_
  exact g_iret C hr rfl hz ⟨(hm.2.2.2 30 (by decide) (by decide)).1, (hm.2.2.2 31 (by decide) (by decide)).1, hkp.2.1, hkp.2.2⟩ ⟨rfl, A1, rfl, hkp⟩ (fun j x h => by simp at h) dL_connect_14
set_option maxHeartbeats 4000000 in
set_option maxRecDepth 100000 in
theorem e3_L_connect (l : Launch) (hl : l.stackTraces = false) (B : Nat × (Nat → Nat)) (μ : MP) (ν : NC) (a : AS) (Ad : Nat → Nat → Nat) (w : Nat) (x1 : Int32) (r0 : (MP × NC) × Int32) (h : f_X8_connect w μ ν x1 = some (3, r0)) (h0 : 0 < ν.2 0) : ∀ D E sz, vx_Met l yL_connect gwL_connect ({ frames := 9, cells := kc (((μ, chg ν 1 6), (-7300 : Int32))).1.2 - kc ν, slots := ks (((μ, chg ν 1 6), (-7300 : Int32))).1.2 - ks ν, locals := 267 } : Room) (cPh D E sz B (zS μ ν a Ad) [.ref (Ad 0 0), .int x1]) (cQ D E sz (zS μ ν a Ad) [] (pI (fun r u => r = (((μ, chg ν 1 6), (-7300 : Int32))).2 ∧ ∃ A1, u = (zS (((μ, chg ν 1 6), (-7300 : Int32))).1.1 (((μ, chg ν 1 6), (-7300 : Int32))).1.2 a A1, []) ∧ kp ν Ad A1))) (fun _ _ _ => False) (kc (((μ, chg ν 1 6), (-7300 : Int32))).1.2 - kc ν) (ks (((μ, chg ν 1 6), (-7300 : Int32))).1.2 - ks ν) (Aof (zS μ ν a Ad) [] sz) := by
  have k1 := kc_chg ν 1 6; have k2 := ks_chg ν 1 6
  intro D E sz
  refine g_ofH (cc := cL_connect) (maxL := 3) (ret := some .int) (hh := [(0, 5, 8, 14)]) (own := "TradeLineLaw") (by decide) rfl rfl (Nat.le_of_ble_eq_true rfl) ?_
  intro p e s m args below meth c C hr hT hz hEv hN
  refine g_lv (lv' := [(0, .ref (Ad 0 0)), (1, .int x1)]) [0, 1] rfl ?_
  refine g_aload_n C dL_connect_0 rfl 0 rfl ?_
  refine g_iload_n C dL_connect_1 rfl 1 rfl ?_
  refine g_hc (n := 3) (index := 1) C hEv ⟨rfl, rfl⟩ hN [_] _ rfl rfl (fun sz => x_X8_connect l hl B μ ν a Ad w x1 2 r0 h D E sz) rfl gw_218 gw_1 gw_215 gw_216 gw_217 ⟨by decide +kernel, by decide +kernel, by decide +kernel⟩ ⟨rfl, rfl⟩ ⟨Nat.le_of_ble_eq_true rfl, Nat.le_of_ble_eq_true rfl⟩ (rcvT ⟨h0, fun e => absurd e (by decide)⟩ rfl rfl rfl) (Nat.le_of_ble_eq_true rfl) dL_connect_2 ⟨by show 1 ≤ kc (chg ν 1 6) - kc ν; omega, by show 6 ≤ ks (chg ν 1 6) - ks ν; omega⟩ [] ⟨0, 5, 8, 14⟩ [] hT (fun z hz => absurd hz (by simp)) (by decide) (by decide) gw_214 (by decide) rfl (fun q9 => ?_)
  refine g_chg 1 6 ?_
  refine g_widen (k := kc (chg ν 1 6) - kc ν) (n := ks (chg ν 1 6) - ks ν) (by omega) (by omega) ?_
  refine g_astore_n (lv' := [(2, .ref q9), (0, .ref (Ad 0 0)), (1, .int x1)]) C dL_connect_8 rfl (by decide) rfl ?_
  refine g_sipush (v := (-7300 : Int32)) C dL_connect_9 (by decide) ?_
  refine g_vx ?_
  exact g_iret C hr rfl hz ⟨rfl, rfl, fun _ => rfl, fun _ => rfl⟩ ⟨rfl, Ad, rfl, kp_rfl _ _⟩ (fun j x h => by simp at h) dL_connect_12
theorem m_L_connect {w : Nat} {μ : MP} {ν : NC} {x1 : Int32} {r0 : (MP × NC) × Int32} (h : f_L_connect w μ ν x1 = some r0) : mn ν r0.1.2 := by
  unfold f_L_connect at h
  obtain ⟨⟨t, r⟩, h1, h⟩ := bind_of h
  by_cases c0 : t = 0
  · subst c0
    obtain rfl := Option.some.inj ((if_pos rfl).symm.trans h)
    have hmm := m_X8_connect h1
    exact hmm
  · replace h := (if_neg c0).symm.trans h
    by_cases c3 : t = 3
    · subst c3
      obtain rfl := Option.some.inj ((if_pos rfl).symm.trans h)
      exact mn_chg _ _ _
    replace h := (if_neg c3).symm.trans h
    exact absurd h (by simp)
theorem c_L_connect (l : Launch) (hl : l.stackTraces = false) (B : Nat × (Nat → Nat)) (μ : MP) (ν : NC) (a : AS) (Ad : Nat → Nat → Nat) (w : Nat) (x1 : Int32) (r0 : (MP × NC) × Int32) (h : f_L_connect w μ ν x1 = some r0) (h0 : 0 < ν.2 0) : ∀ D E sz, vx_Met l yL_connect gwL_connect ({ frames := 9, cells := kc (r0).1.2 - kc ν, slots := ks (r0).1.2 - ks ν, locals := 267 } : Room) (cPh D E sz B (zS μ ν a Ad) [.ref (Ad 0 0), .int x1]) (cQ D E sz (zS μ ν a Ad) [] (pI (fun r u => r = (r0).2 ∧ ∃ A1, u = (zS (r0).1.1 (r0).1.2 a A1, []) ∧ kp ν Ad A1))) (fun _ _ _ => False) (kc (r0).1.2 - kc ν) (ks (r0).1.2 - ks ν) (Aof (zS μ ν a Ad) [] sz) := by
  unfold f_L_connect at h
  obtain ⟨⟨t, r⟩, h1, h⟩ := bind_of h
  by_cases c0 : t = 0
  · subst c0
    obtain rfl := Option.some.inj ((if_pos rfl).symm.trans h)
    exact r_L_connect l hl B μ ν a Ad w x1 r h1 h0
  · replace h := (if_neg c0).symm.trans h
    by_cases c3 : t = 3
    · subst c3
      obtain rfl := Option.some.inj ((if_pos rfl).symm.trans h)
      exact e3_L_connect l hl B μ ν a Ad w x1 r h1 h0
    replace h := (if_neg c3).symm.trans h
    exact absurd h (by simp)
noncomputable def f_L_cut (w : Nat) (μ : MP) (ν : NC) : Option ((MP × NC) × Int32) := (f_X8_cut w μ ν ).bind (fun r => if r.1 = 0 then some (((r.2.1, ν), r.2.2)) else if r.1 = 3 then some ((μ, chg ν 1 6), (-7300 : Int32)) else none)
set_option maxHeartbeats 4000000 in
set_option maxRecDepth 100000 in
theorem r_L_cut (l : Launch) (hl : l.stackTraces = false) (B : Nat × (Nat → Nat)) (μ : MP) (ν : NC) (a : AS) (Ad : Nat → Nat → Nat) (w : Nat) (r0 : MP × Int32) (h : f_X8_cut w μ ν  = some (0, r0)) (h0 : 0 < ν.2 0) : ∀ D E sz, vx_Met l yL_cut gwL_cut ({ frames := 7, cells := kc (((r0.1, ν), r0.2)).1.2 - kc ν, slots := ks (((r0.1, ν), r0.2)).1.2 - ks ν, locals := 121 } : Room) (cPh D E sz B (zS μ ν a Ad) [.ref (Ad 0 0)]) (cQ D E sz (zS μ ν a Ad) [] (pI (fun r u => r = (((r0.1, ν), r0.2)).2 ∧ ∃ A1, u = (zS (((r0.1, ν), r0.2)).1.1 (((r0.1, ν), r0.2)).1.2 a A1, []) ∧ kp ν Ad A1))) (fun _ _ _ => False) (kc (((r0.1, ν), r0.2)).1.2 - kc ν) (ks (((r0.1, ν), r0.2)).1.2 - ks ν) (Aof (zS μ ν a Ad) [] sz) := by
  intro D E sz
  refine g_ofH (cc := cL_cut) (maxL := 3) (ret := some .int) (hh := [(0, 5, 8, 14)]) (own := "TradeLineLaw") (by decide) rfl rfl (Nat.le_of_ble_eq_true rfl) ?_
  intro p e s m args below meth c C hr hT hz hEv hN
  refine g_vx ?_
  refine g_lv (lv' := [(0, .ref (Ad 0 0))]) [0] rfl ?_
  refine g_aload_n C dL_cut_0 rfl 0 rfl ?_
  refine g_cVi (n := 0) (exc := []) (exr := []) C [] _ rfl rfl [] [] rfl rfl rfl rfl (fun _ h => absurd h (by simp)) (fun _ h => absurd h (by simp)) (fun _ h => absurd h (by simp)) (fun sz => c_X8_cut l μ ν a Ad w  r0 h D E sz) rfl gw_429 gw_1 gw_426 gw_427 gw_428 ⟨by decide +kernel, by decide +kernel, by decide +kernel⟩ ⟨rfl, rfl⟩ ⟨Nat.le_of_ble_eq_true rfl, Nat.le_of_ble_eq_true rfl⟩ (rcvT ⟨h0, fun e => absurd e (by decide)⟩ rfl rfl rfl) (Nat.le_of_ble_eq_true rfl) dL_cut_1 ⟨Nat.zero_le _, Nat.zero_le _⟩ (fun r u hp hx => ?_)
  obtain ⟨er, rfl⟩ := hp
  rw [er]
  try dsimp only [List.append_nil]
  refine g_widen (k := kc ν - kc ν) (n := ks ν - ks ν) (Nat.zero_le _) (Nat.zero_le _) ?_
  refine g_istore_n (lv' := [(1, .int r0.2), (0, .ref (Ad 0 0))]) C dL_cut_4 rfl (by decide) rfl ?_
  refine g_goto (tgt := 13) C dL_cut_5 (by decide) ?_
  refine g_iload_n C dL_cut_13 rfl 0 rfl ?_
  exact g_iret C hr rfl hz ⟨rfl, rfl, fun _ => rfl, fun _ => rfl⟩ ⟨rfl, Ad, rfl, kp_rfl _ _⟩ (fun j x h => by simp at h) dL_cut_14
set_option maxHeartbeats 4000000 in
set_option maxRecDepth 100000 in
theorem e3_L_cut (l : Launch) (hl : l.stackTraces = false) (B : Nat × (Nat → Nat)) (μ : MP) (ν : NC) (a : AS) (Ad : Nat → Nat → Nat) (w : Nat) (r0 : MP × Int32) (h : f_X8_cut w μ ν  = some (3, r0)) (h0 : 0 < ν.2 0) : ∀ D E sz, vx_Met l yL_cut gwL_cut ({ frames := 7, cells := kc (((μ, chg ν 1 6), (-7300 : Int32))).1.2 - kc ν, slots := ks (((μ, chg ν 1 6), (-7300 : Int32))).1.2 - ks ν, locals := 121 } : Room) (cPh D E sz B (zS μ ν a Ad) [.ref (Ad 0 0)]) (cQ D E sz (zS μ ν a Ad) [] (pI (fun r u => r = (((μ, chg ν 1 6), (-7300 : Int32))).2 ∧ ∃ A1, u = (zS (((μ, chg ν 1 6), (-7300 : Int32))).1.1 (((μ, chg ν 1 6), (-7300 : Int32))).1.2 a A1, []) ∧ kp ν Ad A1))) (fun _ _ _ => False) (kc (((μ, chg ν 1 6), (-7300 : Int32))).1.2 - kc ν) (ks (((μ, chg ν 1 6), (-7300 : Int32))).1.2 - ks ν) (Aof (zS μ ν a Ad) [] sz) := by
  have k1 := kc_chg ν 1 6; have k2 := ks_chg ν 1 6
  intro D E sz
  refine g_ofH (cc := cL_cut) (maxL := 3) (ret := some .int) (hh := [(0, 5, 8, 14)]) (own := "TradeLineLaw") (by decide) rfl rfl (Nat.le_of_ble_eq_true rfl) ?_
  intro p e s m args below meth c C hr hT hz hEv hN
  refine g_lv (lv' := [(0, .ref (Ad 0 0))]) [0] rfl ?_
  refine g_aload_n C dL_cut_0 rfl 0 rfl ?_
  refine g_hc (n := 3) (index := 0) C hEv ⟨rfl, rfl⟩ hN [] _ rfl rfl (fun sz => x_X8_cut l hl B μ ν a Ad w  2 r0 h D E sz) rfl gw_429 gw_1 gw_426 gw_427 gw_428 ⟨by decide +kernel, by decide +kernel, by decide +kernel⟩ ⟨rfl, rfl⟩ ⟨Nat.le_of_ble_eq_true rfl, Nat.le_of_ble_eq_true rfl⟩ (rcvT ⟨h0, fun e => absurd e (by decide)⟩ rfl rfl rfl) (Nat.le_of_ble_eq_true rfl) dL_cut_1 ⟨by show 1 ≤ kc (chg ν 1 6) - kc ν; omega, by show 6 ≤ ks (chg ν 1 6) - ks ν; omega⟩ [] ⟨0, 5, 8, 14⟩ [] hT (fun z hz => absurd hz (by simp)) (by decide) (by decide) gw_214 (by decide) rfl (fun q9 => ?_)
  refine g_chg 1 6 ?_
  refine g_widen (k := kc (chg ν 1 6) - kc ν) (n := ks (chg ν 1 6) - ks ν) (by omega) (by omega) ?_
  refine g_astore_n (lv' := [(2, .ref q9), (0, .ref (Ad 0 0))]) C dL_cut_8 rfl (by decide) rfl ?_
  refine g_sipush (v := (-7300 : Int32)) C dL_cut_9 (by decide) ?_
  refine g_vx ?_
  exact g_iret C hr rfl hz ⟨rfl, rfl, fun _ => rfl, fun _ => rfl⟩ ⟨rfl, Ad, rfl, kp_rfl _ _⟩ (fun j x h => by simp at h) dL_cut_12
theorem m_L_cut {w : Nat} {μ : MP} {ν : NC} {r0 : (MP × NC) × Int32} (h : f_L_cut w μ ν  = some r0) : mn ν r0.1.2 := by
  unfold f_L_cut at h
  obtain ⟨⟨t, r⟩, h1, h⟩ := bind_of h
  by_cases c0 : t = 0
  · subst c0
    obtain rfl := Option.some.inj ((if_pos rfl).symm.trans h)
    exact mn_rfl _
  · replace h := (if_neg c0).symm.trans h
    by_cases c3 : t = 3
    · subst c3
      obtain rfl := Option.some.inj ((if_pos rfl).symm.trans h)
      exact mn_chg _ _ _
    replace h := (if_neg c3).symm.trans h
    exact absurd h (by simp)
theorem c_L_cut (l : Launch) (hl : l.stackTraces = false) (B : Nat × (Nat → Nat)) (μ : MP) (ν : NC) (a : AS) (Ad : Nat → Nat → Nat) (w : Nat) (r0 : (MP × NC) × Int32) (h : f_L_cut w μ ν  = some r0) (h0 : 0 < ν.2 0) : ∀ D E sz, vx_Met l yL_cut gwL_cut ({ frames := 7, cells := kc (r0).1.2 - kc ν, slots := ks (r0).1.2 - ks ν, locals := 121 } : Room) (cPh D E sz B (zS μ ν a Ad) [.ref (Ad 0 0)]) (cQ D E sz (zS μ ν a Ad) [] (pI (fun r u => r = (r0).2 ∧ ∃ A1, u = (zS (r0).1.1 (r0).1.2 a A1, []) ∧ kp ν Ad A1))) (fun _ _ _ => False) (kc (r0).1.2 - kc ν) (ks (r0).1.2 - ks ν) (Aof (zS μ ν a Ad) [] sz) := by
  unfold f_L_cut at h
  obtain ⟨⟨t, r⟩, h1, h⟩ := bind_of h
  by_cases c0 : t = 0
  · subst c0
    obtain rfl := Option.some.inj ((if_pos rfl).symm.trans h)
    exact r_L_cut l hl B μ ν a Ad w  r h1 h0
  · replace h := (if_neg c0).symm.trans h
    by_cases c3 : t = 3
    · subst c3
      obtain rfl := Option.some.inj ((if_pos rfl).symm.trans h)
      exact e3_L_cut l hl B μ ν a Ad w  r h1 h0
    replace h := (if_neg c3).symm.trans h
    exact absurd h (by simp)
noncomputable def f_L_come (w : Nat) (μ : MP) (ν : NC) (x1 : Int32) (x2 : Int32) : Option ((MP × NC) × Int32) := (f_X8_come w μ ν x1 x2).bind (fun r => if r.1 = 0 then some ((r.2.1, r.2.2)) else if r.1 = 1 then some ((μ, chg ν 1 6), (-7100 : Int32)) else if r.1 = 2 then some ((μ, chg ν 1 6), (-7200 : Int32)) else none)
set_option maxHeartbeats 4000000 in
set_option maxRecDepth 100000 in
theorem r_L_come (l : Launch) (hl : l.stackTraces = false) (B : Nat × (Nat → Nat)) (μ : MP) (ν : NC) (a : AS) (Ad : Nat → Nat → Nat) (w : Nat) (x1 : Int32) (x2 : Int32) (r0 : (MP × NC) × Int32) (h : f_X8_come w μ ν x1 x2 = some (0, r0)) (h0 : 0 < ν.2 0) : ∀ D E sz, vx_Met l yL_come gwL_come ({ frames := 13, cells := kc ((r0.1, r0.2)).1.2 - kc ν, slots := ks ((r0.1, r0.2)).1.2 - ks ν, locals := 374 } : Room) (cPh D E sz B (zS μ ν a Ad) [.ref (Ad 0 0), .int x1, .int x2]) (cQ D E sz (zS μ ν a Ad) [] (pI (fun r u => r = ((r0.1, r0.2)).2 ∧ ∃ A1, u = (zS ((r0.1, r0.2)).1.1 ((r0.1, r0.2)).1.2 a A1, []) ∧ kp ν Ad A1))) (fun _ _ _ => False) (kc ((r0.1, r0.2)).1.2 - kc ν) (ks ((r0.1, r0.2)).1.2 - ks ν) (Aof (zS μ ν a Ad) [] sz) := by
  intro D E sz
  refine g_ofH (cc := cL_come) (maxL := 5) (ret := some .int) (hh := [(0, 7, 10, 24), (0, 7, 16, 26)]) (own := "TradeLineLaw") (by decide) rfl rfl (Nat.le_of_ble_eq_true rfl) ?_
  intro p e s m args below meth c C hr hT hz hEv hN
  refine g_vx ?_
  refine g_lv (lv' := [(0, .ref (Ad 0 0)), (1, .int x1), (2, .int x2)]) [0, 1, 2] rfl ?_
  refine g_aload_n C dL_come_0 rfl 0 rfl ?_
  refine g_iload_n C dL_come_1 rfl 1 rfl ?_
  refine g_iload_n C dL_come_2 rfl 2 rfl ?_
  refine g_cVie (n := 2) (exc := []) (exr := []) C hEv ⟨rfl, rfl⟩ [_, _] _ rfl rfl [] [] rfl rfl rfl rfl (fun _ h => absurd h (by simp)) (fun _ h => absurd h (by simp)) (fun _ h => absurd h (by simp)) (fun sz => c_X8_come l B μ ν a Ad w x1 x2 r0 h D E sz) rfl gw_478 gw_1 gw_475 gw_476 gw_477 ⟨by decide +kernel, by decide +kernel, by decide +kernel⟩ ⟨rfl, rfl⟩ ⟨Nat.le_of_ble_eq_true rfl, Nat.le_of_ble_eq_true rfl⟩ (rcvT ⟨h0, fun e => absurd e (by decide)⟩ rfl rfl rfl) (Nat.le_of_ble_eq_true rfl) dL_come_3 ⟨by show 0 + (kc r0.1.2 - kc ν) ≤ kc r0.1.2 - kc ν; omega, by show 0 + (ks r0.1.2 - ks ν) ≤ ks r0.1.2 - ks ν; omega⟩ (fun r u hp hx => ?_)
  obtain ⟨er, A1, rfl, hkp⟩ := hp
  have hm := m_X8_come h
  rw [er]
  try dsimp only [List.append_nil]
  refine g_widen (k := kc r0.1.2 - kc ν) (n := ks r0.1.2 - ks ν) (by omega) (by omega) ?_
  refine g_istore_n (lv' := [(3, .int r0.2), (0, .ref (Ad 0 0)), (1, .int x1), (2, .int x2)]) C dL_come_6 rfl (by decide) rfl ?_
  refine g_goto (tgt := 22) C dL_come_7 (by decide) ?_
  refine g_iload_n C dL_come_22 rfl 0 rfl ?_
  exact g_iret C hr rfl hz ⟨(hm.2.2.2 30 (by decide) (by decide)).1, (hm.2.2.2 31 (by decide) (by decide)).1, hkp.2.1, hkp.2.2⟩ ⟨rfl, A1, rfl, hkp⟩ (fun j x h => by simp at h) dL_come_23
set_option maxHeartbeats 4000000 in
set_option maxRecDepth 100000 in
theorem e1_L_come (l : Launch) (hl : l.stackTraces = false) (B : Nat × (Nat → Nat)) (μ : MP) (ν : NC) (a : AS) (Ad : Nat → Nat → Nat) (w : Nat) (x1 : Int32) (x2 : Int32) (r0 : (MP × NC) × Int32) (h : f_X8_come w μ ν x1 x2 = some (1, r0)) (h0 : 0 < ν.2 0) : ∀ D E sz, vx_Met l yL_come gwL_come ({ frames := 13, cells := kc (((μ, chg ν 1 6), (-7100 : Int32))).1.2 - kc ν, slots := ks (((μ, chg ν 1 6), (-7100 : Int32))).1.2 - ks ν, locals := 374 } : Room) (cPh D E sz B (zS μ ν a Ad) [.ref (Ad 0 0), .int x1, .int x2]) (cQ D E sz (zS μ ν a Ad) [] (pI (fun r u => r = (((μ, chg ν 1 6), (-7100 : Int32))).2 ∧ ∃ A1, u = (zS (((μ, chg ν 1 6), (-7100 : Int32))).1.1 (((μ, chg ν 1 6), (-7100 : Int32))).1.2 a A1, []) ∧ kp ν Ad A1))) (fun _ _ _ => False) (kc (((μ, chg ν 1 6), (-7100 : Int32))).1.2 - kc ν) (ks (((μ, chg ν 1 6), (-7100 : Int32))).1.2 - ks ν) (Aof (zS μ ν a Ad) [] sz) := by
  have k1 := kc_chg ν 1 6; have k2 := ks_chg ν 1 6
  intro D E sz
  refine g_ofH (cc := cL_come) (maxL := 5) (ret := some .int) (hh := [(0, 7, 10, 24), (0, 7, 16, 26)]) (own := "TradeLineLaw") (by decide) rfl rfl (Nat.le_of_ble_eq_true rfl) ?_
  intro p e s m args below meth c C hr hT hz hEv hN
  refine g_lv (lv' := [(0, .ref (Ad 0 0)), (1, .int x1), (2, .int x2)]) [0, 1, 2] rfl ?_
  refine g_aload_n C dL_come_0 rfl 0 rfl ?_
  refine g_iload_n C dL_come_1 rfl 1 rfl ?_
  refine g_iload_n C dL_come_2 rfl 2 rfl ?_
  refine g_hc (n := 1) (index := 2) C hEv ⟨rfl, rfl⟩ hN [_, _] _ rfl rfl (fun sz => x_X8_come l hl B μ ν a Ad w x1 x2 0 r0 h D E sz) rfl gw_478 gw_1 gw_475 gw_476 gw_477 ⟨by decide +kernel, by decide +kernel, by decide +kernel⟩ ⟨rfl, rfl⟩ ⟨Nat.le_of_ble_eq_true rfl, Nat.le_of_ble_eq_true rfl⟩ (rcvT ⟨h0, fun e => absurd e (by decide)⟩ rfl rfl rfl) (Nat.le_of_ble_eq_true rfl) dL_come_3 ⟨by show 1 ≤ kc (chg ν 1 6) - kc ν; omega, by show 6 ≤ ks (chg ν 1 6) - ks ν; omega⟩ [] ⟨0, 7, 10, 24⟩ [⟨0, 7, 16, 26⟩] hT (fun z hz => absurd hz (by simp)) (by decide) (by decide) gw_473 (by decide) rfl (fun q9 => ?_)
  refine g_chg 1 6 ?_
  refine g_widen (k := kc (chg ν 1 6) - kc ν) (n := ks (chg ν 1 6) - ks ν) (by omega) (by omega) ?_
  refine g_astore (lv' := [(4, .ref q9), (0, .ref (Ad 0 0)), (1, .int x1), (2, .int x2)]) C dL_come_10 (by decide) rfl ?_
  refine g_sipush (v := (-7100 : Int32)) C dL_come_12 (by decide) ?_
  refine g_vx ?_
  exact g_iret C hr rfl hz ⟨rfl, rfl, fun _ => rfl, fun _ => rfl⟩ ⟨rfl, Ad, rfl, kp_rfl _ _⟩ (fun j x h => by simp at h) dL_come_15
set_option maxHeartbeats 4000000 in
set_option maxRecDepth 100000 in
theorem e2_L_come (l : Launch) (hl : l.stackTraces = false) (B : Nat × (Nat → Nat)) (μ : MP) (ν : NC) (a : AS) (Ad : Nat → Nat → Nat) (w : Nat) (x1 : Int32) (x2 : Int32) (r0 : (MP × NC) × Int32) (h : f_X8_come w μ ν x1 x2 = some (2, r0)) (h0 : 0 < ν.2 0) : ∀ D E sz, vx_Met l yL_come gwL_come ({ frames := 13, cells := kc (((μ, chg ν 1 6), (-7200 : Int32))).1.2 - kc ν, slots := ks (((μ, chg ν 1 6), (-7200 : Int32))).1.2 - ks ν, locals := 374 } : Room) (cPh D E sz B (zS μ ν a Ad) [.ref (Ad 0 0), .int x1, .int x2]) (cQ D E sz (zS μ ν a Ad) [] (pI (fun r u => r = (((μ, chg ν 1 6), (-7200 : Int32))).2 ∧ ∃ A1, u = (zS (((μ, chg ν 1 6), (-7200 : Int32))).1.1 (((μ, chg ν 1 6), (-7200 : Int32))).1.2 a A1, []) ∧ kp ν Ad A1))) (fun _ _ _ => False) (kc (((μ, chg ν 1 6), (-7200 : Int32))).1.2 - kc ν) (ks (((μ, chg ν 1 6), (-7200 : Int32))).1.2 - ks ν) (Aof (zS μ ν a Ad) [] sz) := by
  have k1 := kc_chg ν 1 6; have k2 := ks_chg ν 1 6
  intro D E sz
  refine g_ofH (cc := cL_come) (maxL := 5) (ret := some .int) (hh := [(0, 7, 10, 24), (0, 7, 16, 26)]) (own := "TradeLineLaw") (by decide) rfl rfl (Nat.le_of_ble_eq_true rfl) ?_
  intro p e s m args below meth c C hr hT hz hEv hN
  refine g_lv (lv' := [(0, .ref (Ad 0 0)), (1, .int x1), (2, .int x2)]) [0, 1, 2] rfl ?_
  refine g_aload_n C dL_come_0 rfl 0 rfl ?_
  refine g_iload_n C dL_come_1 rfl 1 rfl ?_
  refine g_iload_n C dL_come_2 rfl 2 rfl ?_
  refine g_hc (n := 2) (index := 2) C hEv ⟨rfl, rfl⟩ hN [_, _] _ rfl rfl (fun sz => x_X8_come l hl B μ ν a Ad w x1 x2 1 r0 h D E sz) rfl gw_478 gw_1 gw_475 gw_476 gw_477 ⟨by decide +kernel, by decide +kernel, by decide +kernel⟩ ⟨rfl, rfl⟩ ⟨Nat.le_of_ble_eq_true rfl, Nat.le_of_ble_eq_true rfl⟩ (rcvT ⟨h0, fun e => absurd e (by decide)⟩ rfl rfl rfl) (Nat.le_of_ble_eq_true rfl) dL_come_3 ⟨by show 1 ≤ kc (chg ν 1 6) - kc ν; omega, by show 6 ≤ ks (chg ν 1 6) - ks ν; omega⟩ [⟨0, 7, 10, 24⟩] ⟨0, 7, 16, 26⟩ [] hT (fun z hz => by obtain rfl := List.mem_singleton.mp hz; exact ⟨by decide, exN 1, gw_473, by simp [eN]⟩) (by decide) (by decide) gw_474 (by decide) rfl (fun q9 => ?_)
  refine g_chg 1 6 ?_
  refine g_widen (k := kc (chg ν 1 6) - kc ν) (n := ks (chg ν 1 6) - ks ν) (by omega) (by omega) ?_
  refine g_astore (lv' := [(4, .ref q9), (0, .ref (Ad 0 0)), (1, .int x1), (2, .int x2)]) C dL_come_16 (by decide) rfl ?_
  refine g_sipush (v := (-7200 : Int32)) C dL_come_18 (by decide) ?_
  refine g_vx ?_
  exact g_iret C hr rfl hz ⟨rfl, rfl, fun _ => rfl, fun _ => rfl⟩ ⟨rfl, Ad, rfl, kp_rfl _ _⟩ (fun j x h => by simp at h) dL_come_21
theorem m_L_come {w : Nat} {μ : MP} {ν : NC} {x1 : Int32} {x2 : Int32} {r0 : (MP × NC) × Int32} (h : f_L_come w μ ν x1 x2 = some r0) : mn ν r0.1.2 := by
  unfold f_L_come at h
  obtain ⟨⟨t, r⟩, h1, h⟩ := bind_of h
  by_cases c0 : t = 0
  · subst c0
    obtain rfl := Option.some.inj ((if_pos rfl).symm.trans h)
    have hmm := m_X8_come h1
    exact hmm
  · replace h := (if_neg c0).symm.trans h
    by_cases c1 : t = 1
    · subst c1
      obtain rfl := Option.some.inj ((if_pos rfl).symm.trans h)
      exact mn_chg _ _ _
    replace h := (if_neg c1).symm.trans h
    by_cases c2 : t = 2
    · subst c2
      obtain rfl := Option.some.inj ((if_pos rfl).symm.trans h)
      exact mn_chg _ _ _
    replace h := (if_neg c2).symm.trans h
    exact absurd h (by simp)
theorem c_L_come (l : Launch) (hl : l.stackTraces = false) (B : Nat × (Nat → Nat)) (μ : MP) (ν : NC) (a : AS) (Ad : Nat → Nat → Nat) (w : Nat) (x1 : Int32) (x2 : Int32) (r0 : (MP × NC) × Int32) (h : f_L_come w μ ν x1 x2 = some r0) (h0 : 0 < ν.2 0) : ∀ D E sz, vx_Met l yL_come gwL_come ({ frames := 13, cells := kc (r0).1.2 - kc ν, slots := ks (r0).1.2 - ks ν, locals := 374 } : Room) (cPh D E sz B (zS μ ν a Ad) [.ref (Ad 0 0), .int x1, .int x2]) (cQ D E sz (zS μ ν a Ad) [] (pI (fun r u => r = (r0).2 ∧ ∃ A1, u = (zS (r0).1.1 (r0).1.2 a A1, []) ∧ kp ν Ad A1))) (fun _ _ _ => False) (kc (r0).1.2 - kc ν) (ks (r0).1.2 - ks ν) (Aof (zS μ ν a Ad) [] sz) := by
  unfold f_L_come at h
  obtain ⟨⟨t, r⟩, h1, h⟩ := bind_of h
  by_cases c0 : t = 0
  · subst c0
    obtain rfl := Option.some.inj ((if_pos rfl).symm.trans h)
    exact r_L_come l hl B μ ν a Ad w x1 x2 r h1 h0
  · replace h := (if_neg c0).symm.trans h
    by_cases c1 : t = 1
    · subst c1
      obtain rfl := Option.some.inj ((if_pos rfl).symm.trans h)
      exact e1_L_come l hl B μ ν a Ad w x1 x2 r h1 h0
    replace h := (if_neg c1).symm.trans h
    by_cases c2 : t = 2
    · subst c2
      obtain rfl := Option.some.inj ((if_pos rfl).symm.trans h)
      exact e2_L_come l hl B μ ν a Ad w x1 x2 r h1 h0
    replace h := (if_neg c2).symm.trans h
    exact absurd h (by simp)
noncomputable def f_L_garble (w : Nat) (μ : MP) (ν : NC) (x1 : Int32) (x2 : Int32) : Option ((MP × NC) × Int32) := (f_X8_garble w μ ν x1 x2).bind (fun r => if r.1 = 0 then some (((r.2.1, ν), r.2.2)) else if r.1 = 1 then some ((μ, chg ν 1 6), (-7100 : Int32)) else none)
set_option maxHeartbeats 4000000 in
set_option maxRecDepth 100000 in
theorem r_L_garble (l : Launch) (hl : l.stackTraces = false) (B : Nat × (Nat → Nat)) (μ : MP) (ν : NC) (a : AS) (Ad : Nat → Nat → Nat) (w : Nat) (x1 : Int32) (x2 : Int32) (r0 : MP × Int32) (h : f_X8_garble w μ ν x1 x2 = some (0, r0)) (h0 : 0 < ν.2 0) : ∀ D E sz, vx_Met l yL_garble gwL_garble ({ frames := 8, cells := kc (((r0.1, ν), r0.2)).1.2 - kc ν, slots := ks (((r0.1, ν), r0.2)).1.2 - ks ν, locals := 143 } : Room) (cPh D E sz B (zS μ ν a Ad) [.ref (Ad 0 0), .int x1, .int x2]) (cQ D E sz (zS μ ν a Ad) [] (pI (fun r u => r = (((r0.1, ν), r0.2)).2 ∧ ∃ A1, u = (zS (((r0.1, ν), r0.2)).1.1 (((r0.1, ν), r0.2)).1.2 a A1, []) ∧ kp ν Ad A1))) (fun _ _ _ => False) (kc (((r0.1, ν), r0.2)).1.2 - kc ν) (ks (((r0.1, ν), r0.2)).1.2 - ks ν) (Aof (zS μ ν a Ad) [] sz) := by
  intro D E sz
  refine g_ofH (cc := cL_garble) (maxL := 5) (ret := some .int) (hh := [(0, 7, 10, 24)]) (own := "TradeLineLaw") (by decide) rfl rfl (Nat.le_of_ble_eq_true rfl) ?_
  intro p e s m args below meth c C hr hT hz hEv hN
  refine g_vx ?_
  refine g_lv (lv' := [(0, .ref (Ad 0 0)), (1, .int x1), (2, .int x2)]) [0, 1, 2] rfl ?_
  refine g_aload_n C dL_garble_0 rfl 0 rfl ?_
  refine g_iload_n C dL_garble_1 rfl 1 rfl ?_
  refine g_iload_n C dL_garble_2 rfl 2 rfl ?_
  refine g_cVi (n := 2) (exc := []) (exr := []) C [_, _] _ rfl rfl [] [] rfl rfl rfl rfl (fun _ h => absurd h (by simp)) (fun _ h => absurd h (by simp)) (fun _ h => absurd h (by simp)) (fun sz => c_X8_garble l μ ν a Ad w x1 x2 r0 h D E sz) rfl gw_1043 gw_1 gw_1040 gw_1041 gw_1042 ⟨by decide +kernel, by decide +kernel, by decide +kernel⟩ ⟨rfl, rfl⟩ ⟨Nat.le_of_ble_eq_true rfl, Nat.le_of_ble_eq_true rfl⟩ (rcvT ⟨h0, fun e => absurd e (by decide)⟩ rfl rfl rfl) (Nat.le_of_ble_eq_true rfl) dL_garble_3 ⟨Nat.zero_le _, Nat.zero_le _⟩ (fun r u hp hx => ?_)
  obtain ⟨er, rfl⟩ := hp
  rw [er]
  try dsimp only [List.append_nil]
  refine g_widen (k := kc ν - kc ν) (n := ks ν - ks ν) (Nat.zero_le _) (Nat.zero_le _) ?_
  refine g_istore_n (lv' := [(3, .int r0.2), (0, .ref (Ad 0 0)), (1, .int x1), (2, .int x2)]) C dL_garble_6 rfl (by decide) rfl ?_
  refine g_goto (tgt := 16) C dL_garble_7 (by decide) ?_
  refine g_iload_n C dL_garble_16 rfl 0 rfl ?_
  exact g_iret C hr rfl hz ⟨rfl, rfl, fun _ => rfl, fun _ => rfl⟩ ⟨rfl, Ad, rfl, kp_rfl _ _⟩ (fun j x h => by simp at h) dL_garble_17
set_option maxHeartbeats 4000000 in
set_option maxRecDepth 100000 in
theorem e1_L_garble (l : Launch) (hl : l.stackTraces = false) (B : Nat × (Nat → Nat)) (μ : MP) (ν : NC) (a : AS) (Ad : Nat → Nat → Nat) (w : Nat) (x1 : Int32) (x2 : Int32) (r0 : MP × Int32) (h : f_X8_garble w μ ν x1 x2 = some (1, r0)) (h0 : 0 < ν.2 0) : ∀ D E sz, vx_Met l yL_garble gwL_garble ({ frames := 8, cells := kc (((μ, chg ν 1 6), (-7100 : Int32))).1.2 - kc ν, slots := ks (((μ, chg ν 1 6), (-7100 : Int32))).1.2 - ks ν, locals := 143 } : Room) (cPh D E sz B (zS μ ν a Ad) [.ref (Ad 0 0), .int x1, .int x2]) (cQ D E sz (zS μ ν a Ad) [] (pI (fun r u => r = (((μ, chg ν 1 6), (-7100 : Int32))).2 ∧ ∃ A1, u = (zS (((μ, chg ν 1 6), (-7100 : Int32))).1.1 (((μ, chg ν 1 6), (-7100 : Int32))).1.2 a A1, []) ∧ kp ν Ad A1))) (fun _ _ _ => False) (kc (((μ, chg ν 1 6), (-7100 : Int32))).1.2 - kc ν) (ks (((μ, chg ν 1 6), (-7100 : Int32))).1.2 - ks ν) (Aof (zS μ ν a Ad) [] sz) := by
  have k1 := kc_chg ν 1 6; have k2 := ks_chg ν 1 6
  intro D E sz
  refine g_ofH (cc := cL_garble) (maxL := 5) (ret := some .int) (hh := [(0, 7, 10, 24)]) (own := "TradeLineLaw") (by decide) rfl rfl (Nat.le_of_ble_eq_true rfl) ?_
  intro p e s m args below meth c C hr hT hz hEv hN
  refine g_lv (lv' := [(0, .ref (Ad 0 0)), (1, .int x1), (2, .int x2)]) [0, 1, 2] rfl ?_
  refine g_aload_n C dL_garble_0 rfl 0 rfl ?_
  refine g_iload_n C dL_garble_1 rfl 1 rfl ?_
  refine g_iload_n C dL_garble_2 rfl 2 rfl ?_
  refine g_hc (n := 1) (index := 2) C hEv ⟨rfl, rfl⟩ hN [_, _] _ rfl rfl (fun sz => x_X8_garble l hl B μ ν a Ad w x1 x2 0 r0 h D E sz) rfl gw_1043 gw_1 gw_1040 gw_1041 gw_1042 ⟨by decide +kernel, by decide +kernel, by decide +kernel⟩ ⟨rfl, rfl⟩ ⟨Nat.le_of_ble_eq_true rfl, Nat.le_of_ble_eq_true rfl⟩ (rcvT ⟨h0, fun e => absurd e (by decide)⟩ rfl rfl rfl) (Nat.le_of_ble_eq_true rfl) dL_garble_3 ⟨by show 1 ≤ kc (chg ν 1 6) - kc ν; omega, by show 6 ≤ ks (chg ν 1 6) - ks ν; omega⟩ [] ⟨0, 7, 10, 24⟩ [] hT (fun z hz => absurd hz (by simp)) (by decide) (by decide) gw_473 (by decide) rfl (fun q9 => ?_)
  refine g_chg 1 6 ?_
  refine g_widen (k := kc (chg ν 1 6) - kc ν) (n := ks (chg ν 1 6) - ks ν) (by omega) (by omega) ?_
  refine g_astore (lv' := [(4, .ref q9), (0, .ref (Ad 0 0)), (1, .int x1), (2, .int x2)]) C dL_garble_10 (by decide) rfl ?_
  refine g_sipush (v := (-7100 : Int32)) C dL_garble_12 (by decide) ?_
  refine g_vx ?_
  exact g_iret C hr rfl hz ⟨rfl, rfl, fun _ => rfl, fun _ => rfl⟩ ⟨rfl, Ad, rfl, kp_rfl _ _⟩ (fun j x h => by simp at h) dL_garble_15
theorem m_L_garble {w : Nat} {μ : MP} {ν : NC} {x1 : Int32} {x2 : Int32} {r0 : (MP × NC) × Int32} (h : f_L_garble w μ ν x1 x2 = some r0) : mn ν r0.1.2 := by
  unfold f_L_garble at h
  obtain ⟨⟨t, r⟩, h1, h⟩ := bind_of h
  by_cases c0 : t = 0
  · subst c0
    obtain rfl := Option.some.inj ((if_pos rfl).symm.trans h)
    exact mn_rfl _
  · replace h := (if_neg c0).symm.trans h
    by_cases c1 : t = 1
    · subst c1
      obtain rfl := Option.some.inj ((if_pos rfl).symm.trans h)
      exact mn_chg _ _ _
    replace h := (if_neg c1).symm.trans h
    exact absurd h (by simp)
theorem c_L_garble (l : Launch) (hl : l.stackTraces = false) (B : Nat × (Nat → Nat)) (μ : MP) (ν : NC) (a : AS) (Ad : Nat → Nat → Nat) (w : Nat) (x1 : Int32) (x2 : Int32) (r0 : (MP × NC) × Int32) (h : f_L_garble w μ ν x1 x2 = some r0) (h0 : 0 < ν.2 0) : ∀ D E sz, vx_Met l yL_garble gwL_garble ({ frames := 8, cells := kc (r0).1.2 - kc ν, slots := ks (r0).1.2 - ks ν, locals := 143 } : Room) (cPh D E sz B (zS μ ν a Ad) [.ref (Ad 0 0), .int x1, .int x2]) (cQ D E sz (zS μ ν a Ad) [] (pI (fun r u => r = (r0).2 ∧ ∃ A1, u = (zS (r0).1.1 (r0).1.2 a A1, []) ∧ kp ν Ad A1))) (fun _ _ _ => False) (kc (r0).1.2 - kc ν) (ks (r0).1.2 - ks ν) (Aof (zS μ ν a Ad) [] sz) := by
  unfold f_L_garble at h
  obtain ⟨⟨t, r⟩, h1, h⟩ := bind_of h
  by_cases c0 : t = 0
  · subst c0
    obtain rfl := Option.some.inj ((if_pos rfl).symm.trans h)
    exact r_L_garble l hl B μ ν a Ad w x1 x2 r h1 h0
  · replace h := (if_neg c0).symm.trans h
    by_cases c1 : t = 1
    · subst c1
      obtain rfl := Option.some.inj ((if_pos rfl).symm.trans h)
      exact e1_L_garble l hl B μ ν a Ad w x1 x2 r h1 h0
    replace h := (if_neg c1).symm.trans h
    exact absurd h (by simp)
noncomputable def f_L_pass (w : Nat) (μ : MP) (ν : NC) (x1 : Int32) : Option ((MP × NC) × Int32) := (f_X8_pass w μ ν x1).bind (fun r => if r.1 = 0 then some ((r.2.1, r.2.2)) else if r.1 = 2 then some ((μ, chg ν 1 6), (-7200 : Int32)) else none)
set_option maxHeartbeats 4000000 in
set_option maxRecDepth 100000 in
theorem r_L_pass (l : Launch) (hl : l.stackTraces = false) (B : Nat × (Nat → Nat)) (μ : MP) (ν : NC) (a : AS) (Ad : Nat → Nat → Nat) (w : Nat) (x1 : Int32) (r0 : (MP × NC) × Int32) (h : f_X8_pass w μ ν x1 = some (0, r0)) (h0 : 0 < ν.2 0) : ∀ D E sz, vx_Met l yL_pass gwL_pass ({ frames := 10, cells := kc ((r0.1, r0.2)).1.2 - kc ν, slots := ks ((r0.1, r0.2)).1.2 - ks ν, locals := 292 } : Room) (cPh D E sz B (zS μ ν a Ad) [.ref (Ad 0 0), .int x1]) (cQ D E sz (zS μ ν a Ad) [] (pI (fun r u => r = ((r0.1, r0.2)).2 ∧ ∃ A1, u = (zS ((r0.1, r0.2)).1.1 ((r0.1, r0.2)).1.2 a A1, []) ∧ kp ν Ad A1))) (fun _ _ _ => False) (kc ((r0.1, r0.2)).1.2 - kc ν) (ks ((r0.1, r0.2)).1.2 - ks ν) (Aof (zS μ ν a Ad) [] sz) := by
  intro D E sz
  refine g_ofH (cc := cL_pass) (maxL := 4) (ret := some .int) (hh := [(0, 6, 9, 26)]) (own := "TradeLineLaw") (by decide) rfl rfl (Nat.le_of_ble_eq_true rfl) ?_
  intro p e s m args below meth c C hr hT hz hEv hN
  refine g_vx ?_
  refine g_lv (lv' := [(0, .ref (Ad 0 0)), (1, .int x1)]) [0, 1] rfl ?_
  refine g_aload_n C dL_pass_0 rfl 0 rfl ?_
  refine g_iload_n C dL_pass_1 rfl 1 rfl ?_
  refine g_cVie (n := 1) (exc := []) (exr := []) C hEv ⟨rfl, rfl⟩ [_] _ rfl rfl [] [] rfl rfl rfl rfl (fun _ h => absurd h (by simp)) (fun _ h => absurd h (by simp)) (fun _ h => absurd h (by simp)) (fun sz => c_X8_pass l B μ ν a Ad w x1 r0 h D E sz) rfl gw_1056 gw_1 gw_1053 gw_1054 gw_1055 ⟨by decide +kernel, by decide +kernel, by decide +kernel⟩ ⟨rfl, rfl⟩ ⟨Nat.le_of_ble_eq_true rfl, Nat.le_of_ble_eq_true rfl⟩ (rcvT ⟨h0, fun e => absurd e (by decide)⟩ rfl rfl rfl) (Nat.le_of_ble_eq_true rfl) dL_pass_2 ⟨by show 0 + (kc r0.1.2 - kc ν) ≤ kc r0.1.2 - kc ν; omega, by show 0 + (ks r0.1.2 - ks ν) ≤ ks r0.1.2 - ks ν; omega⟩ (fun r u hp hx => ?_)
  obtain ⟨er, A1, rfl, hkp⟩ := hp
  have hm := m_X8_pass h
  rw [er]
  try dsimp only [List.append_nil]
  refine g_widen (k := kc r0.1.2 - kc ν) (n := ks r0.1.2 - ks ν) (by omega) (by omega) ?_
  refine g_istore_n (lv' := [(2, .int r0.2), (0, .ref (Ad 0 0)), (1, .int x1)]) C dL_pass_5 rfl (by decide) rfl ?_
  refine g_goto (tgt := 14) C dL_pass_6 (by decide) ?_
  refine g_iload_n C dL_pass_14 rfl 0 rfl ?_
  exact g_iret C hr rfl hz ⟨(hm.2.2.2 30 (by decide) (by decide)).1, (hm.2.2.2 31 (by decide) (by decide)).1, hkp.2.1, hkp.2.2⟩ ⟨rfl, A1, rfl, hkp⟩ (fun j x h => by simp at h) dL_pass_15
set_option maxHeartbeats 4000000 in
set_option maxRecDepth 100000 in
theorem e2_L_pass (l : Launch) (hl : l.stackTraces = false) (B : Nat × (Nat → Nat)) (μ : MP) (ν : NC) (a : AS) (Ad : Nat → Nat → Nat) (w : Nat) (x1 : Int32) (r0 : (MP × NC) × Int32) (h : f_X8_pass w μ ν x1 = some (2, r0)) (h0 : 0 < ν.2 0) : ∀ D E sz, vx_Met l yL_pass gwL_pass ({ frames := 10, cells := kc (((μ, chg ν 1 6), (-7200 : Int32))).1.2 - kc ν, slots := ks (((μ, chg ν 1 6), (-7200 : Int32))).1.2 - ks ν, locals := 292 } : Room) (cPh D E sz B (zS μ ν a Ad) [.ref (Ad 0 0), .int x1]) (cQ D E sz (zS μ ν a Ad) [] (pI (fun r u => r = (((μ, chg ν 1 6), (-7200 : Int32))).2 ∧ ∃ A1, u = (zS (((μ, chg ν 1 6), (-7200 : Int32))).1.1 (((μ, chg ν 1 6), (-7200 : Int32))).1.2 a A1, []) ∧ kp ν Ad A1))) (fun _ _ _ => False) (kc (((μ, chg ν 1 6), (-7200 : Int32))).1.2 - kc ν) (ks (((μ, chg ν 1 6), (-7200 : Int32))).1.2 - ks ν) (Aof (zS μ ν a Ad) [] sz) := by
  have k1 := kc_chg ν 1 6; have k2 := ks_chg ν 1 6
  intro D E sz
  refine g_ofH (cc := cL_pass) (maxL := 4) (ret := some .int) (hh := [(0, 6, 9, 26)]) (own := "TradeLineLaw") (by decide) rfl rfl (Nat.le_of_ble_eq_true rfl) ?_
  intro p e s m args below meth c C hr hT hz hEv hN
  refine g_lv (lv' := [(0, .ref (Ad 0 0)), (1, .int x1)]) [0, 1] rfl ?_
  refine g_aload_n C dL_pass_0 rfl 0 rfl ?_
  refine g_iload_n C dL_pass_1 rfl 1 rfl ?_
  refine g_hc (n := 2) (index := 1) C hEv ⟨rfl, rfl⟩ hN [_] _ rfl rfl (fun sz => x_X8_pass l hl B μ ν a Ad w x1 1 r0 h D E sz) rfl gw_1056 gw_1 gw_1053 gw_1054 gw_1055 ⟨by decide +kernel, by decide +kernel, by decide +kernel⟩ ⟨rfl, rfl⟩ ⟨Nat.le_of_ble_eq_true rfl, Nat.le_of_ble_eq_true rfl⟩ (rcvT ⟨h0, fun e => absurd e (by decide)⟩ rfl rfl rfl) (Nat.le_of_ble_eq_true rfl) dL_pass_2 ⟨by show 1 ≤ kc (chg ν 1 6) - kc ν; omega, by show 6 ≤ ks (chg ν 1 6) - ks ν; omega⟩ [] ⟨0, 6, 9, 26⟩ [] hT (fun z hz => absurd hz (by simp)) (by decide) (by decide) gw_474 (by decide) rfl (fun q9 => ?_)
  refine g_chg 1 6 ?_
  refine g_widen (k := kc (chg ν 1 6) - kc ν) (n := ks (chg ν 1 6) - ks ν) (by omega) (by omega) ?_
  refine g_astore_n (lv' := [(3, .ref q9), (0, .ref (Ad 0 0)), (1, .int x1)]) C dL_pass_9 rfl (by decide) rfl ?_
  refine g_sipush (v := (-7200 : Int32)) C dL_pass_10 (by decide) ?_
  refine g_vx ?_
  exact g_iret C hr rfl hz ⟨rfl, rfl, fun _ => rfl, fun _ => rfl⟩ ⟨rfl, Ad, rfl, kp_rfl _ _⟩ (fun j x h => by simp at h) dL_pass_13
theorem m_L_pass {w : Nat} {μ : MP} {ν : NC} {x1 : Int32} {r0 : (MP × NC) × Int32} (h : f_L_pass w μ ν x1 = some r0) : mn ν r0.1.2 := by
  unfold f_L_pass at h
  obtain ⟨⟨t, r⟩, h1, h⟩ := bind_of h
  by_cases c0 : t = 0
  · subst c0
    obtain rfl := Option.some.inj ((if_pos rfl).symm.trans h)
    have hmm := m_X8_pass h1
    exact hmm
  · replace h := (if_neg c0).symm.trans h
    by_cases c2 : t = 2
    · subst c2
      obtain rfl := Option.some.inj ((if_pos rfl).symm.trans h)
      exact mn_chg _ _ _
    replace h := (if_neg c2).symm.trans h
    exact absurd h (by simp)
theorem c_L_pass (l : Launch) (hl : l.stackTraces = false) (B : Nat × (Nat → Nat)) (μ : MP) (ν : NC) (a : AS) (Ad : Nat → Nat → Nat) (w : Nat) (x1 : Int32) (r0 : (MP × NC) × Int32) (h : f_L_pass w μ ν x1 = some r0) (h0 : 0 < ν.2 0) : ∀ D E sz, vx_Met l yL_pass gwL_pass ({ frames := 10, cells := kc (r0).1.2 - kc ν, slots := ks (r0).1.2 - ks ν, locals := 292 } : Room) (cPh D E sz B (zS μ ν a Ad) [.ref (Ad 0 0), .int x1]) (cQ D E sz (zS μ ν a Ad) [] (pI (fun r u => r = (r0).2 ∧ ∃ A1, u = (zS (r0).1.1 (r0).1.2 a A1, []) ∧ kp ν Ad A1))) (fun _ _ _ => False) (kc (r0).1.2 - kc ν) (ks (r0).1.2 - ks ν) (Aof (zS μ ν a Ad) [] sz) := by
  unfold f_L_pass at h
  obtain ⟨⟨t, r⟩, h1, h⟩ := bind_of h
  by_cases c0 : t = 0
  · subst c0
    obtain rfl := Option.some.inj ((if_pos rfl).symm.trans h)
    exact r_L_pass l hl B μ ν a Ad w x1 r h1 h0
  · replace h := (if_neg c0).symm.trans h
    by_cases c2 : t = 2
    · subst c2
      obtain rfl := Option.some.inj ((if_pos rfl).symm.trans h)
      exact e2_L_pass l hl B μ ν a Ad w x1 r h1 h0
    replace h := (if_neg c2).symm.trans h
    exact absurd h (by simp)
noncomputable def f_L_order (w : Nat) (μ : MP) (ν : NC) (x1 : Int32) (x2 : Int32) (x3 : Int32) : Option ((MP × NC) × Int32) := (f_X8_order w μ ν x1 x2 x3).bind (fun r => if r.1 = 0 then some ((r.2.1, r.2.2)) else if r.1 = 2 then some ((μ, chg ν 1 6), (-7200 : Int32)) else if r.1 = 3 then some ((μ, chg ν 1 6), (-7300 : Int32)) else none)
set_option maxHeartbeats 4000000 in
set_option maxRecDepth 100000 in
theorem r_L_order (l : Launch) (hl : l.stackTraces = false) (B : Nat × (Nat → Nat)) (μ : MP) (ν : NC) (a : AS) (Ad : Nat → Nat → Nat) (w : Nat) (x1 : Int32) (x2 : Int32) (x3 : Int32) (r0 : (MP × NC) × Int32) (h : f_X8_order w μ ν x1 x2 x3 = some (0, r0)) (h0 : 0 < ν.2 0) : ∀ D E sz, vx_Met l yL_order gwL_order ({ frames := 9, cells := kc ((r0.1, r0.2)).1.2 - kc ν, slots := ks ((r0.1, r0.2)).1.2 - ks ν, locals := 270 } : Room) (cPh D E sz B (zS μ ν a Ad) [.ref (Ad 0 0), .int x1, .int x2, .int x3]) (cQ D E sz (zS μ ν a Ad) [] (pI (fun r u => r = ((r0.1, r0.2)).2 ∧ ∃ A1, u = (zS ((r0.1, r0.2)).1.1 ((r0.1, r0.2)).1.2 a A1, []) ∧ kp ν Ad A1))) (fun _ _ _ => False) (kc ((r0.1, r0.2)).1.2 - kc ν) (ks ((r0.1, r0.2)).1.2 - ks ν) (Aof (zS μ ν a Ad) [] sz) := by
  intro D E sz
  refine g_ofH (cc := cL_order) (maxL := 6) (ret := some .int) (hh := [(0, 9, 12, 26), (0, 9, 18, 14)]) (own := "TradeLineLaw") (by decide) rfl rfl (Nat.le_of_ble_eq_true rfl) ?_
  intro p e s m args below meth c C hr hT hz hEv hN
  refine g_vx ?_
  refine g_lv (lv' := [(0, .ref (Ad 0 0)), (1, .int x1), (2, .int x2), (3, .int x3)]) [0, 1, 2, 3] rfl ?_
  refine g_aload_n C dL_order_0 rfl 0 rfl ?_
  refine g_iload_n C dL_order_1 rfl 1 rfl ?_
  refine g_iload_n C dL_order_2 rfl 2 rfl ?_
  refine g_iload_n C dL_order_3 rfl 3 rfl ?_
  refine g_cVie (n := 3) (exc := []) (exr := []) C hEv ⟨rfl, rfl⟩ [_, _, _] _ rfl rfl [] [] rfl rfl rfl rfl (fun _ h => absurd h (by simp)) (fun _ h => absurd h (by simp)) (fun _ h => absurd h (by simp)) (fun sz => c_X8_order l B μ ν a Ad w x1 x2 x3 r0 h D E sz) rfl gw_1072 gw_1 gw_1069 gw_1070 gw_1071 ⟨by decide +kernel, by decide +kernel, by decide +kernel⟩ ⟨rfl, rfl⟩ ⟨Nat.le_of_ble_eq_true rfl, Nat.le_of_ble_eq_true rfl⟩ (rcvT ⟨h0, fun e => absurd e (by decide)⟩ rfl rfl rfl) (Nat.le_of_ble_eq_true rfl) dL_order_4 ⟨by show 0 + (kc r0.1.2 - kc ν) ≤ kc r0.1.2 - kc ν; omega, by show 0 + (ks r0.1.2 - ks ν) ≤ ks r0.1.2 - ks ν; omega⟩ (fun r u hp hx => ?_)
  obtain ⟨er, A1, rfl, hkp⟩ := hp
  have hm := m_X8_order h
  rw [er]
  try dsimp only [List.append_nil]
  refine g_widen (k := kc r0.1.2 - kc ν) (n := ks r0.1.2 - ks ν) (by omega) (by omega) ?_
  refine g_istore (lv' := [(4, .int r0.2), (0, .ref (Ad 0 0)), (1, .int x1), (2, .int x2), (3, .int x3)]) C dL_order_7 (by decide) rfl ?_
  refine g_goto (tgt := 24) C dL_order_9 (by decide) ?_
  refine g_iload C dL_order_24 0 rfl ?_
  exact g_iret C hr rfl hz ⟨(hm.2.2.2 30 (by decide) (by decide)).1, (hm.2.2.2 31 (by decide) (by decide)).1, hkp.2.1, hkp.2.2⟩ ⟨rfl, A1, rfl, hkp⟩ (fun j x h => by simp at h) dL_order_26
set_option maxHeartbeats 4000000 in
set_option maxRecDepth 100000 in
theorem e2_L_order (l : Launch) (hl : l.stackTraces = false) (B : Nat × (Nat → Nat)) (μ : MP) (ν : NC) (a : AS) (Ad : Nat → Nat → Nat) (w : Nat) (x1 : Int32) (x2 : Int32) (x3 : Int32) (r0 : (MP × NC) × Int32) (h : f_X8_order w μ ν x1 x2 x3 = some (2, r0)) (h0 : 0 < ν.2 0) : ∀ D E sz, vx_Met l yL_order gwL_order ({ frames := 9, cells := kc (((μ, chg ν 1 6), (-7200 : Int32))).1.2 - kc ν, slots := ks (((μ, chg ν 1 6), (-7200 : Int32))).1.2 - ks ν, locals := 270 } : Room) (cPh D E sz B (zS μ ν a Ad) [.ref (Ad 0 0), .int x1, .int x2, .int x3]) (cQ D E sz (zS μ ν a Ad) [] (pI (fun r u => r = (((μ, chg ν 1 6), (-7200 : Int32))).2 ∧ ∃ A1, u = (zS (((μ, chg ν 1 6), (-7200 : Int32))).1.1 (((μ, chg ν 1 6), (-7200 : Int32))).1.2 a A1, []) ∧ kp ν Ad A1))) (fun _ _ _ => False) (kc (((μ, chg ν 1 6), (-7200 : Int32))).1.2 - kc ν) (ks (((μ, chg ν 1 6), (-7200 : Int32))).1.2 - ks ν) (Aof (zS μ ν a Ad) [] sz) := by
  have k1 := kc_chg ν 1 6; have k2 := ks_chg ν 1 6
  intro D E sz
  refine g_ofH (cc := cL_order) (maxL := 6) (ret := some .int) (hh := [(0, 9, 12, 26), (0, 9, 18, 14)]) (own := "TradeLineLaw") (by decide) rfl rfl (Nat.le_of_ble_eq_true rfl) ?_
  intro p e s m args below meth c C hr hT hz hEv hN
  refine g_lv (lv' := [(0, .ref (Ad 0 0)), (1, .int x1), (2, .int x2), (3, .int x3)]) [0, 1, 2, 3] rfl ?_
  refine g_aload_n C dL_order_0 rfl 0 rfl ?_
  refine g_iload_n C dL_order_1 rfl 1 rfl ?_
  refine g_iload_n C dL_order_2 rfl 2 rfl ?_
  refine g_iload_n C dL_order_3 rfl 3 rfl ?_
  refine g_hc (n := 2) (index := 3) C hEv ⟨rfl, rfl⟩ hN [_, _, _] _ rfl rfl (fun sz => x_X8_order l hl B μ ν a Ad w x1 x2 x3 1 r0 h D E sz) rfl gw_1072 gw_1 gw_1069 gw_1070 gw_1071 ⟨by decide +kernel, by decide +kernel, by decide +kernel⟩ ⟨rfl, rfl⟩ ⟨Nat.le_of_ble_eq_true rfl, Nat.le_of_ble_eq_true rfl⟩ (rcvT ⟨h0, fun e => absurd e (by decide)⟩ rfl rfl rfl) (Nat.le_of_ble_eq_true rfl) dL_order_4 ⟨by show 1 ≤ kc (chg ν 1 6) - kc ν; omega, by show 6 ≤ ks (chg ν 1 6) - ks ν; omega⟩ [] ⟨0, 9, 12, 26⟩ [⟨0, 9, 18, 14⟩] hT (fun z hz => absurd hz (by simp)) (by decide) (by decide) gw_474 (by decide) rfl (fun q9 => ?_)
  refine g_chg 1 6 ?_
  refine g_widen (k := kc (chg ν 1 6) - kc ν) (n := ks (chg ν 1 6) - ks ν) (by omega) (by omega) ?_
  refine g_astore (lv' := [(5, .ref q9), (0, .ref (Ad 0 0)), (1, .int x1), (2, .int x2), (3, .int x3)]) C dL_order_12 (by decide) rfl ?_
  refine g_sipush (v := (-7200 : Int32)) C dL_order_14 (by decide) ?_
  refine g_vx ?_
  exact g_iret C hr rfl hz ⟨rfl, rfl, fun _ => rfl, fun _ => rfl⟩ ⟨rfl, Ad, rfl, kp_rfl _ _⟩ (fun j x h => by simp at h) dL_order_17
set_option maxHeartbeats 4000000 in
set_option maxRecDepth 100000 in
theorem e3_L_order (l : Launch) (hl : l.stackTraces = false) (B : Nat × (Nat → Nat)) (μ : MP) (ν : NC) (a : AS) (Ad : Nat → Nat → Nat) (w : Nat) (x1 : Int32) (x2 : Int32) (x3 : Int32) (r0 : (MP × NC) × Int32) (h : f_X8_order w μ ν x1 x2 x3 = some (3, r0)) (h0 : 0 < ν.2 0) : ∀ D E sz, vx_Met l yL_order gwL_order ({ frames := 9, cells := kc (((μ, chg ν 1 6), (-7300 : Int32))).1.2 - kc ν, slots := ks (((μ, chg ν 1 6), (-7300 : Int32))).1.2 - ks ν, locals := 270 } : Room) (cPh D E sz B (zS μ ν a Ad) [.ref (Ad 0 0), .int x1, .int x2, .int x3]) (cQ D E sz (zS μ ν a Ad) [] (pI (fun r u => r = (((μ, chg ν 1 6), (-7300 : Int32))).2 ∧ ∃ A1, u = (zS (((μ, chg ν 1 6), (-7300 : Int32))).1.1 (((μ, chg ν 1 6), (-7300 : Int32))).1.2 a A1, []) ∧ kp ν Ad A1))) (fun _ _ _ => False) (kc (((μ, chg ν 1 6), (-7300 : Int32))).1.2 - kc ν) (ks (((μ, chg ν 1 6), (-7300 : Int32))).1.2 - ks ν) (Aof (zS μ ν a Ad) [] sz) := by
  have k1 := kc_chg ν 1 6; have k2 := ks_chg ν 1 6
  intro D E sz
  refine g_ofH (cc := cL_order) (maxL := 6) (ret := some .int) (hh := [(0, 9, 12, 26), (0, 9, 18, 14)]) (own := "TradeLineLaw") (by decide) rfl rfl (Nat.le_of_ble_eq_true rfl) ?_
  intro p e s m args below meth c C hr hT hz hEv hN
  refine g_lv (lv' := [(0, .ref (Ad 0 0)), (1, .int x1), (2, .int x2), (3, .int x3)]) [0, 1, 2, 3] rfl ?_
  refine g_aload_n C dL_order_0 rfl 0 rfl ?_
  refine g_iload_n C dL_order_1 rfl 1 rfl ?_
  refine g_iload_n C dL_order_2 rfl 2 rfl ?_
  refine g_iload_n C dL_order_3 rfl 3 rfl ?_
  refine g_hc (n := 3) (index := 3) C hEv ⟨rfl, rfl⟩ hN [_, _, _] _ rfl rfl (fun sz => x_X8_order l hl B μ ν a Ad w x1 x2 x3 2 r0 h D E sz) rfl gw_1072 gw_1 gw_1069 gw_1070 gw_1071 ⟨by decide +kernel, by decide +kernel, by decide +kernel⟩ ⟨rfl, rfl⟩ ⟨Nat.le_of_ble_eq_true rfl, Nat.le_of_ble_eq_true rfl⟩ (rcvT ⟨h0, fun e => absurd e (by decide)⟩ rfl rfl rfl) (Nat.le_of_ble_eq_true rfl) dL_order_4 ⟨by show 1 ≤ kc (chg ν 1 6) - kc ν; omega, by show 6 ≤ ks (chg ν 1 6) - ks ν; omega⟩ [⟨0, 9, 12, 26⟩] ⟨0, 9, 18, 14⟩ [] hT (fun z hz => by obtain rfl := List.mem_singleton.mp hz; exact ⟨by decide, exN 2, gw_474, by simp [eN]⟩) (by decide) (by decide) gw_214 (by decide) rfl (fun q9 => ?_)
  refine g_chg 1 6 ?_
  refine g_widen (k := kc (chg ν 1 6) - kc ν) (n := ks (chg ν 1 6) - ks ν) (by omega) (by omega) ?_
  refine g_astore (lv' := [(5, .ref q9), (0, .ref (Ad 0 0)), (1, .int x1), (2, .int x2), (3, .int x3)]) C dL_order_18 (by decide) rfl ?_
  refine g_sipush (v := (-7300 : Int32)) C dL_order_20 (by decide) ?_
  refine g_vx ?_
  exact g_iret C hr rfl hz ⟨rfl, rfl, fun _ => rfl, fun _ => rfl⟩ ⟨rfl, Ad, rfl, kp_rfl _ _⟩ (fun j x h => by simp at h) dL_order_23
theorem m_L_order {w : Nat} {μ : MP} {ν : NC} {x1 : Int32} {x2 : Int32} {x3 : Int32} {r0 : (MP × NC) × Int32} (h : f_L_order w μ ν x1 x2 x3 = some r0) : mn ν r0.1.2 := by
  unfold f_L_order at h
  obtain ⟨⟨t, r⟩, h1, h⟩ := bind_of h
  by_cases c0 : t = 0
  · subst c0
    obtain rfl := Option.some.inj ((if_pos rfl).symm.trans h)
    have hmm := m_X8_order h1
    exact hmm
  · replace h := (if_neg c0).symm.trans h
    by_cases c2 : t = 2
    · subst c2
      obtain rfl := Option.some.inj ((if_pos rfl).symm.trans h)
      exact mn_chg _ _ _
    replace h := (if_neg c2).symm.trans h
    by_cases c3 : t = 3
    · subst c3
      obtain rfl := Option.some.inj ((if_pos rfl).symm.trans h)
      exact mn_chg _ _ _
    replace h := (if_neg c3).symm.trans h
    exact absurd h (by simp)
theorem c_L_order (l : Launch) (hl : l.stackTraces = false) (B : Nat × (Nat → Nat)) (μ : MP) (ν : NC) (a : AS) (Ad : Nat → Nat → Nat) (w : Nat) (x1 : Int32) (x2 : Int32) (x3 : Int32) (r0 : (MP × NC) × Int32) (h : f_L_order w μ ν x1 x2 x3 = some r0) (h0 : 0 < ν.2 0) : ∀ D E sz, vx_Met l yL_order gwL_order ({ frames := 9, cells := kc (r0).1.2 - kc ν, slots := ks (r0).1.2 - ks ν, locals := 270 } : Room) (cPh D E sz B (zS μ ν a Ad) [.ref (Ad 0 0), .int x1, .int x2, .int x3]) (cQ D E sz (zS μ ν a Ad) [] (pI (fun r u => r = (r0).2 ∧ ∃ A1, u = (zS (r0).1.1 (r0).1.2 a A1, []) ∧ kp ν Ad A1))) (fun _ _ _ => False) (kc (r0).1.2 - kc ν) (ks (r0).1.2 - ks ν) (Aof (zS μ ν a Ad) [] sz) := by
  unfold f_L_order at h
  obtain ⟨⟨t, r⟩, h1, h⟩ := bind_of h
  by_cases c0 : t = 0
  · subst c0
    obtain rfl := Option.some.inj ((if_pos rfl).symm.trans h)
    exact r_L_order l hl B μ ν a Ad w x1 x2 x3 r h1 h0
  · replace h := (if_neg c0).symm.trans h
    by_cases c2 : t = 2
    · subst c2
      obtain rfl := Option.some.inj ((if_pos rfl).symm.trans h)
      exact e2_L_order l hl B μ ν a Ad w x1 x2 x3 r h1 h0
    replace h := (if_neg c2).symm.trans h
    by_cases c3 : t = 3
    · subst c3
      obtain rfl := Option.some.inj ((if_pos rfl).symm.trans h)
      exact e3_L_order l hl B μ ν a Ad w x1 x2 x3 r h1 h0
    replace h := (if_neg c3).symm.trans h
    exact absurd h (by simp)
noncomputable def f_L_cancel (w : Nat) (μ : MP) (ν : NC) (x1 : Int32) : Option ((MP × NC) × Int32) := (f_X8_cancel w μ ν x1).bind (fun r => if r.1 = 0 then some ((r.2.1, r.2.2)) else if r.1 = 1 then some ((μ, chg ν 1 6), (-7100 : Int32)) else if r.1 = 3 then some ((μ, chg ν 1 6), (-7300 : Int32)) else none)
set_option maxHeartbeats 4000000 in
set_option maxRecDepth 100000 in
theorem r_L_cancel (l : Launch) (hl : l.stackTraces = false) (B : Nat × (Nat → Nat)) (μ : MP) (ν : NC) (a : AS) (Ad : Nat → Nat → Nat) (w : Nat) (x1 : Int32) (r0 : (MP × NC) × Int32) (h : f_X8_cancel w μ ν x1 = some (0, r0)) (h0 : 0 < ν.2 0) : ∀ D E sz, vx_Met l yL_cancel gwL_cancel ({ frames := 9, cells := kc ((r0.1, r0.2)).1.2 - kc ν, slots := ks ((r0.1, r0.2)).1.2 - ks ν, locals := 268 } : Room) (cPh D E sz B (zS μ ν a Ad) [.ref (Ad 0 0), .int x1]) (cQ D E sz (zS μ ν a Ad) [] (pI (fun r u => r = ((r0.1, r0.2)).2 ∧ ∃ A1, u = (zS ((r0.1, r0.2)).1.1 ((r0.1, r0.2)).1.2 a A1, []) ∧ kp ν Ad A1))) (fun _ _ _ => False) (kc ((r0.1, r0.2)).1.2 - kc ν) (ks ((r0.1, r0.2)).1.2 - ks ν) (Aof (zS μ ν a Ad) [] sz) := by
  intro D E sz
  refine g_ofH (cc := cL_cancel) (maxL := 4) (ret := some .int) (hh := [(0, 6, 9, 24), (0, 6, 14, 14)]) (own := "TradeLineLaw") (by decide) rfl rfl (Nat.le_of_ble_eq_true rfl) ?_
  intro p e s m args below meth c C hr hT hz hEv hN
  refine g_vx ?_
  refine g_lv (lv' := [(0, .ref (Ad 0 0)), (1, .int x1)]) [0, 1] rfl ?_
  refine g_aload_n C dL_cancel_0 rfl 0 rfl ?_
  refine g_iload_n C dL_cancel_1 rfl 1 rfl ?_
  refine g_cVie (n := 1) (exc := []) (exr := []) C hEv ⟨rfl, rfl⟩ [_] _ rfl rfl [] [] rfl rfl rfl rfl (fun _ h => absurd h (by simp)) (fun _ h => absurd h (by simp)) (fun _ h => absurd h (by simp)) (fun sz => c_X8_cancel l B μ ν a Ad w x1 r0 h D E sz) rfl gw_1151 gw_1 gw_1148 gw_1149 gw_1150 ⟨by decide +kernel, by decide +kernel, by decide +kernel⟩ ⟨rfl, rfl⟩ ⟨Nat.le_of_ble_eq_true rfl, Nat.le_of_ble_eq_true rfl⟩ (rcvT ⟨h0, fun e => absurd e (by decide)⟩ rfl rfl rfl) (Nat.le_of_ble_eq_true rfl) dL_cancel_2 ⟨by show 0 + (kc r0.1.2 - kc ν) ≤ kc r0.1.2 - kc ν; omega, by show 0 + (ks r0.1.2 - ks ν) ≤ ks r0.1.2 - ks ν; omega⟩ (fun r u hp hx => ?_)
  obtain ⟨er, A1, rfl, hkp⟩ := hp
  have hm := m_X8_cancel h
  rw [er]
  try dsimp only [List.append_nil]
  refine g_widen (k := kc r0.1.2 - kc ν) (n := ks r0.1.2 - ks ν) (by omega) (by omega) ?_
  refine g_istore_n (lv' := [(2, .int r0.2), (0, .ref (Ad 0 0)), (1, .int x1)]) C dL_cancel_5 rfl (by decide) rfl ?_
  refine g_goto (tgt := 19) C dL_cancel_6 (by decide) ?_
  refine g_iload_n C dL_cancel_19 rfl 0 rfl ?_
  exact g_iret C hr rfl hz ⟨(hm.2.2.2 30 (by decide) (by decide)).1, (hm.2.2.2 31 (by decide) (by decide)).1, hkp.2.1, hkp.2.2⟩ ⟨rfl, A1, rfl, hkp⟩ (fun j x h => by simp at h) dL_cancel_20
set_option maxHeartbeats 4000000 in
set_option maxRecDepth 100000 in
theorem e1_L_cancel (l : Launch) (hl : l.stackTraces = false) (B : Nat × (Nat → Nat)) (μ : MP) (ν : NC) (a : AS) (Ad : Nat → Nat → Nat) (w : Nat) (x1 : Int32) (r0 : (MP × NC) × Int32) (h : f_X8_cancel w μ ν x1 = some (1, r0)) (h0 : 0 < ν.2 0) : ∀ D E sz, vx_Met l yL_cancel gwL_cancel ({ frames := 9, cells := kc (((μ, chg ν 1 6), (-7100 : Int32))).1.2 - kc ν, slots := ks (((μ, chg ν 1 6), (-7100 : Int32))).1.2 - ks ν, locals := 268 } : Room) (cPh D E sz B (zS μ ν a Ad) [.ref (Ad 0 0), .int x1]) (cQ D E sz (zS μ ν a Ad) [] (pI (fun r u => r = (((μ, chg ν 1 6), (-7100 : Int32))).2 ∧ ∃ A1, u = (zS (((μ, chg ν 1 6), (-7100 : Int32))).1.1 (((μ, chg ν 1 6), (-7100 : Int32))).1.2 a A1, []) ∧ kp ν Ad A1))) (fun _ _ _ => False) (kc (((μ, chg ν 1 6), (-7100 : Int32))).1.2 - kc ν) (ks (((μ, chg ν 1 6), (-7100 : Int32))).1.2 - ks ν) (Aof (zS μ ν a Ad) [] sz) := by
  have k1 := kc_chg ν 1 6; have k2 := ks_chg ν 1 6
  intro D E sz
  refine g_ofH (cc := cL_cancel) (maxL := 4) (ret := some .int) (hh := [(0, 6, 9, 24), (0, 6, 14, 14)]) (own := "TradeLineLaw") (by decide) rfl rfl (Nat.le_of_ble_eq_true rfl) ?_
  intro p e s m args below meth c C hr hT hz hEv hN
  refine g_lv (lv' := [(0, .ref (Ad 0 0)), (1, .int x1)]) [0, 1] rfl ?_
  refine g_aload_n C dL_cancel_0 rfl 0 rfl ?_
  refine g_iload_n C dL_cancel_1 rfl 1 rfl ?_
  refine g_hc (n := 1) (index := 1) C hEv ⟨rfl, rfl⟩ hN [_] _ rfl rfl (fun sz => x_X8_cancel l hl B μ ν a Ad w x1 0 r0 h D E sz) rfl gw_1151 gw_1 gw_1148 gw_1149 gw_1150 ⟨by decide +kernel, by decide +kernel, by decide +kernel⟩ ⟨rfl, rfl⟩ ⟨Nat.le_of_ble_eq_true rfl, Nat.le_of_ble_eq_true rfl⟩ (rcvT ⟨h0, fun e => absurd e (by decide)⟩ rfl rfl rfl) (Nat.le_of_ble_eq_true rfl) dL_cancel_2 ⟨by show 1 ≤ kc (chg ν 1 6) - kc ν; omega, by show 6 ≤ ks (chg ν 1 6) - ks ν; omega⟩ [] ⟨0, 6, 9, 24⟩ [⟨0, 6, 14, 14⟩] hT (fun z hz => absurd hz (by simp)) (by decide) (by decide) gw_473 (by decide) rfl (fun q9 => ?_)
  refine g_chg 1 6 ?_
  refine g_widen (k := kc (chg ν 1 6) - kc ν) (n := ks (chg ν 1 6) - ks ν) (by omega) (by omega) ?_
  refine g_astore_n (lv' := [(3, .ref q9), (0, .ref (Ad 0 0)), (1, .int x1)]) C dL_cancel_9 rfl (by decide) rfl ?_
  refine g_sipush (v := (-7100 : Int32)) C dL_cancel_10 (by decide) ?_
  refine g_vx ?_
  exact g_iret C hr rfl hz ⟨rfl, rfl, fun _ => rfl, fun _ => rfl⟩ ⟨rfl, Ad, rfl, kp_rfl _ _⟩ (fun j x h => by simp at h) dL_cancel_13
set_option maxHeartbeats 4000000 in
set_option maxRecDepth 100000 in
theorem e3_L_cancel (l : Launch) (hl : l.stackTraces = false) (B : Nat × (Nat → Nat)) (μ : MP) (ν : NC) (a : AS) (Ad : Nat → Nat → Nat) (w : Nat) (x1 : Int32) (r0 : (MP × NC) × Int32) (h : f_X8_cancel w μ ν x1 = some (3, r0)) (h0 : 0 < ν.2 0) : ∀ D E sz, vx_Met l yL_cancel gwL_cancel ({ frames := 9, cells := kc (((μ, chg ν 1 6), (-7300 : Int32))).1.2 - kc ν, slots := ks (((μ, chg ν 1 6), (-7300 : Int32))).1.2 - ks ν, locals := 268 } : Room) (cPh D E sz B (zS μ ν a Ad) [.ref (Ad 0 0), .int x1]) (cQ D E sz (zS μ ν a Ad) [] (pI (fun r u => r = (((μ, chg ν 1 6), (-7300 : Int32))).2 ∧ ∃ A1, u = (zS (((μ, chg ν 1 6), (-7300 : Int32))).1.1 (((μ, chg ν 1 6), (-7300 : Int32))).1.2 a A1, []) ∧ kp ν Ad A1))) (fun _ _ _ => False) (kc (((μ, chg ν 1 6), (-7300 : Int32))).1.2 - kc ν) (ks (((μ, chg ν 1 6), (-7300 : Int32))).1.2 - ks ν) (Aof (zS μ ν a Ad) [] sz) := by
  have k1 := kc_chg ν 1 6; have k2 := ks_chg ν 1 6
  intro D E sz
  refine g_ofH (cc := cL_cancel) (maxL := 4) (ret := some .int) (hh := [(0, 6, 9, 24), (0, 6, 14, 14)]) (own := "TradeLineLaw") (by decide) rfl rfl (Nat.le_of_ble_eq_true rfl) ?_
  intro p e s m args below meth c C hr hT hz hEv hN
  refine g_lv (lv' := [(0, .ref (Ad 0 0)), (1, .int x1)]) [0, 1] rfl ?_
  refine g_aload_n C dL_cancel_0 rfl 0 rfl ?_
  refine g_iload_n C dL_cancel_1 rfl 1 rfl ?_
  refine g_hc (n := 3) (index := 1) C hEv ⟨rfl, rfl⟩ hN [_] _ rfl rfl (fun sz => x_X8_cancel l hl B μ ν a Ad w x1 2 r0 h D E sz) rfl gw_1151 gw_1 gw_1148 gw_1149 gw_1150 ⟨by decide +kernel, by decide +kernel, by decide +kernel⟩ ⟨rfl, rfl⟩ ⟨Nat.le_of_ble_eq_true rfl, Nat.le_of_ble_eq_true rfl⟩ (rcvT ⟨h0, fun e => absurd e (by decide)⟩ rfl rfl rfl) (Nat.le_of_ble_eq_true rfl) dL_cancel_2 ⟨by show 1 ≤ kc (chg ν 1 6) - kc ν; omega, by show 6 ≤ ks (chg ν 1 6) - ks ν; omega⟩ [⟨0, 6, 9, 24⟩] ⟨0, 6, 14, 14⟩ [] hT (fun z hz => by obtain rfl := List.mem_singleton.mp hz; exact ⟨by decide, exN 1, gw_473, by simp [eN]⟩) (by decide) (by decide) gw_214 (by decide) rfl (fun q9 => ?_)
  refine g_chg 1 6 ?_
  refine g_widen (k := kc (chg ν 1 6) - kc ν) (n := ks (chg ν 1 6) - ks ν) (by omega) (by omega) ?_
  refine g_astore_n (lv' := [(3, .ref q9), (0, .ref (Ad 0 0)), (1, .int x1)]) C dL_cancel_14 rfl (by decide) rfl ?_
  refine g_sipush (v := (-7300 : Int32)) C dL_cancel_15 (by decide) ?_
  refine g_vx ?_
  exact g_iret C hr rfl hz ⟨rfl, rfl, fun _ => rfl, fun _ => rfl⟩ ⟨rfl, Ad, rfl, kp_rfl _ _⟩ (fun j x h => by simp at h) dL_cancel_18
theorem m_L_cancel {w : Nat} {μ : MP} {ν : NC} {x1 : Int32} {r0 : (MP × NC) × Int32} (h : f_L_cancel w μ ν x1 = some r0) : mn ν r0.1.2 := by
  unfold f_L_cancel at h
  obtain ⟨⟨t, r⟩, h1, h⟩ := bind_of h
  by_cases c0 : t = 0
  · subst c0
    obtain rfl := Option.some.inj ((if_pos rfl).symm.trans h)
    have hmm := m_X8_cancel h1
    exact hmm
  · replace h := (if_neg c0).symm.trans h
    by_cases c1 : t = 1
    · subst c1
      obtain rfl := Option.some.inj ((if_pos rfl).symm.trans h)
      exact mn_chg _ _ _
    replace h := (if_neg c1).symm.trans h
    by_cases c3 : t = 3
    · subst c3
      obtain rfl := Option.some.inj ((if_pos rfl).symm.trans h)
      exact mn_chg _ _ _
    replace h := (if_neg c3).symm.trans h
    exact absurd h (by simp)
theorem c_L_cancel (l : Launch) (hl : l.stackTraces = false) (B : Nat × (Nat → Nat)) (μ : MP) (ν : NC) (a : AS) (Ad : Nat → Nat → Nat) (w : Nat) (x1 : Int32) (r0 : (MP × NC) × Int32) (h : f_L_cancel w μ ν x1 = some r0) (h0 : 0 < ν.2 0) : ∀ D E sz, vx_Met l yL_cancel gwL_cancel ({ frames := 9, cells := kc (r0).1.2 - kc ν, slots := ks (r0).1.2 - ks ν, locals := 268 } : Room) (cPh D E sz B (zS μ ν a Ad) [.ref (Ad 0 0), .int x1]) (cQ D E sz (zS μ ν a Ad) [] (pI (fun r u => r = (r0).2 ∧ ∃ A1, u = (zS (r0).1.1 (r0).1.2 a A1, []) ∧ kp ν Ad A1))) (fun _ _ _ => False) (kc (r0).1.2 - kc ν) (ks (r0).1.2 - ks ν) (Aof (zS μ ν a Ad) [] sz) := by
  unfold f_L_cancel at h
  obtain ⟨⟨t, r⟩, h1, h⟩ := bind_of h
  by_cases c0 : t = 0
  · subst c0
    obtain rfl := Option.some.inj ((if_pos rfl).symm.trans h)
    exact r_L_cancel l hl B μ ν a Ad w x1 r h1 h0
  · replace h := (if_neg c0).symm.trans h
    by_cases c1 : t = 1
    · subst c1
      obtain rfl := Option.some.inj ((if_pos rfl).symm.trans h)
      exact e1_L_cancel l hl B μ ν a Ad w x1 r h1 h0
    replace h := (if_neg c1).symm.trans h
    by_cases c3 : t = 3
    · subst c3
      obtain rfl := Option.some.inj ((if_pos rfl).symm.trans h)
      exact e3_L_cancel l hl B μ ν a Ad w x1 r h1 h0
    replace h := (if_neg c3).symm.trans h
    exact absurd h (by simp)
noncomputable def f_L_replace (w : Nat) (μ : MP) (ν : NC) (x1 : Int32) (x2 : Int32) (x3 : Int32) : Option ((MP × NC) × Int32) := (f_X8_replace w μ ν x1 x2 x3).bind (fun r => if r.1 = 0 then some ((r.2.1, r.2.2)) else if r.1 = 1 then some ((μ, chg ν 1 6), (-7100 : Int32)) else if r.1 = 2 then some ((μ, chg ν 1 6), (-7200 : Int32)) else if r.1 = 3 then some ((μ, chg ν 1 6), (-7300 : Int32)) else none)
set_option maxHeartbeats 4000000 in
set_option maxRecDepth 100000 in
theorem r_L_replace (l : Launch) (hl : l.stackTraces = false) (B : Nat × (Nat → Nat)) (μ : MP) (ν : NC) (a : AS) (Ad : Nat → Nat → Nat) (w : Nat) (x1 : Int32) (x2 : Int32) (x3 : Int32) (r0 : (MP × NC) × Int32) (h : f_X8_replace w μ ν x1 x2 x3 = some (0, r0)) (h0 : 0 < ν.2 0) : ∀ D E sz, vx_Met l yL_replace gwL_replace ({ frames := 9, cells := kc ((r0.1, r0.2)).1.2 - kc ν, slots := ks ((r0.1, r0.2)).1.2 - ks ν, locals := 270 } : Room) (cPh D E sz B (zS μ ν a Ad) [.ref (Ad 0 0), .int x1, .int x2, .int x3]) (cQ D E sz (zS μ ν a Ad) [] (pI (fun r u => r = ((r0.1, r0.2)).2 ∧ ∃ A1, u = (zS ((r0.1, r0.2)).1.1 ((r0.1, r0.2)).1.2 a A1, []) ∧ kp ν Ad A1))) (fun _ _ _ => False) (kc ((r0.1, r0.2)).1.2 - kc ν) (ks ((r0.1, r0.2)).1.2 - ks ν) (Aof (zS μ ν a Ad) [] sz) := by
  intro D E sz
  refine g_ofH (cc := cL_replace) (maxL := 6) (ret := some .int) (hh := [(0, 9, 12, 24), (0, 9, 18, 26), (0, 9, 24, 14)]) (own := "TradeLineLaw") (by decide) rfl rfl (Nat.le_of_ble_eq_true rfl) ?_
  intro p e s m args below meth c C hr hT hz hEv hN
  refine g_vx ?_
  refine g_lv (lv' := [(0, .ref (Ad 0 0)), (1, .int x1), (2, .int x2), (3, .int x3)]) [0, 1, 2, 3] rfl ?_
  refine g_aload_n C dL_replace_0 rfl 0 rfl ?_
  refine g_iload_n C dL_replace_1 rfl 1 rfl ?_
  refine g_iload_n C dL_replace_2 rfl 2 rfl ?_
  refine g_iload_n C dL_replace_3 rfl 3 rfl ?_
  refine g_cVie (n := 3) (exc := []) (exr := []) C hEv ⟨rfl, rfl⟩ [_, _, _] _ rfl rfl [] [] rfl rfl rfl rfl (fun _ h => absurd h (by simp)) (fun _ h => absurd h (by simp)) (fun _ h => absurd h (by simp)) (fun sz => c_X8_replace l B μ ν a Ad w x1 x2 x3 r0 h D E sz) rfl gw_1172 gw_1 gw_1169 gw_1170 gw_1171 ⟨by decide +kernel, by decide +kernel, by decide +kernel⟩ ⟨rfl, rfl⟩ ⟨Nat.le_of_ble_eq_true rfl, Nat.le_of_ble_eq_true rfl⟩ (rcvT ⟨h0, fun e => absurd e (by decide)⟩ rfl rfl rfl) (Nat.le_of_ble_eq_true rfl) dL_replace_4 ⟨by show 0 + (kc r0.1.2 - kc ν) ≤ kc r0.1.2 - kc ν; omega, by show 0 + (ks r0.1.2 - ks ν) ≤ ks r0.1.2 - ks ν; omega⟩ (fun r u hp hx => ?_)
  obtain ⟨er, A1, rfl, hkp⟩ := hp
  have hm := m_X8_replace h
  rw [er]
  try dsimp only [List.append_nil]
  refine g_widen (k := kc r0.1.2 - kc ν) (n := ks r0.1.2 - ks ν) (by omega) (by omega) ?_
  refine g_istore (lv' := [(4, .int r0.2), (0, .ref (Ad 0 0)), (1, .int x1), (2, .int x2), (3, .int x3)]) C dL_replace_7 (by decide) rfl ?_
  refine g_goto (tgt := 30) C dL_replace_9 (by decide) ?_
  refine g_iload C dL_replace_30 0 rfl ?_
  exact g_iret C hr rfl hz ⟨(hm.2.2.2 30 (by decide) (by decide)).1, (hm.2.2.2 31 (by decide) (by decide)).1, hkp.2.1, hkp.2.2⟩ ⟨rfl, A1, rfl, hkp⟩ (fun j x h => by simp at h) dL_replace_32
set_option maxHeartbeats 4000000 in
set_option maxRecDepth 100000 in
theorem e1_L_replace (l : Launch) (hl : l.stackTraces = false) (B : Nat × (Nat → Nat)) (μ : MP) (ν : NC) (a : AS) (Ad : Nat → Nat → Nat) (w : Nat) (x1 : Int32) (x2 : Int32) (x3 : Int32) (r0 : (MP × NC) × Int32) (h : f_X8_replace w μ ν x1 x2 x3 = some (1, r0)) (h0 : 0 < ν.2 0) : ∀ D E sz, vx_Met l yL_replace gwL_replace ({ frames := 9, cells := kc (((μ, chg ν 1 6), (-7100 : Int32))).1.2 - kc ν, slots := ks (((μ, chg ν 1 6), (-7100 : Int32))).1.2 - ks ν, locals := 270 } : Room) (cPh D E sz B (zS μ ν a Ad) [.ref (Ad 0 0), .int x1, .int x2, .int x3]) (cQ D E sz (zS μ ν a Ad) [] (pI (fun r u => r = (((μ, chg ν 1 6), (-7100 : Int32))).2 ∧ ∃ A1, u = (zS (((μ, chg ν 1 6), (-7100 : Int32))).1.1 (((μ, chg ν 1 6), (-7100 : Int32))).1.2 a A1, []) ∧ kp ν Ad A1))) (fun _ _ _ => False) (kc (((μ, chg ν 1 6), (-7100 : Int32))).1.2 - kc ν) (ks (((μ, chg ν 1 6), (-7100 : Int32))).1.2 - ks ν) (Aof (zS μ ν a Ad) [] sz) := by
  have k1 := kc_chg ν 1 6; have k2 := ks_chg ν 1 6
  intro D E sz
  refine g_ofH (cc := cL_replace) (maxL := 6) (ret := some .int) (hh := [(0, 9, 12, 24), (0, 9, 18, 26), (0, 9, 24, 14)]) (own := "TradeLineLaw") (by decide) rfl rfl (Nat.le_of_ble_eq_true rfl) ?_
  intro p e s m args below meth c C hr hT hz hEv hN
  refine g_lv (lv' := [(0, .ref (Ad 0 0)), (1, .int x1), (2, .int x2), (3, .int x3)]) [0, 1, 2, 3] rfl ?_
  refine g_aload_n C dL_replace_0 rfl 0 rfl ?_
  refine g_iload_n C dL_replace_1 rfl 1 rfl ?_
  refine g_iload_n C dL_replace_2 rfl 2 rfl ?_
  refine g_iload_n C dL_replace_3 rfl 3 rfl ?_
  refine g_hc (n := 1) (index := 3) C hEv ⟨rfl, rfl⟩ hN [_, _, _] _ rfl rfl (fun sz => x_X8_replace l hl B μ ν a Ad w x1 x2 x3 0 r0 h D E sz) rfl gw_1172 gw_1 gw_1169 gw_1170 gw_1171 ⟨by decide +kernel, by decide +kernel, by decide +kernel⟩ ⟨rfl, rfl⟩ ⟨Nat.le_of_ble_eq_true rfl, Nat.le_of_ble_eq_true rfl⟩ (rcvT ⟨h0, fun e => absurd e (by decide)⟩ rfl rfl rfl) (Nat.le_of_ble_eq_true rfl) dL_replace_4 ⟨by show 1 ≤ kc (chg ν 1 6) - kc ν; omega, by show 6 ≤ ks (chg ν 1 6) - ks ν; omega⟩ [] ⟨0, 9, 12, 24⟩ [⟨0, 9, 18, 26⟩, ⟨0, 9, 24, 14⟩] hT (fun z hz => absurd hz (by simp)) (by decide) (by decide) gw_473 (by decide) rfl (fun q9 => ?_)
  refine g_chg 1 6 ?_
  refine g_widen (k := kc (chg ν 1 6) - kc ν) (n := ks (chg ν 1 6) - ks ν) (by omega) (by omega) ?_
  refine g_astore (lv' := [(5, .ref q9), (0, .ref (Ad 0 0)), (1, .int x1), (2, .int x2), (3, .int x3)]) C dL_replace_12 (by decide) rfl ?_
  refine g_sipush (v := (-7100 : Int32)) C dL_replace_14 (by decide) ?_
  refine g_vx ?_
  exact g_iret C hr rfl hz ⟨rfl, rfl, fun _ => rfl, fun _ => rfl⟩ ⟨rfl, Ad, rfl, kp_rfl _ _⟩ (fun j x h => by simp at h) dL_replace_17
set_option maxHeartbeats 4000000 in
set_option maxRecDepth 100000 in
theorem e2_L_replace (l : Launch) (hl : l.stackTraces = false) (B : Nat × (Nat → Nat)) (μ : MP) (ν : NC) (a : AS) (Ad : Nat → Nat → Nat) (w : Nat) (x1 : Int32) (x2 : Int32) (x3 : Int32) (r0 : (MP × NC) × Int32) (h : f_X8_replace w μ ν x1 x2 x3 = some (2, r0)) (h0 : 0 < ν.2 0) : ∀ D E sz, vx_Met l yL_replace gwL_replace ({ frames := 9, cells := kc (((μ, chg ν 1 6), (-7200 : Int32))).1.2 - kc ν, slots := ks (((μ, chg ν 1 6), (-7200 : Int32))).1.2 - ks ν, locals := 270 } : Room) (cPh D E sz B (zS μ ν a Ad) [.ref (Ad 0 0), .int x1, .int x2, .int x3]) (cQ D E sz (zS μ ν a Ad) [] (pI (fun r u => r = (((μ, chg ν 1 6), (-7200 : Int32))).2 ∧ ∃ A1, u = (zS (((μ, chg ν 1 6), (-7200 : Int32))).1.1 (((μ, chg ν 1 6), (-7200 : Int32))).1.2 a A1, []) ∧ kp ν Ad A1))) (fun _ _ _ => False) (kc (((μ, chg ν 1 6), (-7200 : Int32))).1.2 - kc ν) (ks (((μ, chg ν 1 6), (-7200 : Int32))).1.2 - ks ν) (Aof (zS μ ν a Ad) [] sz) := by
  have k1 := kc_chg ν 1 6; have k2 := ks_chg ν 1 6
  intro D E sz
  refine g_ofH (cc := cL_replace) (maxL := 6) (ret := some .int) (hh := [(0, 9, 12, 24), (0, 9, 18, 26), (0, 9, 24, 14)]) (own := "TradeLineLaw") (by decide) rfl rfl (Nat.le_of_ble_eq_true rfl) ?_
  intro p e s m args below meth c C hr hT hz hEv hN
  refine g_lv (lv' := [(0, .ref (Ad 0 0)), (1, .int x1), (2, .int x2), (3, .int x3)]) [0, 1, 2, 3] rfl ?_
  refine g_aload_n C dL_replace_0 rfl 0 rfl ?_
  refine g_iload_n C dL_replace_1 rfl 1 rfl ?_
  refine g_iload_n C dL_replace_2 rfl 2 rfl ?_
  refine g_iload_n C dL_replace_3 rfl 3 rfl ?_
  refine g_hc (n := 2) (index := 3) C hEv ⟨rfl, rfl⟩ hN [_, _, _] _ rfl rfl (fun sz => x_X8_replace l hl B μ ν a Ad w x1 x2 x3 1 r0 h D E sz) rfl gw_1172 gw_1 gw_1169 gw_1170 gw_1171 ⟨by decide +kernel, by decide +kernel, by decide +kernel⟩ ⟨rfl, rfl⟩ ⟨Nat.le_of_ble_eq_true rfl, Nat.le_of_ble_eq_true rfl⟩ (rcvT ⟨h0, fun e => absurd e (by decide)⟩ rfl rfl rfl) (Nat.le_of_ble_eq_true rfl) dL_replace_4 ⟨by show 1 ≤ kc (chg ν 1 6) - kc ν; omega, by show 6 ≤ ks (chg ν 1 6) - ks ν; omega⟩ [⟨0, 9, 12, 24⟩] ⟨0, 9, 18, 26⟩ [⟨0, 9, 24, 14⟩] hT (fun z hz => by obtain rfl := List.mem_singleton.mp hz; exact ⟨by decide, exN 1, gw_473, by simp [eN]⟩) (by decide) (by decide) gw_474 (by decide) rfl (fun q9 => ?_)
  refine g_chg 1 6 ?_
  refine g_widen (k := kc (chg ν 1 6) - kc ν) (n := ks (chg ν 1 6) - ks ν) (by omega) (by omega) ?_
  refine g_astore (lv' := [(5, .ref q9), (0, .ref (Ad 0 0)), (1, .int x1), (2, .int x2), (3, .int x3)]) C dL_replace_18 (by decide) rfl ?_
  refine g_sipush (v := (-7200 : Int32)) C dL_replace_20 (by decide) ?_
  refine g_vx ?_
  exact g_iret C hr rfl hz ⟨rfl, rfl, fun _ => rfl, fun _ => rfl⟩ ⟨rfl, Ad, rfl, kp_rfl _ _⟩ (fun j x h => by simp at h) dL_replace_23
set_option maxHeartbeats 4000000 in
set_option maxRecDepth 100000 in
theorem e3_L_replace (l : Launch) (hl : l.stackTraces = false) (B : Nat × (Nat → Nat)) (μ : MP) (ν : NC) (a : AS) (Ad : Nat → Nat → Nat) (w : Nat) (x1 : Int32) (x2 : Int32) (x3 : Int32) (r0 : (MP × NC) × Int32) (h : f_X8_replace w μ ν x1 x2 x3 = some (3, r0)) (h0 : 0 < ν.2 0) : ∀ D E sz, vx_Met l yL_replace gwL_replace ({ frames := 9, cells := kc (((μ, chg ν 1 6), (-7300 : Int32))).1.2 - kc ν, slots := ks (((μ, chg ν 1 6), (-7300 : Int32))).1.2 - ks ν, locals := 270 } : Room) (cPh D E sz B (zS μ ν a Ad) [.ref (Ad 0 0), .int x1, .int x2, .int x3]) (cQ D E sz (zS μ ν a Ad) [] (pI (fun r u => r = (((μ, chg ν 1 6), (-7300 : Int32))).2 ∧ ∃ A1, u = (zS (((μ, chg ν 1 6), (-7300 : Int32))).1.1 (((μ, chg ν 1 6), (-7300 : Int32))).1.2 a A1, []) ∧ kp ν Ad A1))) (fun _ _ _ => False) (kc (((μ, chg ν 1 6), (-7300 : Int32))).1.2 - kc ν) (ks (((μ, chg ν 1 6), (-7300 : Int32))).1.2 - ks ν) (Aof (zS μ ν a Ad) [] sz) := by
  have k1 := kc_chg ν 1 6; have k2 := ks_chg ν 1 6
  intro D E sz
  refine g_ofH (cc := cL_replace) (maxL := 6) (ret := some .int) (hh := [(0, 9, 12, 24), (0, 9, 18, 26), (0, 9, 24, 14)]) (own := "TradeLineLaw") (by decide) rfl rfl (Nat.le_of_ble_eq_true rfl) ?_
  intro p e s m args below meth c C hr hT hz hEv hN
  refine g_lv (lv' := [(0, .ref (Ad 0 0)), (1, .int x1), (2, .int x2), (3, .int x3)]) [0, 1, 2, 3] rfl ?_
  refine g_aload_n C dL_replace_0 rfl 0 rfl ?_
  refine g_iload_n C dL_replace_1 rfl 1 rfl ?_
  refine g_iload_n C dL_replace_2 rfl 2 rfl ?_
  refine g_iload_n C dL_replace_3 rfl 3 rfl ?_
  refine g_hc (n := 3) (index := 3) C hEv ⟨rfl, rfl⟩ hN [_, _, _] _ rfl rfl (fun sz => x_X8_replace l hl B μ ν a Ad w x1 x2 x3 2 r0 h D E sz) rfl gw_1172 gw_1 gw_1169 gw_1170 gw_1171 ⟨by decide +kernel, by decide +kernel, by decide +kernel⟩ ⟨rfl, rfl⟩ ⟨Nat.le_of_ble_eq_true rfl, Nat.le_of_ble_eq_true rfl⟩ (rcvT ⟨h0, fun e => absurd e (by decide)⟩ rfl rfl rfl) (Nat.le_of_ble_eq_true rfl) dL_replace_4 ⟨by show 1 ≤ kc (chg ν 1 6) - kc ν; omega, by show 6 ≤ ks (chg ν 1 6) - ks ν; omega⟩ [⟨0, 9, 12, 24⟩, ⟨0, 9, 18, 26⟩] ⟨0, 9, 24, 14⟩ [] hT (fun z hz => by
      rcases List.mem_cons.mp hz with rfl | hz
      · exact ⟨by decide, exN 1, gw_473, by simp [eN]⟩
      · obtain rfl := List.mem_singleton.mp hz; exact ⟨by decide, exN 2, gw_474, by simp [eN]⟩) (by decide) (by decide) gw_214 (by decide) rfl (fun q9 => ?_)
  refine g_chg 1 6 ?_
  refine g_widen (k := kc (chg ν 1 6) - kc ν) (n := ks (chg ν 1 6) - ks ν) (by omega) (by omega) ?_
  refine g_astore (lv' := [(5, .ref q9), (0, .ref (Ad 0 0)), (1, .int x1), (2, .int x2), (3, .int x3)]) C dL_replace_24 (by decide) rfl ?_
  refine g_sipush (v := (-7300 : Int32)) C dL_replace_26 (by decide) ?_
  refine g_vx ?_
  exact g_iret C hr rfl hz ⟨rfl, rfl, fun _ => rfl, fun _ => rfl⟩ ⟨rfl, Ad, rfl, kp_rfl _ _⟩ (fun j x h => by simp at h) dL_replace_29
theorem m_L_replace {w : Nat} {μ : MP} {ν : NC} {x1 : Int32} {x2 : Int32} {x3 : Int32} {r0 : (MP × NC) × Int32} (h : f_L_replace w μ ν x1 x2 x3 = some r0) : mn ν r0.1.2 := by
  unfold f_L_replace at h
  obtain ⟨⟨t, r⟩, h1, h⟩ := bind_of h
  by_cases c0 : t = 0
  · subst c0
    obtain rfl := Option.some.inj ((if_pos rfl).symm.trans h)
    have hmm := m_X8_replace h1
    exact hmm
  · replace h := (if_neg c0).symm.trans h
    by_cases c1 : t = 1
    · subst c1
      obtain rfl := Option.some.inj ((if_pos rfl).symm.trans h)
      exact mn_chg _ _ _
    replace h := (if_neg c1).symm.trans h
    by_cases c2 : t = 2
    · subst c2
      obtain rfl := Option.some.inj ((if_pos rfl).symm.trans h)
      exact mn_chg _ _ _
    replace h := (if_neg c2).symm.trans h
    by_cases c3 : t = 3
    · subst c3
      obtain rfl := Option.some.inj ((if_pos rfl).symm.trans h)
      exact mn_chg _ _ _
    replace h := (if_neg c3).symm.trans h
    exact absurd h (by simp)
theorem c_L_replace (l : Launch) (hl : l.stackTraces = false) (B : Nat × (Nat → Nat)) (μ : MP) (ν : NC) (a : AS) (Ad : Nat → Nat → Nat) (w : Nat) (x1 : Int32) (x2 : Int32) (x3 : Int32) (r0 : (MP × NC) × Int32) (h : f_L_replace w μ ν x1 x2 x3 = some r0) (h0 : 0 < ν.2 0) : ∀ D E sz, vx_Met l yL_replace gwL_replace ({ frames := 9, cells := kc (r0).1.2 - kc ν, slots := ks (r0).1.2 - ks ν, locals := 270 } : Room) (cPh D E sz B (zS μ ν a Ad) [.ref (Ad 0 0), .int x1, .int x2, .int x3]) (cQ D E sz (zS μ ν a Ad) [] (pI (fun r u => r = (r0).2 ∧ ∃ A1, u = (zS (r0).1.1 (r0).1.2 a A1, []) ∧ kp ν Ad A1))) (fun _ _ _ => False) (kc (r0).1.2 - kc ν) (ks (r0).1.2 - ks ν) (Aof (zS μ ν a Ad) [] sz) := by
  unfold f_L_replace at h
  obtain ⟨⟨t, r⟩, h1, h⟩ := bind_of h
  by_cases c0 : t = 0
  · subst c0
    obtain rfl := Option.some.inj ((if_pos rfl).symm.trans h)
    exact r_L_replace l hl B μ ν a Ad w x1 x2 x3 r h1 h0
  · replace h := (if_neg c0).symm.trans h
    by_cases c1 : t = 1
    · subst c1
      obtain rfl := Option.some.inj ((if_pos rfl).symm.trans h)
      exact e1_L_replace l hl B μ ν a Ad w x1 x2 x3 r h1 h0
    replace h := (if_neg c1).symm.trans h
    by_cases c2 : t = 2
    · subst c2
      obtain rfl := Option.some.inj ((if_pos rfl).symm.trans h)
      exact e2_L_replace l hl B μ ν a Ad w x1 x2 x3 r h1 h0
    replace h := (if_neg c2).symm.trans h
    by_cases c3 : t = 3
    · subst c3
      obtain rfl := Option.some.inj ((if_pos rfl).symm.trans h)
      exact e3_L_replace l hl B μ ν a Ad w x1 x2 x3 r h1 h0
    replace h := (if_neg c3).symm.trans h
    exact absurd h (by simp)
noncomputable def f_L_quote (w : Nat) (μ : MP) (ν : NC) (x1 : Int32) (x2 : Int32) (x3 : Int32) (x4 : Int32) : Option ((MP × NC) × Int32) := (f_X8_quote w μ ν x1 x2 x3 x4).bind (fun r => if r.1 = 0 then some ((r.2.1, r.2.2)) else if r.1 = 1 then some ((μ, chg ν 1 6), (-7100 : Int32)) else if r.1 = 2 then some ((μ, chg ν 1 6), (-7200 : Int32)) else none)
set_option maxHeartbeats 4000000 in
set_option maxRecDepth 100000 in
theorem r_L_quote (l : Launch) (hl : l.stackTraces = false) (B : Nat × (Nat → Nat)) (μ : MP) (ν : NC) (a : AS) (Ad : Nat → Nat → Nat) (w : Nat) (x1 : Int32) (x2 : Int32) (x3 : Int32) (x4 : Int32) (r0 : (MP × NC) × Int32) (h : f_X8_quote w μ ν x1 x2 x3 x4 = some (0, r0)) (h0 : 0 < ν.2 0) : ∀ D E sz, vx_Met l yL_quote gwL_quote ({ frames := 10, cells := kc ((r0.1, r0.2)).1.2 - kc ν, slots := ks ((r0.1, r0.2)).1.2 - ks ν, locals := 299 } : Room) (cPh D E sz B (zS μ ν a Ad) [.ref (Ad 0 0), .int x1, .int x2, .int x3, .int x4]) (cQ D E sz (zS μ ν a Ad) [] (pI (fun r u => r = ((r0.1, r0.2)).2 ∧ ∃ A1, u = (zS ((r0.1, r0.2)).1.1 ((r0.1, r0.2)).1.2 a A1, []) ∧ kp ν Ad A1))) (fun _ _ _ => False) (kc ((r0.1, r0.2)).1.2 - kc ν) (ks ((r0.1, r0.2)).1.2 - ks ν) (Aof (zS μ ν a Ad) [] sz) := by
  intro D E sz
  refine g_ofH (cc := cL_quote) (maxL := 7) (ret := some .int) (hh := [(0, 11, 14, 24), (0, 11, 20, 26)]) (own := "TradeLineLaw") (by decide) rfl rfl (Nat.le_of_ble_eq_true rfl) ?_
  intro p e s m args below meth c C hr hT hz hEv hN
  refine g_vx ?_
  refine g_lv (lv' := [(0, .ref (Ad 0 0)), (1, .int x1), (2, .int x2), (3, .int x3), (4, .int x4)]) [0, 1, 2, 3, 4] rfl ?_
  refine g_aload_n C dL_quote_0 rfl 0 rfl ?_
  refine g_iload_n C dL_quote_1 rfl 1 rfl ?_
  refine g_iload_n C dL_quote_2 rfl 2 rfl ?_
  refine g_iload_n C dL_quote_3 rfl 3 rfl ?_
  refine g_iload C dL_quote_4 4 rfl ?_
  refine g_cVie (n := 4) (exc := []) (exr := []) C hEv ⟨rfl, rfl⟩ [_, _, _, _] _ rfl rfl [] [] rfl rfl rfl rfl (fun _ h => absurd h (by simp)) (fun _ h => absurd h (by simp)) (fun _ h => absurd h (by simp)) (fun sz => c_X8_quote l B μ ν a Ad w x1 x2 x3 x4 r0 h D E sz) rfl gw_1179 gw_1 gw_1176 gw_1177 gw_1178 ⟨by decide +kernel, by decide +kernel, by decide +kernel⟩ ⟨rfl, rfl⟩ ⟨Nat.le_of_ble_eq_true rfl, Nat.le_of_ble_eq_true rfl⟩ (rcvT ⟨h0, fun e => absurd e (by decide)⟩ rfl rfl rfl) (Nat.le_of_ble_eq_true rfl) dL_quote_6 ⟨by show 0 + (kc r0.1.2 - kc ν) ≤ kc r0.1.2 - kc ν; omega, by show 0 + (ks r0.1.2 - ks ν) ≤ ks r0.1.2 - ks ν; omega⟩ (fun r u hp hx => ?_)
  obtain ⟨er, A1, rfl, hkp⟩ := hp
  have hm := m_X8_quote h
  rw [er]
  try dsimp only [List.append_nil]
  refine g_widen (k := kc r0.1.2 - kc ν) (n := ks r0.1.2 - ks ν) (by omega) (by omega) ?_
  refine g_istore (lv' := [(5, .int r0.2), (0, .ref (Ad 0 0)), (1, .int x1), (2, .int x2), (3, .int x3), (4, .int x4)]) C dL_quote_9 (by decide) rfl ?_
  refine g_goto (tgt := 26) C dL_quote_11 (by decide) ?_
  refine g_iload C dL_quote_26 0 rfl ?_
  exact g_iret C hr rfl hz ⟨(hm.2.2.2 30 (by decide) (by decide)).1, (hm.2.2.2 31 (by decide) (by decide)).1, hkp.2.1, hkp.2.2⟩ ⟨rfl, A1, rfl, hkp⟩ (fun j x h => by simp at h) dL_quote_28
set_option maxHeartbeats 4000000 in
set_option maxRecDepth 100000 in
theorem e1_L_quote (l : Launch) (hl : l.stackTraces = false) (B : Nat × (Nat → Nat)) (μ : MP) (ν : NC) (a : AS) (Ad : Nat → Nat → Nat) (w : Nat) (x1 : Int32) (x2 : Int32) (x3 : Int32) (x4 : Int32) (r0 : (MP × NC) × Int32) (h : f_X8_quote w μ ν x1 x2 x3 x4 = some (1, r0)) (h0 : 0 < ν.2 0) : ∀ D E sz, vx_Met l yL_quote gwL_quote ({ frames := 10, cells := kc (((μ, chg ν 1 6), (-7100 : Int32))).1.2 - kc ν, slots := ks (((μ, chg ν 1 6), (-7100 : Int32))).1.2 - ks ν, locals := 299 } : Room) (cPh D E sz B (zS μ ν a Ad) [.ref (Ad 0 0), .int x1, .int x2, .int x3, .int x4]) (cQ D E sz (zS μ ν a Ad) [] (pI (fun r u => r = (((μ, chg ν 1 6), (-7100 : Int32))).2 ∧ ∃ A1, u = (zS (((μ, chg ν 1 6), (-7100 : Int32))).1.1 (((μ, chg ν 1 6), (-7100 : Int32))).1.2 a A1, []) ∧ kp ν Ad A1))) (fun _ _ _ => False) (kc (((μ, chg ν 1 6), (-7100 : Int32))).1.2 - kc ν) (ks (((μ, chg ν 1 6), (-7100 : Int32))).1.2 - ks ν) (Aof (zS μ ν a Ad) [] sz) := by
  have k1 := kc_chg ν 1 6; have k2 := ks_chg ν 1 6
  intro D E sz
  refine g_ofH (cc := cL_quote) (maxL := 7) (ret := some .int) (hh := [(0, 11, 14, 24), (0, 11, 20, 26)]) (own := "TradeLineLaw") (by decide) rfl rfl (Nat.le_of_ble_eq_true rfl) ?_
  intro p e s m args below meth c C hr hT hz hEv hN
  refine g_lv (lv' := [(0, .ref (Ad 0 0)), (1, .int x1), (2, .int x2), (3, .int x3), (4, .int x4)]) [0, 1, 2, 3, 4] rfl ?_
  refine g_aload_n C dL_quote_0 rfl 0 rfl ?_
  refine g_iload_n C dL_quote_1 rfl 1 rfl ?_
  refine g_iload_n C dL_quote_2 rfl 2 rfl ?_
  refine g_iload_n C dL_quote_3 rfl 3 rfl ?_
  refine g_iload C dL_quote_4 4 rfl ?_
  refine g_hc (n := 1) (index := 4) C hEv ⟨rfl, rfl⟩ hN [_, _, _, _] _ rfl rfl (fun sz => x_X8_quote l hl B μ ν a Ad w x1 x2 x3 x4 0 r0 h D E sz) rfl gw_1179 gw_1 gw_1176 gw_1177 gw_1178 ⟨by decide +kernel, by decide +kernel, by decide +kernel⟩ ⟨rfl, rfl⟩ ⟨Nat.le_of_ble_eq_true rfl, Nat.le_of_ble_eq_true rfl⟩ (rcvT ⟨h0, fun e => absurd e (by decide)⟩ rfl rfl rfl) (Nat.le_of_ble_eq_true rfl) dL_quote_6 ⟨by show 1 ≤ kc (chg ν 1 6) - kc ν; omega, by show 6 ≤ ks (chg ν 1 6) - ks ν; omega⟩ [] ⟨0, 11, 14, 24⟩ [⟨0, 11, 20, 26⟩] hT (fun z hz => absurd hz (by simp)) (by decide) (by decide) gw_473 (by decide) rfl (fun q9 => ?_)
  refine g_chg 1 6 ?_
  refine g_widen (k := kc (chg ν 1 6) - kc ν) (n := ks (chg ν 1 6) - ks ν) (by omega) (by omega) ?_
  refine g_astore (lv' := [(6, .ref q9), (0, .ref (Ad 0 0)), (1, .int x1), (2, .int x2), (3, .int x3), (4, .int x4)]) C dL_quote_14 (by decide) rfl ?_
  refine g_sipush (v := (-7100 : Int32)) C dL_quote_16 (by decide) ?_
  refine g_vx ?_
  exact g_iret C hr rfl hz ⟨rfl, rfl, fun _ => rfl, fun _ => rfl⟩ ⟨rfl, Ad, rfl, kp_rfl _ _⟩ (fun j x h => by simp at h) dL_quote_19
set_option maxHeartbeats 4000000 in
set_option maxRecDepth 100000 in
theorem e2_L_quote (l : Launch) (hl : l.stackTraces = false) (B : Nat × (Nat → Nat)) (μ : MP) (ν : NC) (a : AS) (Ad : Nat → Nat → Nat) (w : Nat) (x1 : Int32) (x2 : Int32) (x3 : Int32) (x4 : Int32) (r0 : (MP × NC) × Int32) (h : f_X8_quote w μ ν x1 x2 x3 x4 = some (2, r0)) (h0 : 0 < ν.2 0) : ∀ D E sz, vx_Met l yL_quote gwL_quote ({ frames := 10, cells := kc (((μ, chg ν 1 6), (-7200 : Int32))).1.2 - kc ν, slots := ks (((μ, chg ν 1 6), (-7200 : Int32))).1.2 - ks ν, locals := 299 } : Room) (cPh D E sz B (zS μ ν a Ad) [.ref (Ad 0 0), .int x1, .int x2, .int x3, .int x4]) (cQ D E sz (zS μ ν a Ad) [] (pI (fun r u => r = (((μ, chg ν 1 6), (-7200 : Int32))).2 ∧ ∃ A1, u = (zS (((μ, chg ν 1 6), (-7200 : Int32))).1.1 (((μ, chg ν 1 6), (-7200 : Int32))).1.2 a A1, []) ∧ kp ν Ad A1))) (fun _ _ _ => False) (kc (((μ, chg ν 1 6), (-7200 : Int32))).1.2 - kc ν) (ks (((μ, chg ν 1 6), (-7200 : Int32))).1.2 - ks ν) (Aof (zS μ ν a Ad) [] sz) := by
  have k1 := kc_chg ν 1 6; have k2 := ks_chg ν 1 6
  intro D E sz
  refine g_ofH (cc := cL_quote) (maxL := 7) (ret := some .int) (hh := [(0, 11, 14, 24), (0, 11, 20, 26)]) (own := "TradeLineLaw") (by decide) rfl rfl (Nat.le_of_ble_eq_true rfl) ?_
  intro p e s m args below meth c C hr hT hz hEv hN
  refine g_lv (lv' := [(0, .ref (Ad 0 0)), (1, .int x1), (2, .int x2), (3, .int x3), (4, .int x4)]) [0, 1, 2, 3, 4] rfl ?_
  refine g_aload_n C dL_quote_0 rfl 0 rfl ?_
  refine g_iload_n C dL_quote_1 rfl 1 rfl ?_
  refine g_iload_n C dL_quote_2 rfl 2 rfl ?_
  refine g_iload_n C dL_quote_3 rfl 3 rfl ?_
  refine g_iload C dL_quote_4 4 rfl ?_
  refine g_hc (n := 2) (index := 4) C hEv ⟨rfl, rfl⟩ hN [_, _, _, _] _ rfl rfl (fun sz => x_X8_quote l hl B μ ν a Ad w x1 x2 x3 x4 1 r0 h D E sz) rfl gw_1179 gw_1 gw_1176 gw_1177 gw_1178 ⟨by decide +kernel, by decide +kernel, by decide +kernel⟩ ⟨rfl, rfl⟩ ⟨Nat.le_of_ble_eq_true rfl, Nat.le_of_ble_eq_true rfl⟩ (rcvT ⟨h0, fun e => absurd e (by decide)⟩ rfl rfl rfl) (Nat.le_of_ble_eq_true rfl) dL_quote_6 ⟨by show 1 ≤ kc (chg ν 1 6) - kc ν; omega, by show 6 ≤ ks (chg ν 1 6) - ks ν; omega⟩ [⟨0, 11, 14, 24⟩] ⟨0, 11, 20, 26⟩ [] hT (fun z hz => by obtain rfl := List.mem_singleton.mp hz; exact ⟨by decide, exN 1, gw_473, by simp [eN]⟩) (by decide) (by decide) gw_474 (by decide) rfl (fun q9 => ?_)
  refine g_chg 1 6 ?_
  refine g_widen (k := kc (chg ν 1 6) - kc ν) (n := ks (chg ν 1 6) - ks ν) (by omega) (by omega) ?_
  refine g_astore (lv' := [(6, .ref q9), (0, .ref (Ad 0 0)), (1, .int x1), (2, .int x2), (3, .int x3), (4, .int x4)]) C dL_quote_20 (by decide) rfl ?_
  refine g_sipush (v := (-7200 : Int32)) C dL_quote_22 (by decide) ?_
  refine g_vx ?_
  exact g_iret C hr rfl hz ⟨rfl, rfl, fun _ => rfl, fun _ => rfl⟩ ⟨rfl, Ad, rfl, kp_rfl _ _⟩ (fun j x h => by simp at h) dL_quote_25
theorem m_L_quote {w : Nat} {μ : MP} {ν : NC} {x1 : Int32} {x2 : Int32} {x3 : Int32} {x4 : Int32} {r0 : (MP × NC) × Int32} (h : f_L_quote w μ ν x1 x2 x3 x4 = some r0) : mn ν r0.1.2 := by
  unfold f_L_quote at h
  obtain ⟨⟨t, r⟩, h1, h⟩ := bind_of h
  by_cases c0 : t = 0
  · subst c0
    obtain rfl := Option.some.inj ((if_pos rfl).symm.trans h)
    have hmm := m_X8_quote h1
    exact hmm
  · replace h := (if_neg c0).symm.trans h
    by_cases c1 : t = 1
    · subst c1
      obtain rfl := Option.some.inj ((if_pos rfl).symm.trans h)
      exact mn_chg _ _ _
    replace h := (if_neg c1).symm.trans h
    by_cases c2 : t = 2
    · subst c2
      obtain rfl := Option.some.inj ((if_pos rfl).symm.trans h)
      exact mn_chg _ _ _
    replace h := (if_neg c2).symm.trans h
    exact absurd h (by simp)
theorem c_L_quote (l : Launch) (hl : l.stackTraces = false) (B : Nat × (Nat → Nat)) (μ : MP) (ν : NC) (a : AS) (Ad : Nat → Nat → Nat) (w : Nat) (x1 : Int32) (x2 : Int32) (x3 : Int32) (x4 : Int32) (r0 : (MP × NC) × Int32) (h : f_L_quote w μ ν x1 x2 x3 x4 = some r0) (h0 : 0 < ν.2 0) : ∀ D E sz, vx_Met l yL_quote gwL_quote ({ frames := 10, cells := kc (r0).1.2 - kc ν, slots := ks (r0).1.2 - ks ν, locals := 299 } : Room) (cPh D E sz B (zS μ ν a Ad) [.ref (Ad 0 0), .int x1, .int x2, .int x3, .int x4]) (cQ D E sz (zS μ ν a Ad) [] (pI (fun r u => r = (r0).2 ∧ ∃ A1, u = (zS (r0).1.1 (r0).1.2 a A1, []) ∧ kp ν Ad A1))) (fun _ _ _ => False) (kc (r0).1.2 - kc ν) (ks (r0).1.2 - ks ν) (Aof (zS μ ν a Ad) [] sz) := by
  unfold f_L_quote at h
  obtain ⟨⟨t, r⟩, h1, h⟩ := bind_of h
  by_cases c0 : t = 0
  · subst c0
    obtain rfl := Option.some.inj ((if_pos rfl).symm.trans h)
    exact r_L_quote l hl B μ ν a Ad w x1 x2 x3 x4 r h1 h0
  · replace h := (if_neg c0).symm.trans h
    by_cases c1 : t = 1
    · subst c1
      obtain rfl := Option.some.inj ((if_pos rfl).symm.trans h)
      exact e1_L_quote l hl B μ ν a Ad w x1 x2 x3 x4 r h1 h0
    replace h := (if_neg c1).symm.trans h
    by_cases c2 : t = 2
    · subst c2
      obtain rfl := Option.some.inj ((if_pos rfl).symm.trans h)
      exact e2_L_quote l hl B μ ν a Ad w x1 x2 x3 x4 r h1 h0
    replace h := (if_neg c2).symm.trans h
    exact absurd h (by simp)
noncomputable def f_L_bust (w : Nat) (μ : MP) (ν : NC) (x1 : Int32) : Option ((MP × NC) × Int32) := (f_X8_bust w μ ν x1).bind (fun r => if r.1 = 0 then some ((r.2.1, r.2.2)) else if r.1 = 1 then some ((μ, chg ν 1 6), (-7100 : Int32)) else if r.1 = 3 then some ((μ, chg ν 1 6), (-7300 : Int32)) else none)
set_option maxHeartbeats 4000000 in
set_option maxRecDepth 100000 in
theorem r_L_bust (l : Launch) (hl : l.stackTraces = false) (B : Nat × (Nat → Nat)) (μ : MP) (ν : NC) (a : AS) (Ad : Nat → Nat → Nat) (w : Nat) (x1 : Int32) (r0 : (MP × NC) × Int32) (h : f_X8_bust w μ ν x1 = some (0, r0)) (h0 : 0 < ν.2 0) : ∀ D E sz, vx_Met l yL_bust gwL_bust ({ frames := 9, cells := kc ((r0.1, r0.2)).1.2 - kc ν, slots := ks ((r0.1, r0.2)).1.2 - ks ν, locals := 269 } : Room) (cPh D E sz B (zS μ ν a Ad) [.ref (Ad 0 0), .int x1]) (cQ D E sz (zS μ ν a Ad) [] (pI (fun r u => r = ((r0.1, r0.2)).2 ∧ ∃ A1, u = (zS ((r0.1, r0.2)).1.1 ((r0.1, r0.2)).1.2 a A1, []) ∧ kp ν Ad A1))) (fun _ _ _ => False) (kc ((r0.1, r0.2)).1.2 - kc ν) (ks ((r0.1, r0.2)).1.2 - ks ν) (Aof (zS μ ν a Ad) [] sz) := by
  intro D E sz
  refine g_ofH (cc := cL_bust) (maxL := 4) (ret := some .int) (hh := [(0, 6, 9, 24), (0, 6, 14, 14)]) (own := "TradeLineLaw") (by decide) rfl rfl (Nat.le_of_ble_eq_true rfl) ?_
  intro p e s m args below meth c C hr hT hz hEv hN
  refine g_vx ?_
  refine g_lv (lv' := [(0, .ref (Ad 0 0)), (1, .int x1)]) [0, 1] rfl ?_
  refine g_aload_n C dL_bust_0 rfl 0 rfl ?_
  refine g_iload_n C dL_bust_1 rfl 1 rfl ?_
  refine g_cVie (n := 1) (exc := []) (exr := []) C hEv ⟨rfl, rfl⟩ [_] _ rfl rfl [] [] rfl rfl rfl rfl (fun _ h => absurd h (by simp)) (fun _ h => absurd h (by simp)) (fun _ h => absurd h (by simp)) (fun sz => c_X8_bust l B μ ν a Ad w x1 r0 h D E sz) rfl gw_1195 gw_1 gw_1192 gw_1193 gw_1194 ⟨by decide +kernel, by decide +kernel, by decide +kernel⟩ ⟨rfl, rfl⟩ ⟨Nat.le_of_ble_eq_true rfl, Nat.le_of_ble_eq_true rfl⟩ (rcvT ⟨h0, fun e => absurd e (by decide)⟩ rfl rfl rfl) (Nat.le_of_ble_eq_true rfl) dL_bust_2 ⟨by show 0 + (kc r0.1.2 - kc ν) ≤ kc r0.1.2 - kc ν; omega, by show 0 + (ks r0.1.2 - ks ν) ≤ ks r0.1.2 - ks ν; omega⟩ (fun r u hp hx => ?_)
  obtain ⟨er, A1, rfl, hkp⟩ := hp
  have hm := m_X8_bust h
  rw [er]
  try dsimp only [List.append_nil]
  refine g_widen (k := kc r0.1.2 - kc ν) (n := ks r0.1.2 - ks ν) (by omega) (by omega) ?_
  refine g_istore_n (lv' := [(2, .int r0.2), (0, .ref (Ad 0 0)), (1, .int x1)]) C dL_bust_5 rfl (by decide) rfl ?_
  refine g_goto (tgt := 19) C dL_bust_6 (by decide) ?_
  refine g_iload_n C dL_bust_19 rfl 0 rfl ?_
  exact g_iret C hr rfl hz ⟨(hm.2.2.2 30 (by decide) (by decide)).1, (hm.2.2.2 31 (by decide) (by decide)).1, hkp.2.1, hkp.2.2⟩ ⟨rfl, A1, rfl, hkp⟩ (fun j x h => by simp at h) dL_bust_20
set_option maxHeartbeats 4000000 in
set_option maxRecDepth 100000 in
theorem e1_L_bust (l : Launch) (hl : l.stackTraces = false) (B : Nat × (Nat → Nat)) (μ : MP) (ν : NC) (a : AS) (Ad : Nat → Nat → Nat) (w : Nat) (x1 : Int32) (r0 : (MP × NC) × Int32) (h : f_X8_bust w μ ν x1 = some (1, r0)) (h0 : 0 < ν.2 0) : ∀ D E sz, vx_Met l yL_bust gwL_bust ({ frames := 9, cells := kc (((μ, chg ν 1 6), (-7100 : Int32))).1.2 - kc ν, slots := ks (((μ, chg ν 1 6), (-7100 : Int32))).1.2 - ks ν, locals := 269 } : Room) (cPh D E sz B (zS μ ν a Ad) [.ref (Ad 0 0), .int x1]) (cQ D E sz (zS μ ν a Ad) [] (pI (fun r u => r = (((μ, chg ν 1 6), (-7100 : Int32))).2 ∧ ∃ A1, u = (zS (((μ, chg ν 1 6), (-7100 : Int32))).1.1 (((μ, chg ν 1 6), (-7100 : Int32))).1.2 a A1, []) ∧ kp ν Ad A1))) (fun _ _ _ => False) (kc (((μ, chg ν 1 6), (-7100 : Int32))).1.2 - kc ν) (ks (((μ, chg ν 1 6), (-7100 : Int32))).1.2 - ks ν) (Aof (zS μ ν a Ad) [] sz) := by
  have k1 := kc_chg ν 1 6; have k2 := ks_chg ν 1 6
  intro D E sz
  refine g_ofH (cc := cL_bust) (maxL := 4) (ret := some .int) (hh := [(0, 6, 9, 24), (0, 6, 14, 14)]) (own := "TradeLineLaw") (by decide) rfl rfl (Nat.le_of_ble_eq_true rfl) ?_
  intro p e s m args below meth c C hr hT hz hEv hN
  refine g_lv (lv' := [(0, .ref (Ad 0 0)), (1, .int x1)]) [0, 1] rfl ?_
  refine g_aload_n C dL_bust_0 rfl 0 rfl ?_
  refine g_iload_n C dL_bust_1 rfl 1 rfl ?_
  refine g_hc (n := 1) (index := 1) C hEv ⟨rfl, rfl⟩ hN [_] _ rfl rfl (fun sz => x_X8_bust l hl B μ ν a Ad w x1 0 r0 h D E sz) rfl gw_1195 gw_1 gw_1192 gw_1193 gw_1194 ⟨by decide +kernel, by decide +kernel, by decide +kernel⟩ ⟨rfl, rfl⟩ ⟨Nat.le_of_ble_eq_true rfl, Nat.le_of_ble_eq_true rfl⟩ (rcvT ⟨h0, fun e => absurd e (by decide)⟩ rfl rfl rfl) (Nat.le_of_ble_eq_true rfl) dL_bust_2 ⟨by show 1 ≤ kc (chg ν 1 6) - kc ν; omega, by show 6 ≤ ks (chg ν 1 6) - ks ν; omega⟩ [] ⟨0, 6, 9, 24⟩ [⟨0, 6, 14, 14⟩] hT (fun z hz => absurd hz (by simp)) (by decide) (by decide) gw_473 (by decide) rfl (fun q9 => ?_)
  refine g_chg 1 6 ?_
  refine g_widen (k := kc (chg ν 1 6) - kc ν) (n := ks (chg ν 1 6) - ks ν) (by omega) (by omega) ?_
  refine g_astore_n (lv' := [(3, .ref q9), (0, .ref (Ad 0 0)), (1, .int x1)]) C dL_bust_9 rfl (by decide) rfl ?_
  refine g_sipush (v := (-7100 : Int32)) C dL_bust_10 (by decide) ?_
  refine g_vx ?_
  exact g_iret C hr rfl hz ⟨rfl, rfl, fun _ => rfl, fun _ => rfl⟩ ⟨rfl, Ad, rfl, kp_rfl _ _⟩ (fun j x h => by simp at h) dL_bust_13
set_option maxHeartbeats 4000000 in
set_option maxRecDepth 100000 in
theorem e3_L_bust (l : Launch) (hl : l.stackTraces = false) (B : Nat × (Nat → Nat)) (μ : MP) (ν : NC) (a : AS) (Ad : Nat → Nat → Nat) (w : Nat) (x1 : Int32) (r0 : (MP × NC) × Int32) (h : f_X8_bust w μ ν x1 = some (3, r0)) (h0 : 0 < ν.2 0) : ∀ D E sz, vx_Met l yL_bust gwL_bust ({ frames := 9, cells := kc (((μ, chg ν 1 6), (-7300 : Int32))).1.2 - kc ν, slots := ks (((μ, chg ν 1 6), (-7300 : Int32))).1.2 - ks ν, locals := 269 } : Room) (cPh D E sz B (zS μ ν a Ad) [.ref (Ad 0 0), .int x1]) (cQ D E sz (zS μ ν a Ad) [] (pI (fun r u => r = (((μ, chg ν 1 6), (-7300 : Int32))).2 ∧ ∃ A1, u = (zS (((μ, chg ν 1 6), (-7300 : Int32))).1.1 (((μ, chg ν 1 6), (-7300 : Int32))).1.2 a A1, []) ∧ kp ν Ad A1))) (fun _ _ _ => False) (kc (((μ, chg ν 1 6), (-7300 : Int32))).1.2 - kc ν) (ks (((μ, chg ν 1 6), (-7300 : Int32))).1.2 - ks ν) (Aof (zS μ ν a Ad) [] sz) := by
  have k1 := kc_chg ν 1 6; have k2 := ks_chg ν 1 6
  intro D E sz
  refine g_ofH (cc := cL_bust) (maxL := 4) (ret := some .int) (hh := [(0, 6, 9, 24), (0, 6, 14, 14)]) (own := "TradeLineLaw") (by decide) rfl rfl (Nat.le_of_ble_eq_true rfl) ?_
  intro p e s m args below meth c C hr hT hz hEv hN
  refine g_lv (lv' := [(0, .ref (Ad 0 0)), (1, .int x1)]) [0, 1] rfl ?_
  refine g_aload_n C dL_bust_0 rfl 0 rfl ?_
  refine g_iload_n C dL_bust_1 rfl 1 rfl ?_
  refine g_hc (n := 3) (index := 1) C hEv ⟨rfl, rfl⟩ hN [_] _ rfl rfl (fun sz => x_X8_bust l hl B μ ν a Ad w x1 2 r0 h D E sz) rfl gw_1195 gw_1 gw_1192 gw_1193 gw_1194 ⟨by decide +kernel, by decide +kernel, by decide +kernel⟩ ⟨rfl, rfl⟩ ⟨Nat.le_of_ble_eq_true rfl, Nat.le_of_ble_eq_true rfl⟩ (rcvT ⟨h0, fun e => absurd e (by decide)⟩ rfl rfl rfl) (Nat.le_of_ble_eq_true rfl) dL_bust_2 ⟨by show 1 ≤ kc (chg ν 1 6) - kc ν; omega, by show 6 ≤ ks (chg ν 1 6) - ks ν; omega⟩ [⟨0, 6, 9, 24⟩] ⟨0, 6, 14, 14⟩ [] hT (fun z hz => by obtain rfl := List.mem_singleton.mp hz; exact ⟨by decide, exN 1, gw_473, by simp [eN]⟩) (by decide) (by decide) gw_214 (by decide) rfl (fun q9 => ?_)
  refine g_chg 1 6 ?_
  refine g_widen (k := kc (chg ν 1 6) - kc ν) (n := ks (chg ν 1 6) - ks ν) (by omega) (by omega) ?_
  refine g_astore_n (lv' := [(3, .ref q9), (0, .ref (Ad 0 0)), (1, .int x1)]) C dL_bust_14 rfl (by decide) rfl ?_
  refine g_sipush (v := (-7300 : Int32)) C dL_bust_15 (by decide) ?_
  refine g_vx ?_
  exact g_iret C hr rfl hz ⟨rfl, rfl, fun _ => rfl, fun _ => rfl⟩ ⟨rfl, Ad, rfl, kp_rfl _ _⟩ (fun j x h => by simp at h) dL_bust_18
theorem m_L_bust {w : Nat} {μ : MP} {ν : NC} {x1 : Int32} {r0 : (MP × NC) × Int32} (h : f_L_bust w μ ν x1 = some r0) : mn ν r0.1.2 := by
  unfold f_L_bust at h
  obtain ⟨⟨t, r⟩, h1, h⟩ := bind_of h
  by_cases c0 : t = 0
  · subst c0
    obtain rfl := Option.some.inj ((if_pos rfl).symm.trans h)
    have hmm := m_X8_bust h1
    exact hmm
  · replace h := (if_neg c0).symm.trans h
    by_cases c1 : t = 1
    · subst c1
      obtain rfl := Option.some.inj ((if_pos rfl).symm.trans h)
      exact mn_chg _ _ _
    replace h := (if_neg c1).symm.trans h
    by_cases c3 : t = 3
    · subst c3
      obtain rfl := Option.some.inj ((if_pos rfl).symm.trans h)
      exact mn_chg _ _ _
    replace h := (if_neg c3).symm.trans h
    exact absurd h (by simp)
theorem c_L_bust (l : Launch) (hl : l.stackTraces = false) (B : Nat × (Nat → Nat)) (μ : MP) (ν : NC) (a : AS) (Ad : Nat → Nat → Nat) (w : Nat) (x1 : Int32) (r0 : (MP × NC) × Int32) (h : f_L_bust w μ ν x1 = some r0) (h0 : 0 < ν.2 0) : ∀ D E sz, vx_Met l yL_bust gwL_bust ({ frames := 9, cells := kc (r0).1.2 - kc ν, slots := ks (r0).1.2 - ks ν, locals := 269 } : Room) (cPh D E sz B (zS μ ν a Ad) [.ref (Ad 0 0), .int x1]) (cQ D E sz (zS μ ν a Ad) [] (pI (fun r u => r = (r0).2 ∧ ∃ A1, u = (zS (r0).1.1 (r0).1.2 a A1, []) ∧ kp ν Ad A1))) (fun _ _ _ => False) (kc (r0).1.2 - kc ν) (ks (r0).1.2 - ks ν) (Aof (zS μ ν a Ad) [] sz) := by
  unfold f_L_bust at h
  obtain ⟨⟨t, r⟩, h1, h⟩ := bind_of h
  by_cases c0 : t = 0
  · subst c0
    obtain rfl := Option.some.inj ((if_pos rfl).symm.trans h)
    exact r_L_bust l hl B μ ν a Ad w x1 r h1 h0
  · replace h := (if_neg c0).symm.trans h
    by_cases c1 : t = 1
    · subst c1
      obtain rfl := Option.some.inj ((if_pos rfl).symm.trans h)
      exact e1_L_bust l hl B μ ν a Ad w x1 r h1 h0
    replace h := (if_neg c1).symm.trans h
    by_cases c3 : t = 3
    · subst c3
      obtain rfl := Option.some.inj ((if_pos rfl).symm.trans h)
      exact e3_L_bust l hl B μ ν a Ad w x1 r h1 h0
    replace h := (if_neg c3).symm.trans h
    exact absurd h (by simp)
noncomputable def f_L_correct (w : Nat) (μ : MP) (ν : NC) (x1 : Int32) (x2 : Int32) : Option ((MP × NC) × Int32) := (f_X8_correct w μ ν x1 x2).bind (fun r => if r.1 = 0 then some ((r.2.1, r.2.2)) else if r.1 = 1 then some ((μ, chg ν 1 6), (-7100 : Int32)) else if r.1 = 2 then some ((μ, chg ν 1 6), (-7200 : Int32)) else if r.1 = 3 then some ((μ, chg ν 1 6), (-7300 : Int32)) else none)
set_option maxHeartbeats 4000000 in
set_option maxRecDepth 100000 in
theorem r_L_correct (l : Launch) (hl : l.stackTraces = false) (B : Nat × (Nat → Nat)) (μ : MP) (ν : NC) (a : AS) (Ad : Nat → Nat → Nat) (w : Nat) (x1 : Int32) (x2 : Int32) (r0 : (MP × NC) × Int32) (h : f_X8_correct w μ ν x1 x2 = some (0, r0)) (h0 : 0 < ν.2 0) : ∀ D E sz, vx_Met l yL_correct gwL_correct ({ frames := 9, cells := kc ((r0.1, r0.2)).1.2 - kc ν, slots := ks ((r0.1, r0.2)).1.2 - ks ν, locals := 270 } : Room) (cPh D E sz B (zS μ ν a Ad) [.ref (Ad 0 0), .int x1, .int x2]) (cQ D E sz (zS μ ν a Ad) [] (pI (fun r u => r = ((r0.1, r0.2)).2 ∧ ∃ A1, u = (zS ((r0.1, r0.2)).1.1 ((r0.1, r0.2)).1.2 a A1, []) ∧ kp ν Ad A1))) (fun _ _ _ => False) (kc ((r0.1, r0.2)).1.2 - kc ν) (ks ((r0.1, r0.2)).1.2 - ks ν) (Aof (zS μ ν a Ad) [] sz) := by
  intro D E sz
  refine g_ofH (cc := cL_correct) (maxL := 5) (ret := some .int) (hh := [(0, 7, 10, 24), (0, 7, 16, 26), (0, 7, 22, 14)]) (own := "TradeLineLaw") (by decide) rfl rfl (Nat.le_of_ble_eq_true rfl) ?_
  intro p e s m args below meth c C hr hT hz hEv hN
  refine g_vx ?_
  refine g_lv (lv' := [(0, .ref (Ad 0 0)), (1, .int x1), (2, .int x2)]) [0, 1, 2] rfl ?_
  refine g_aload_n C dL_correct_0 rfl 0 rfl ?_
  refine g_iload_n C dL_correct_1 rfl 1 rfl ?_
  refine g_iload_n C dL_correct_2 rfl 2 rfl ?_
  refine g_cVie (n := 2) (exc := []) (exr := []) C hEv ⟨rfl, rfl⟩ [_, _] _ rfl rfl [] [] rfl rfl rfl rfl (fun _ h => absurd h (by simp)) (fun _ h => absurd h (by simp)) (fun _ h => absurd h (by simp)) (fun sz => c_X8_correct l B μ ν a Ad w x1 x2 r0 h D E sz) rfl gw_1211 gw_1 gw_1208 gw_1209 gw_1210 ⟨by decide +kernel, by decide +kernel, by decide +kernel⟩ ⟨rfl, rfl⟩ ⟨Nat.le_of_ble_eq_true rfl, Nat.le_of_ble_eq_true rfl⟩ (rcvT ⟨h0, fun e => absurd e (by decide)⟩ rfl rfl rfl) (Nat.le_of_ble_eq_true rfl) dL_correct_3 ⟨by show 0 + (kc r0.1.2 - kc ν) ≤ kc r0.1.2 - kc ν; omega, by show 0 + (ks r0.1.2 - ks ν) ≤ ks r0.1.2 - ks ν; omega⟩ (fun r u hp hx => ?_)
  obtain ⟨er, A1, rfl, hkp⟩ := hp
  have hm := m_X8_correct h
  rw [er]
  try dsimp only [List.append_nil]
  refine g_widen (k := kc r0.1.2 - kc ν) (n := ks r0.1.2 - ks ν) (by omega) (by omega) ?_
  refine g_istore_n (lv' := [(3, .int r0.2), (0, .ref (Ad 0 0)), (1, .int x1), (2, .int x2)]) C dL_correct_6 rfl (by decide) rfl ?_
  refine g_goto (tgt := 28) C dL_correct_7 (by decide) ?_
  refine g_iload_n C dL_correct_28 rfl 0 rfl ?_
  exact g_iret C hr rfl hz ⟨(hm.2.2.2 30 (by decide) (by decide)).1, (hm.2.2.2 31 (by decide) (by decide)).1, hkp.2.1, hkp.2.2⟩ ⟨rfl, A1, rfl, hkp⟩ (fun j x h => by simp at h) dL_correct_29
set_option maxHeartbeats 4000000 in
set_option maxRecDepth 100000 in
theorem e1_L_correct (l : Launch) (hl : l.stackTraces = false) (B : Nat × (Nat → Nat)) (μ : MP) (ν : NC) (a : AS) (Ad : Nat → Nat → Nat) (w : Nat) (x1 : Int32) (x2 : Int32) (r0 : (MP × NC) × Int32) (h : f_X8_correct w μ ν x1 x2 = some (1, r0)) (h0 : 0 < ν.2 0) : ∀ D E sz, vx_Met l yL_correct gwL_correct ({ frames := 9, cells := kc (((μ, chg ν 1 6), (-7100 : Int32))).1.2 - kc ν, slots := ks (((μ, chg ν 1 6), (-7100 : Int32))).1.2 - ks ν, locals := 270 } : Room) (cPh D E sz B (zS μ ν a Ad) [.ref (Ad 0 0), .int x1, .int x2]) (cQ D E sz (zS μ ν a Ad) [] (pI (fun r u => r = (((μ, chg ν 1 6), (-7100 : Int32))).2 ∧ ∃ A1, u = (zS (((μ, chg ν 1 6), (-7100 : Int32))).1.1 (((μ, chg ν 1 6), (-7100 : Int32))).1.2 a A1, []) ∧ kp ν Ad A1))) (fun _ _ _ => False) (kc (((μ, chg ν 1 6), (-7100 : Int32))).1.2 - kc ν) (ks (((μ, chg ν 1 6), (-7100 : Int32))).1.2 - ks ν) (Aof (zS μ ν a Ad) [] sz) := by
  have k1 := kc_chg ν 1 6; have k2 := ks_chg ν 1 6
  intro D E sz
  refine g_ofH (cc := cL_correct) (maxL := 5) (ret := some .int) (hh := [(0, 7, 10, 24), (0, 7, 16, 26), (0, 7, 22, 14)]) (own := "TradeLineLaw") (by decide) rfl rfl (Nat.le_of_ble_eq_true rfl) ?_
  intro p e s m args below meth c C hr hT hz hEv hN
  refine g_lv (lv' := [(0, .ref (Ad 0 0)), (1, .int x1), (2, .int x2)]) [0, 1, 2] rfl ?_
  refine g_aload_n C dL_correct_0 rfl 0 rfl ?_
  refine g_iload_n C dL_correct_1 rfl 1 rfl ?_
  refine g_iload_n C dL_correct_2 rfl 2 rfl ?_
  refine g_hc (n := 1) (index := 2) C hEv ⟨rfl, rfl⟩ hN [_, _] _ rfl rfl (fun sz => x_X8_correct l hl B μ ν a Ad w x1 x2 0 r0 h D E sz) rfl gw_1211 gw_1 gw_1208 gw_1209 gw_1210 ⟨by decide +kernel, by decide +kernel, by decide +kernel⟩ ⟨rfl, rfl⟩ ⟨Nat.le_of_ble_eq_true rfl, Nat.le_of_ble_eq_true rfl⟩ (rcvT ⟨h0, fun e => absurd e (by decide)⟩ rfl rfl rfl) (Nat.le_of_ble_eq_true rfl) dL_correct_3 ⟨by show 1 ≤ kc (chg ν 1 6) - kc ν; omega, by show 6 ≤ ks (chg ν 1 6) - ks ν; omega⟩ [] ⟨0, 7, 10, 24⟩ [⟨0, 7, 16, 26⟩, ⟨0, 7, 22, 14⟩] hT (fun z hz => absurd hz (by simp)) (by decide) (by decide) gw_473 (by decide) rfl (fun q9 => ?_)
  refine g_chg 1 6 ?_
  refine g_widen (k := kc (chg ν 1 6) - kc ν) (n := ks (chg ν 1 6) - ks ν) (by omega) (by omega) ?_
  refine g_astore (lv' := [(4, .ref q9), (0, .ref (Ad 0 0)), (1, .int x1), (2, .int x2)]) C dL_correct_10 (by decide) rfl ?_
  refine g_sipush (v := (-7100 : Int32)) C dL_correct_12 (by decide) ?_
  refine g_vx ?_
  exact g_iret C hr rfl hz ⟨rfl, rfl, fun _ => rfl, fun _ => rfl⟩ ⟨rfl, Ad, rfl, kp_rfl _ _⟩ (fun j x h => by simp at h) dL_correct_15
set_option maxHeartbeats 4000000 in
set_option maxRecDepth 100000 in
theorem e2_L_correct (l : Launch) (hl : l.stackTraces = false) (B : Nat × (Nat → Nat)) (μ : MP) (ν : NC) (a : AS) (Ad : Nat → Nat → Nat) (w : Nat) (x1 : Int32) (x2 : Int32) (r0 : (MP × NC) × Int32) (h : f_X8_correct w μ ν x1 x2 = some (2, r0)) (h0 : 0 < ν.2 0) : ∀ D E sz, vx_Met l yL_correct gwL_correct ({ frames := 9, cells := kc (((μ, chg ν 1 6), (-7200 : Int32))).1.2 - kc ν, slots := ks (((μ, chg ν 1 6), (-7200 : Int32))).1.2 - ks ν, locals := 270 } : Room) (cPh D E sz B (zS μ ν a Ad) [.ref (Ad 0 0), .int x1, .int x2]) (cQ D E sz (zS μ ν a Ad) [] (pI (fun r u => r = (((μ, chg ν 1 6), (-7200 : Int32))).2 ∧ ∃ A1, u = (zS (((μ, chg ν 1 6), (-7200 : Int32))).1.1 (((μ, chg ν 1 6), (-7200 : Int32))).1.2 a A1, []) ∧ kp ν Ad A1))) (fun _ _ _ => False) (kc (((μ, chg ν 1 6), (-7200 : Int32))).1.2 - kc ν) (ks (((μ, chg ν 1 6), (-7200 : Int32))).1.2 - ks ν) (Aof (zS μ ν a Ad) [] sz) := by
  have k1 := kc_chg ν 1 6; have k2 := ks_chg ν 1 6
  intro D E sz
  refine g_ofH (cc := cL_correct) (maxL := 5) (ret := some .int) (hh := [(0, 7, 10, 24), (0, 7, 16, 26), (0, 7, 22, 14)]) (own := "TradeLineLaw") (by decide) rfl rfl (Nat.le_of_ble_eq_true rfl) ?_
  intro p e s m args below meth c C hr hT hz hEv hN
  refine g_lv (lv' := [(0, .ref (Ad 0 0)), (1, .int x1), (2, .int x2)]) [0, 1, 2] rfl ?_
  refine g_aload_n C dL_correct_0 rfl 0 rfl ?_
  refine g_iload_n C dL_correct_1 rfl 1 rfl ?_
  refine g_iload_n C dL_correct_2 rfl 2 rfl ?_
  refine g_hc (n := 2) (index := 2) C hEv ⟨rfl, rfl⟩ hN [_, _] _ rfl rfl (fun sz => x_X8_correct l hl B μ ν a Ad w x1 x2 1 r0 h D E sz) rfl gw_1211 gw_1 gw_1208 gw_1209 gw_1210 ⟨by decide +kernel, by decide +kernel, by decide +kernel⟩ ⟨rfl, rfl⟩ ⟨Nat.le_of_ble_eq_true rfl, Nat.le_of_ble_eq_true rfl⟩ (rcvT ⟨h0, fun e => absurd e (by decide)⟩ rfl rfl rfl) (Nat.le_of_ble_eq_true rfl) dL_correct_3 ⟨by show 1 ≤ kc (chg ν 1 6) - kc ν; omega, by show 6 ≤ ks (chg ν 1 6) - ks ν; omega⟩ [⟨0, 7, 10, 24⟩] ⟨0, 7, 16, 26⟩ [⟨0, 7, 22, 14⟩] hT (fun z hz => by obtain rfl := List.mem_singleton.mp hz; exact ⟨by decide, exN 1, gw_473, by simp [eN]⟩) (by decide) (by decide) gw_474 (by decide) rfl (fun q9 => ?_)
  refine g_chg 1 6 ?_
  refine g_widen (k := kc (chg ν 1 6) - kc ν) (n := ks (chg ν 1 6) - ks ν) (by omega) (by omega) ?_
  refine g_astore (lv' := [(4, .ref q9), (0, .ref (Ad 0 0)), (1, .int x1), (2, .int x2)]) C dL_correct_16 (by decide) rfl ?_
  refine g_sipush (v := (-7200 : Int32)) C dL_correct_18 (by decide) ?_
  refine g_vx ?_
  exact g_iret C hr rfl hz ⟨rfl, rfl, fun _ => rfl, fun _ => rfl⟩ ⟨rfl, Ad, rfl, kp_rfl _ _⟩ (fun j x h => by simp at h) dL_correct_21
set_option maxHeartbeats 4000000 in
set_option maxRecDepth 100000 in
theorem e3_L_correct (l : Launch) (hl : l.stackTraces = false) (B : Nat × (Nat → Nat)) (μ : MP) (ν : NC) (a : AS) (Ad : Nat → Nat → Nat) (w : Nat) (x1 : Int32) (x2 : Int32) (r0 : (MP × NC) × Int32) (h : f_X8_correct w μ ν x1 x2 = some (3, r0)) (h0 : 0 < ν.2 0) : ∀ D E sz, vx_Met l yL_correct gwL_correct ({ frames := 9, cells := kc (((μ, chg ν 1 6), (-7300 : Int32))).1.2 - kc ν, slots := ks (((μ, chg ν 1 6), (-7300 : Int32))).1.2 - ks ν, locals := 270 } : Room) (cPh D E sz B (zS μ ν a Ad) [.ref (Ad 0 0), .int x1, .int x2]) (cQ D E sz (zS μ ν a Ad) [] (pI (fun r u => r = (((μ, chg ν 1 6), (-7300 : Int32))).2 ∧ ∃ A1, u = (zS (((μ, chg ν 1 6), (-7300 : Int32))).1.1 (((μ, chg ν 1 6), (-7300 : Int32))).1.2 a A1, []) ∧ kp ν Ad A1))) (fun _ _ _ => False) (kc (((μ, chg ν 1 6), (-7300 : Int32))).1.2 - kc ν) (ks (((μ, chg ν 1 6), (-7300 : Int32))).1.2 - ks ν) (Aof (zS μ ν a Ad) [] sz) := by
  have k1 := kc_chg ν 1 6; have k2 := ks_chg ν 1 6
  intro D E sz
  refine g_ofH (cc := cL_correct) (maxL := 5) (ret := some .int) (hh := [(0, 7, 10, 24), (0, 7, 16, 26), (0, 7, 22, 14)]) (own := "TradeLineLaw") (by decide) rfl rfl (Nat.le_of_ble_eq_true rfl) ?_
  intro p e s m args below meth c C hr hT hz hEv hN
  refine g_lv (lv' := [(0, .ref (Ad 0 0)), (1, .int x1), (2, .int x2)]) [0, 1, 2] rfl ?_
  refine g_aload_n C dL_correct_0 rfl 0 rfl ?_
  refine g_iload_n C dL_correct_1 rfl 1 rfl ?_
  refine g_iload_n C dL_correct_2 rfl 2 rfl ?_
  refine g_hc (n := 3) (index := 2) C hEv ⟨rfl, rfl⟩ hN [_, _] _ rfl rfl (fun sz => x_X8_correct l hl B μ ν a Ad w x1 x2 2 r0 h D E sz) rfl gw_1211 gw_1 gw_1208 gw_1209 gw_1210 ⟨by decide +kernel, by decide +kernel, by decide +kernel⟩ ⟨rfl, rfl⟩ ⟨Nat.le_of_ble_eq_true rfl, Nat.le_of_ble_eq_true rfl⟩ (rcvT ⟨h0, fun e => absurd e (by decide)⟩ rfl rfl rfl) (Nat.le_of_ble_eq_true rfl) dL_correct_3 ⟨by show 1 ≤ kc (chg ν 1 6) - kc ν; omega, by show 6 ≤ ks (chg ν 1 6) - ks ν; omega⟩ [⟨0, 7, 10, 24⟩, ⟨0, 7, 16, 26⟩] ⟨0, 7, 22, 14⟩ [] hT (fun z hz => by
      rcases List.mem_cons.mp hz with rfl | hz
      · exact ⟨by decide, exN 1, gw_473, by simp [eN]⟩
      · obtain rfl := List.mem_singleton.mp hz; exact ⟨by decide, exN 2, gw_474, by simp [eN]⟩) (by decide) (by decide) gw_214 (by decide) rfl (fun q9 => ?_)
  refine g_chg 1 6 ?_
  refine g_widen (k := kc (chg ν 1 6) - kc ν) (n := ks (chg ν 1 6) - ks ν) (by omega) (by omega) ?_
  refine g_astore (lv' := [(4, .ref q9), (0, .ref (Ad 0 0)), (1, .int x1), (2, .int x2)]) C dL_correct_22 (by decide) rfl ?_
  refine g_sipush (v := (-7300 : Int32)) C dL_correct_24 (by decide) ?_
  refine g_vx ?_
  exact g_iret C hr rfl hz ⟨rfl, rfl, fun _ => rfl, fun _ => rfl⟩ ⟨rfl, Ad, rfl, kp_rfl _ _⟩ (fun j x h => by simp at h) dL_correct_27
theorem m_L_correct {w : Nat} {μ : MP} {ν : NC} {x1 : Int32} {x2 : Int32} {r0 : (MP × NC) × Int32} (h : f_L_correct w μ ν x1 x2 = some r0) : mn ν r0.1.2 := by
  unfold f_L_correct at h
  obtain ⟨⟨t, r⟩, h1, h⟩ := bind_of h
  by_cases c0 : t = 0
  · subst c0
    obtain rfl := Option.some.inj ((if_pos rfl).symm.trans h)
    have hmm := m_X8_correct h1
    exact hmm
  · replace h := (if_neg c0).symm.trans h
    by_cases c1 : t = 1
    · subst c1
      obtain rfl := Option.some.inj ((if_pos rfl).symm.trans h)
      exact mn_chg _ _ _
    replace h := (if_neg c1).symm.trans h
    by_cases c2 : t = 2
    · subst c2
      obtain rfl := Option.some.inj ((if_pos rfl).symm.trans h)
      exact mn_chg _ _ _
    replace h := (if_neg c2).symm.trans h
    by_cases c3 : t = 3
    · subst c3
      obtain rfl := Option.some.inj ((if_pos rfl).symm.trans h)
      exact mn_chg _ _ _
    replace h := (if_neg c3).symm.trans h
    exact absurd h (by simp)
theorem c_L_correct (l : Launch) (hl : l.stackTraces = false) (B : Nat × (Nat → Nat)) (μ : MP) (ν : NC) (a : AS) (Ad : Nat → Nat → Nat) (w : Nat) (x1 : Int32) (x2 : Int32) (r0 : (MP × NC) × Int32) (h : f_L_correct w μ ν x1 x2 = some r0) (h0 : 0 < ν.2 0) : ∀ D E sz, vx_Met l yL_correct gwL_correct ({ frames := 9, cells := kc (r0).1.2 - kc ν, slots := ks (r0).1.2 - ks ν, locals := 270 } : Room) (cPh D E sz B (zS μ ν a Ad) [.ref (Ad 0 0), .int x1, .int x2]) (cQ D E sz (zS μ ν a Ad) [] (pI (fun r u => r = (r0).2 ∧ ∃ A1, u = (zS (r0).1.1 (r0).1.2 a A1, []) ∧ kp ν Ad A1))) (fun _ _ _ => False) (kc (r0).1.2 - kc ν) (ks (r0).1.2 - ks ν) (Aof (zS μ ν a Ad) [] sz) := by
  unfold f_L_correct at h
  obtain ⟨⟨t, r⟩, h1, h⟩ := bind_of h
  by_cases c0 : t = 0
  · subst c0
    obtain rfl := Option.some.inj ((if_pos rfl).symm.trans h)
    exact r_L_correct l hl B μ ν a Ad w x1 x2 r h1 h0
  · replace h := (if_neg c0).symm.trans h
    by_cases c1 : t = 1
    · subst c1
      obtain rfl := Option.some.inj ((if_pos rfl).symm.trans h)
      exact e1_L_correct l hl B μ ν a Ad w x1 x2 r h1 h0
    replace h := (if_neg c1).symm.trans h
    by_cases c2 : t = 2
    · subst c2
      obtain rfl := Option.some.inj ((if_pos rfl).symm.trans h)
      exact e2_L_correct l hl B μ ν a Ad w x1 x2 r h1 h0
    replace h := (if_neg c2).symm.trans h
    by_cases c3 : t = 3
    · subst c3
      obtain rfl := Option.some.inj ((if_pos rfl).symm.trans h)
      exact e3_L_correct l hl B μ ν a Ad w x1 x2 r h1 h0
    replace h := (if_neg c3).symm.trans h
    exact absurd h (by simp)
noncomputable def f_L_isOn (w : Nat) (μ : MP) (ν : NC) (x1 : Int32) : Option ((MP × NC) × Int32) := (f_X8_isOn w μ ν x1).bind (fun r => if r.1 = 0 then some (((μ, ν), nz r.2)) else if r.1 = 1 then some ((μ, chg ν 1 6), (-7100 : Int32)) else none)
set_option maxHeartbeats 4000000 in
set_option maxRecDepth 100000 in
theorem r_L_isOn (l : Launch) (hl : l.stackTraces = false) (B : Nat × (Nat → Nat)) (μ : MP) (ν : NC) (a : AS) (Ad : Nat → Nat → Nat) (w : Nat) (x1 : Int32) (r0 : Int32) (h : f_X8_isOn w μ ν x1 = some (0, r0)) (h0 : 0 < ν.2 0) : ∀ D E sz, vx_Met l yL_isOn gwL_isOn ({ frames := 8, cells := kc (((μ, ν), nz r0)).1.2 - kc ν, slots := ks (((μ, ν), nz r0)).1.2 - ks ν, locals := 141 } : Room) (cPh D E sz B (zS μ ν a Ad) [.ref (Ad 0 0), .int x1]) (cQ D E sz (zS μ ν a Ad) [] (pI (fun r u => r = (((μ, ν), nz r0)).2 ∧ ∃ A1, u = (zS (((μ, ν), nz r0)).1.1 (((μ, ν), nz r0)).1.2 a A1, []) ∧ kp ν Ad A1))) (fun _ _ _ => False) (kc (((μ, ν), nz r0)).1.2 - kc ν) (ks (((μ, ν), nz r0)).1.2 - ks ν) (Aof (zS μ ν a Ad) [] sz) := by
  intro D E sz
  refine g_ofH (cc := cL_isOn) (maxL := 4) (ret := some .int) (hh := [(0, 6, 9, 24)]) (own := "TradeLineLaw") (by decide) rfl rfl (Nat.le_of_ble_eq_true rfl) ?_
  intro p e s m args below meth c C hr hT hz hEv hN
  refine g_vx ?_
  refine g_lv (lv' := [(0, .ref (Ad 0 0)), (1, .int x1)]) [0, 1] rfl ?_
  refine g_aload_n C dL_isOn_0 rfl 0 rfl ?_
  refine g_iload_n C dL_isOn_1 rfl 1 rfl ?_
  refine g_cVi (n := 1) (exc := []) (exr := []) C [_] _ rfl rfl [] [] rfl rfl rfl rfl (fun _ h => absurd h (by simp)) (fun _ h => absurd h (by simp)) (fun _ h => absurd h (by simp)) (fun sz => c_X8_isOn l μ ν a Ad w x1 r0 h D E sz) rfl gw_1223 gw_1 gw_1220 gw_1221 gw_1222 ⟨by decide +kernel, by decide +kernel, by decide +kernel⟩ ⟨rfl, rfl⟩ ⟨Nat.le_of_ble_eq_true rfl, Nat.le_of_ble_eq_true rfl⟩ (rcvT ⟨h0, fun e => absurd e (by decide)⟩ rfl rfl rfl) (Nat.le_of_ble_eq_true rfl) dL_isOn_2 ⟨Nat.zero_le _, Nat.zero_le _⟩ (fun r u hp hx => ?_)
  obtain ⟨er, rfl⟩ := hp
  rw [er]
  try dsimp only [List.append_nil]
  refine g_widen (k := kc ν - kc ν) (n := ks ν - ks ν) (Nat.zero_le _) (Nat.zero_le _) ?_
  refine g_istore_n (lv' := [(2, .int r0), (0, .ref (Ad 0 0)), (1, .int x1)]) C dL_isOn_5 rfl (by decide) rfl ?_
  refine g_goto (tgt := 14) C dL_isOn_6 (by decide) ?_
  refine g_iload_n C dL_isOn_14 rfl 0 rfl ?_
  refine g_nz C dL_isOn_15 dL_isOn_18 dL_isOn_19 dL_isOn_22 ?_
  exact g_iret C hr rfl hz ⟨rfl, rfl, fun _ => rfl, fun _ => rfl⟩ ⟨rfl, Ad, rfl, kp_rfl _ _⟩ (fun j x h => by simp at h) dL_isOn_23
set_option maxHeartbeats 4000000 in
set_option maxRecDepth 100000 in
theorem e1_L_isOn (l : Launch) (hl : l.stackTraces = false) (B : Nat × (Nat → Nat)) (μ : MP) (ν : NC) (a : AS) (Ad : Nat → Nat → Nat) (w : Nat) (x1 : Int32) (r0 : Int32) (h : f_X8_isOn w μ ν x1 = some (1, r0)) (h0 : 0 < ν.2 0) : ∀ D E sz, vx_Met l yL_isOn gwL_isOn ({ frames := 8, cells := kc (((μ, chg ν 1 6), (-7100 : Int32))).1.2 - kc ν, slots := ks (((μ, chg ν 1 6), (-7100 : Int32))).1.2 - ks ν, locals := 141 } : Room) (cPh D E sz B (zS μ ν a Ad) [.ref (Ad 0 0), .int x1]) (cQ D E sz (zS μ ν a Ad) [] (pI (fun r u => r = (((μ, chg ν 1 6), (-7100 : Int32))).2 ∧ ∃ A1, u = (zS (((μ, chg ν 1 6), (-7100 : Int32))).1.1 (((μ, chg ν 1 6), (-7100 : Int32))).1.2 a A1, []) ∧ kp ν Ad A1))) (fun _ _ _ => False) (kc (((μ, chg ν 1 6), (-7100 : Int32))).1.2 - kc ν) (ks (((μ, chg ν 1 6), (-7100 : Int32))).1.2 - ks ν) (Aof (zS μ ν a Ad) [] sz) := by
  have k1 := kc_chg ν 1 6; have k2 := ks_chg ν 1 6
  intro D E sz
  refine g_ofH (cc := cL_isOn) (maxL := 4) (ret := some .int) (hh := [(0, 6, 9, 24)]) (own := "TradeLineLaw") (by decide) rfl rfl (Nat.le_of_ble_eq_true rfl) ?_
  intro p e s m args below meth c C hr hT hz hEv hN
  refine g_lv (lv' := [(0, .ref (Ad 0 0)), (1, .int x1)]) [0, 1] rfl ?_
  refine g_aload_n C dL_isOn_0 rfl 0 rfl ?_
  refine g_iload_n C dL_isOn_1 rfl 1 rfl ?_
  refine g_hc (n := 1) (index := 1) C hEv ⟨rfl, rfl⟩ hN [_] _ rfl rfl (fun sz => x_X8_isOn l hl B μ ν a Ad w x1 0 r0 h D E sz) rfl gw_1223 gw_1 gw_1220 gw_1221 gw_1222 ⟨by decide +kernel, by decide +kernel, by decide +kernel⟩ ⟨rfl, rfl⟩ ⟨Nat.le_of_ble_eq_true rfl, Nat.le_of_ble_eq_true rfl⟩ (rcvT ⟨h0, fun e => absurd e (by decide)⟩ rfl rfl rfl) (Nat.le_of_ble_eq_true rfl) dL_isOn_2 ⟨by show 1 ≤ kc (chg ν 1 6) - kc ν; omega, by show 6 ≤ ks (chg ν 1 6) - ks ν; omega⟩ [] ⟨0, 6, 9, 24⟩ [] hT (fun z hz => absurd hz (by simp)) (by decide) (by decide) gw_473 (by decide) rfl (fun q9 => ?_)
  refine g_chg 1 6 ?_
  refine g_widen (k := kc (chg ν 1 6) - kc ν) (n := ks (chg ν 1 6) - ks ν) (by omega) (by omega) ?_
  refine g_astore_n (lv' := [(3, .ref q9), (0, .ref (Ad 0 0)), (1, .int x1)]) C dL_isOn_9 rfl (by decide) rfl ?_
  refine g_sipush (v := (-7100 : Int32)) C dL_isOn_10 (by decide) ?_
  refine g_vx ?_
  exact g_iret C hr rfl hz ⟨rfl, rfl, fun _ => rfl, fun _ => rfl⟩ ⟨rfl, Ad, rfl, kp_rfl _ _⟩ (fun j x h => by simp at h) dL_isOn_13
theorem m_L_isOn {w : Nat} {μ : MP} {ν : NC} {x1 : Int32} {r0 : (MP × NC) × Int32} (h : f_L_isOn w μ ν x1 = some r0) : mn ν r0.1.2 := by
  unfold f_L_isOn at h
  obtain ⟨⟨t, r⟩, h1, h⟩ := bind_of h
  by_cases c0 : t = 0
  · subst c0
    obtain rfl := Option.some.inj ((if_pos rfl).symm.trans h)
    exact mn_rfl _
  · replace h := (if_neg c0).symm.trans h
    by_cases c1 : t = 1
    · subst c1
      obtain rfl := Option.some.inj ((if_pos rfl).symm.trans h)
      exact mn_chg _ _ _
    replace h := (if_neg c1).symm.trans h
    exact absurd h (by simp)
theorem c_L_isOn (l : Launch) (hl : l.stackTraces = false) (B : Nat × (Nat → Nat)) (μ : MP) (ν : NC) (a : AS) (Ad : Nat → Nat → Nat) (w : Nat) (x1 : Int32) (r0 : (MP × NC) × Int32) (h : f_L_isOn w μ ν x1 = some r0) (h0 : 0 < ν.2 0) : ∀ D E sz, vx_Met l yL_isOn gwL_isOn ({ frames := 8, cells := kc (r0).1.2 - kc ν, slots := ks (r0).1.2 - ks ν, locals := 141 } : Room) (cPh D E sz B (zS μ ν a Ad) [.ref (Ad 0 0), .int x1]) (cQ D E sz (zS μ ν a Ad) [] (pI (fun r u => r = (r0).2 ∧ ∃ A1, u = (zS (r0).1.1 (r0).1.2 a A1, []) ∧ kp ν Ad A1))) (fun _ _ _ => False) (kc (r0).1.2 - kc ν) (ks (r0).1.2 - ks ν) (Aof (zS μ ν a Ad) [] sz) := by
  unfold f_L_isOn at h
  obtain ⟨⟨t, r⟩, h1, h⟩ := bind_of h
  by_cases c0 : t = 0
  · subst c0
    obtain rfl := Option.some.inj ((if_pos rfl).symm.trans h)
    exact r_L_isOn l hl B μ ν a Ad w x1 r h1 h0
  · replace h := (if_neg c0).symm.trans h
    by_cases c1 : t = 1
    · subst c1
      obtain rfl := Option.some.inj ((if_pos rfl).symm.trans h)
      exact e1_L_isOn l hl B μ ν a Ad w x1 r h1 h0
    replace h := (if_neg c1).symm.trans h
    exact absurd h (by simp)
noncomputable def f_L_sent (w : Nat) (μ : MP) (ν : NC) (x1 : Int32) : Option ((MP × NC) × Int32) := (f_X8_sent w μ ν x1).bind (fun r => if r.1 = 0 then some (((μ, ν), r.2)) else if r.1 = 1 then some ((μ, chg ν 1 6), (-7100 : Int32)) else none)
set_option maxHeartbeats 4000000 in
set_option maxRecDepth 100000 in
theorem r_L_sent (l : Launch) (hl : l.stackTraces = false) (B : Nat × (Nat → Nat)) (μ : MP) (ν : NC) (a : AS) (Ad : Nat → Nat → Nat) (w : Nat) (x1 : Int32) (r0 : Int32) (h : f_X8_sent w μ ν x1 = some (0, r0)) (h0 : 0 < ν.2 0) : ∀ D E sz, vx_Met l yL_sent gwL_sent ({ frames := 8, cells := kc (((μ, ν), r0)).1.2 - kc ν, slots := ks (((μ, ν), r0)).1.2 - ks ν, locals := 141 } : Room) (cPh D E sz B (zS μ ν a Ad) [.ref (Ad 0 0), .int x1]) (cQ D E sz (zS μ ν a Ad) [] (pI (fun r u => r = (((μ, ν), r0)).2 ∧ ∃ A1, u = (zS (((μ, ν), r0)).1.1 (((μ, ν), r0)).1.2 a A1, []) ∧ kp ν Ad A1))) (fun _ _ _ => False) (kc (((μ, ν), r0)).1.2 - kc ν) (ks (((μ, ν), r0)).1.2 - ks ν) (Aof (zS μ ν a Ad) [] sz) := by
  intro D E sz
  refine g_ofH (cc := cL_sent) (maxL := 4) (ret := some .int) (hh := [(0, 6, 9, 24)]) (own := "TradeLineLaw") (by decide) rfl rfl (Nat.le_of_ble_eq_true rfl) ?_
  intro p e s m args below meth c C hr hT hz hEv hN
  refine g_vx ?_
  refine g_lv (lv' := [(0, .ref (Ad 0 0)), (1, .int x1)]) [0, 1] rfl ?_
  refine g_aload_n C dL_sent_0 rfl 0 rfl ?_
  refine g_iload_n C dL_sent_1 rfl 1 rfl ?_
  refine g_cVi (n := 1) (exc := []) (exr := []) C [_] _ rfl rfl [] [] rfl rfl rfl rfl (fun _ h => absurd h (by simp)) (fun _ h => absurd h (by simp)) (fun _ h => absurd h (by simp)) (fun sz => c_X8_sent l μ ν a Ad w x1 r0 h D E sz) rfl gw_1230 gw_1 gw_1227 gw_1228 gw_1229 ⟨by decide +kernel, by decide +kernel, by decide +kernel⟩ ⟨rfl, rfl⟩ ⟨Nat.le_of_ble_eq_true rfl, Nat.le_of_ble_eq_true rfl⟩ (rcvT ⟨h0, fun e => absurd e (by decide)⟩ rfl rfl rfl) (Nat.le_of_ble_eq_true rfl) dL_sent_2 ⟨Nat.zero_le _, Nat.zero_le _⟩ (fun r u hp hx => ?_)
  obtain ⟨er, rfl⟩ := hp
  rw [er]
  try dsimp only [List.append_nil]
  refine g_widen (k := kc ν - kc ν) (n := ks ν - ks ν) (Nat.zero_le _) (Nat.zero_le _) ?_
  refine g_istore_n (lv' := [(2, .int r0), (0, .ref (Ad 0 0)), (1, .int x1)]) C dL_sent_5 rfl (by decide) rfl ?_
  refine g_goto (tgt := 14) C dL_sent_6 (by decide) ?_
  refine g_iload_n C dL_sent_14 rfl 0 rfl ?_
  exact g_iret C hr rfl hz ⟨rfl, rfl, fun _ => rfl, fun _ => rfl⟩ ⟨rfl, Ad, rfl, kp_rfl _ _⟩ (fun j x h => by simp at h) dL_sent_15
set_option maxHeartbeats 4000000 in
set_option maxRecDepth 100000 in
theorem e1_L_sent (l : Launch) (hl : l.stackTraces = false) (B : Nat × (Nat → Nat)) (μ : MP) (ν : NC) (a : AS) (Ad : Nat → Nat → Nat) (w : Nat) (x1 : Int32) (r0 : Int32) (h : f_X8_sent w μ ν x1 = some (1, r0)) (h0 : 0 < ν.2 0) : ∀ D E sz, vx_Met l yL_sent gwL_sent ({ frames := 8, cells := kc (((μ, chg ν 1 6), (-7100 : Int32))).1.2 - kc ν, slots := ks (((μ, chg ν 1 6), (-7100 : Int32))).1.2 - ks ν, locals := 141 } : Room) (cPh D E sz B (zS μ ν a Ad) [.ref (Ad 0 0), .int x1]) (cQ D E sz (zS μ ν a Ad) [] (pI (fun r u => r = (((μ, chg ν 1 6), (-7100 : Int32))).2 ∧ ∃ A1, u = (zS (((μ, chg ν 1 6), (-7100 : Int32))).1.1 (((μ, chg ν 1 6), (-7100 : Int32))).1.2 a A1, []) ∧ kp ν Ad A1))) (fun _ _ _ => False) (kc (((μ, chg ν 1 6), (-7100 : Int32))).1.2 - kc ν) (ks (((μ, chg ν 1 6), (-7100 : Int32))).1.2 - ks ν) (Aof (zS μ ν a Ad) [] sz) := by
  have k1 := kc_chg ν 1 6; have k2 := ks_chg ν 1 6
  intro D E sz
  refine g_ofH (cc := cL_sent) (maxL := 4) (ret := some .int) (hh := [(0, 6, 9, 24)]) (own := "TradeLineLaw") (by decide) rfl rfl (Nat.le_of_ble_eq_true rfl) ?_
  intro p e s m args below meth c C hr hT hz hEv hN
  refine g_lv (lv' := [(0, .ref (Ad 0 0)), (1, .int x1)]) [0, 1] rfl ?_
  refine g_aload_n C dL_sent_0 rfl 0 rfl ?_
  refine g_iload_n C dL_sent_1 rfl 1 rfl ?_
  refine g_hc (n := 1) (index := 1) C hEv ⟨rfl, rfl⟩ hN [_] _ rfl rfl (fun sz => x_X8_sent l hl B μ ν a Ad w x1 0 r0 h D E sz) rfl gw_1230 gw_1 gw_1227 gw_1228 gw_1229 ⟨by decide +kernel, by decide +kernel, by decide +kernel⟩ ⟨rfl, rfl⟩ ⟨Nat.le_of_ble_eq_true rfl, Nat.le_of_ble_eq_true rfl⟩ (rcvT ⟨h0, fun e => absurd e (by decide)⟩ rfl rfl rfl) (Nat.le_of_ble_eq_true rfl) dL_sent_2 ⟨by show 1 ≤ kc (chg ν 1 6) - kc ν; omega, by show 6 ≤ ks (chg ν 1 6) - ks ν; omega⟩ [] ⟨0, 6, 9, 24⟩ [] hT (fun z hz => absurd hz (by simp)) (by decide) (by decide) gw_473 (by decide) rfl (fun q9 => ?_)
  refine g_chg 1 6 ?_
  refine g_widen (k := kc (chg ν 1 6) - kc ν) (n := ks (chg ν 1 6) - ks ν) (by omega) (by omega) ?_
  refine g_astore_n (lv' := [(3, .ref q9), (0, .ref (Ad 0 0)), (1, .int x1)]) C dL_sent_9 rfl (by decide) rfl ?_
  refine g_sipush (v := (-7100 : Int32)) C dL_sent_10 (by decide) ?_
  refine g_vx ?_
  exact g_iret C hr rfl hz ⟨rfl, rfl, fun _ => rfl, fun _ => rfl⟩ ⟨rfl, Ad, rfl, kp_rfl _ _⟩ (fun j x h => by simp at h) dL_sent_13
theorem m_L_sent {w : Nat} {μ : MP} {ν : NC} {x1 : Int32} {r0 : (MP × NC) × Int32} (h : f_L_sent w μ ν x1 = some r0) : mn ν r0.1.2 := by
  unfold f_L_sent at h
  obtain ⟨⟨t, r⟩, h1, h⟩ := bind_of h
  by_cases c0 : t = 0
  · subst c0
    obtain rfl := Option.some.inj ((if_pos rfl).symm.trans h)
    exact mn_rfl _
  · replace h := (if_neg c0).symm.trans h
    by_cases c1 : t = 1
    · subst c1
      obtain rfl := Option.some.inj ((if_pos rfl).symm.trans h)
      exact mn_chg _ _ _
    replace h := (if_neg c1).symm.trans h
    exact absurd h (by simp)
theorem c_L_sent (l : Launch) (hl : l.stackTraces = false) (B : Nat × (Nat → Nat)) (μ : MP) (ν : NC) (a : AS) (Ad : Nat → Nat → Nat) (w : Nat) (x1 : Int32) (r0 : (MP × NC) × Int32) (h : f_L_sent w μ ν x1 = some r0) (h0 : 0 < ν.2 0) : ∀ D E sz, vx_Met l yL_sent gwL_sent ({ frames := 8, cells := kc (r0).1.2 - kc ν, slots := ks (r0).1.2 - ks ν, locals := 141 } : Room) (cPh D E sz B (zS μ ν a Ad) [.ref (Ad 0 0), .int x1]) (cQ D E sz (zS μ ν a Ad) [] (pI (fun r u => r = (r0).2 ∧ ∃ A1, u = (zS (r0).1.1 (r0).1.2 a A1, []) ∧ kp ν Ad A1))) (fun _ _ _ => False) (kc (r0).1.2 - kc ν) (ks (r0).1.2 - ks ν) (Aof (zS μ ν a Ad) [] sz) := by
  unfold f_L_sent at h
  obtain ⟨⟨t, r⟩, h1, h⟩ := bind_of h
  by_cases c0 : t = 0
  · subst c0
    obtain rfl := Option.some.inj ((if_pos rfl).symm.trans h)
    exact r_L_sent l hl B μ ν a Ad w x1 r h1 h0
  · replace h := (if_neg c0).symm.trans h
    by_cases c1 : t = 1
    · subst c1
      obtain rfl := Option.some.inj ((if_pos rfl).symm.trans h)
      exact e1_L_sent l hl B μ ν a Ad w x1 r h1 h0
    replace h := (if_neg c1).symm.trans h
    exact absurd h (by simp)
noncomputable def f_L_expected (w : Nat) (μ : MP) (ν : NC) (x1 : Int32) : Option ((MP × NC) × Int32) := (f_X8_expected w μ ν x1).bind (fun r => if r.1 = 0 then some (((μ, ν), r.2)) else if r.1 = 1 then some ((μ, chg ν 1 6), (-7100 : Int32)) else none)
set_option maxHeartbeats 4000000 in
set_option maxRecDepth 100000 in
theorem r_L_expected (l : Launch) (hl : l.stackTraces = false) (B : Nat × (Nat → Nat)) (μ : MP) (ν : NC) (a : AS) (Ad : Nat → Nat → Nat) (w : Nat) (x1 : Int32) (r0 : Int32) (h : f_X8_expected w μ ν x1 = some (0, r0)) (h0 : 0 < ν.2 0) : ∀ D E sz, vx_Met l yL_expected gwL_expected ({ frames := 8, cells := kc (((μ, ν), r0)).1.2 - kc ν, slots := ks (((μ, ν), r0)).1.2 - ks ν, locals := 141 } : Room) (cPh D E sz B (zS μ ν a Ad) [.ref (Ad 0 0), .int x1]) (cQ D E sz (zS μ ν a Ad) [] (pI (fun r u => r = (((μ, ν), r0)).2 ∧ ∃ A1, u = (zS (((μ, ν), r0)).1.1 (((μ, ν), r0)).1.2 a A1, []) ∧ kp ν Ad A1))) (fun _ _ _ => False) (kc (((μ, ν), r0)).1.2 - kc ν) (ks (((μ, ν), r0)).1.2 - ks ν) (Aof (zS μ ν a Ad) [] sz) := by
  intro D E sz
  refine g_ofH (cc := cL_expected) (maxL := 4) (ret := some .int) (hh := [(0, 6, 9, 24)]) (own := "TradeLineLaw") (by decide) rfl rfl (Nat.le_of_ble_eq_true rfl) ?_
  intro p e s m args below meth c C hr hT hz hEv hN
  refine g_vx ?_
  refine g_lv (lv' := [(0, .ref (Ad 0 0)), (1, .int x1)]) [0, 1] rfl ?_
  refine g_aload_n C dL_expected_0 rfl 0 rfl ?_
  refine g_iload_n C dL_expected_1 rfl 1 rfl ?_
  refine g_cVi (n := 1) (exc := []) (exr := []) C [_] _ rfl rfl [] [] rfl rfl rfl rfl (fun _ h => absurd h (by simp)) (fun _ h => absurd h (by simp)) (fun _ h => absurd h (by simp)) (fun sz => c_X8_expected l μ ν a Ad w x1 r0 h D E sz) rfl gw_1237 gw_1 gw_1234 gw_1235 gw_1236 ⟨by decide +kernel, by decide +kernel, by decide +kernel⟩ ⟨rfl, rfl⟩ ⟨Nat.le_of_ble_eq_true rfl, Nat.le_of_ble_eq_true rfl⟩ (rcvT ⟨h0, fun e => absurd e (by decide)⟩ rfl rfl rfl) (Nat.le_of_ble_eq_true rfl) dL_expected_2 ⟨Nat.zero_le _, Nat.zero_le _⟩ (fun r u hp hx => ?_)
  obtain ⟨er, rfl⟩ := hp
  rw [er]
  try dsimp only [List.append_nil]
  refine g_widen (k := kc ν - kc ν) (n := ks ν - ks ν) (Nat.zero_le _) (Nat.zero_le _) ?_
  refine g_istore_n (lv' := [(2, .int r0), (0, .ref (Ad 0 0)), (1, .int x1)]) C dL_expected_5 rfl (by decide) rfl ?_
  refine g_goto (tgt := 14) C dL_expected_6 (by decide) ?_
  refine g_iload_n C dL_expected_14 rfl 0 rfl ?_
  exact g_iret C hr rfl hz ⟨rfl, rfl, fun _ => rfl, fun _ => rfl⟩ ⟨rfl, Ad, rfl, kp_rfl _ _⟩ (fun j x h => by simp at h) dL_expected_15
set_option maxHeartbeats 4000000 in
set_option maxRecDepth 100000 in
theorem e1_L_expected (l : Launch) (hl : l.stackTraces = false) (B : Nat × (Nat → Nat)) (μ : MP) (ν : NC) (a : AS) (Ad : Nat → Nat → Nat) (w : Nat) (x1 : Int32) (r0 : Int32) (h : f_X8_expected w μ ν x1 = some (1, r0)) (h0 : 0 < ν.2 0) : ∀ D E sz, vx_Met l yL_expected gwL_expected ({ frames := 8, cells := kc (((μ, chg ν 1 6), (-7100 : Int32))).1.2 - kc ν, slots := ks (((μ, chg ν 1 6), (-7100 : Int32))).1.2 - ks ν, locals := 141 } : Room) (cPh D E sz B (zS μ ν a Ad) [.ref (Ad 0 0), .int x1]) (cQ D E sz (zS μ ν a Ad) [] (pI (fun r u => r = (((μ, chg ν 1 6), (-7100 : Int32))).2 ∧ ∃ A1, u = (zS (((μ, chg ν 1 6), (-7100 : Int32))).1.1 (((μ, chg ν 1 6), (-7100 : Int32))).1.2 a A1, []) ∧ kp ν Ad A1))) (fun _ _ _ => False) (kc (((μ, chg ν 1 6), (-7100 : Int32))).1.2 - kc ν) (ks (((μ, chg ν 1 6), (-7100 : Int32))).1.2 - ks ν) (Aof (zS μ ν a Ad) [] sz) := by
  have k1 := kc_chg ν 1 6; have k2 := ks_chg ν 1 6
  intro D E sz
  refine g_ofH (cc := cL_expected) (maxL := 4) (ret := some .int) (hh := [(0, 6, 9, 24)]) (own := "TradeLineLaw") (by decide) rfl rfl (Nat.le_of_ble_eq_true rfl) ?_
  intro p e s m args below meth c C hr hT hz hEv hN
  refine g_lv (lv' := [(0, .ref (Ad 0 0)), (1, .int x1)]) [0, 1] rfl ?_
  refine g_aload_n C dL_expected_0 rfl 0 rfl ?_
  refine g_iload_n C dL_expected_1 rfl 1 rfl ?_
  refine g_hc (n := 1) (index := 1) C hEv ⟨rfl, rfl⟩ hN [_] _ rfl rfl (fun sz => x_X8_expected l hl B μ ν a Ad w x1 0 r0 h D E sz) rfl gw_1237 gw_1 gw_1234 gw_1235 gw_1236 ⟨by decide +kernel, by decide +kernel, by decide +kernel⟩ ⟨rfl, rfl⟩ ⟨Nat.le_of_ble_eq_true rfl, Nat.le_of_ble_eq_true rfl⟩ (rcvT ⟨h0, fun e => absurd e (by decide)⟩ rfl rfl rfl) (Nat.le_of_ble_eq_true rfl) dL_expected_2 ⟨by show 1 ≤ kc (chg ν 1 6) - kc ν; omega, by show 6 ≤ ks (chg ν 1 6) - ks ν; omega⟩ [] ⟨0, 6, 9, 24⟩ [] hT (fun z hz => absurd hz (by simp)) (by decide) (by decide) gw_473 (by decide) rfl (fun q9 => ?_)
  refine g_chg 1 6 ?_
  refine g_widen (k := kc (chg ν 1 6) - kc ν) (n := ks (chg ν 1 6) - ks ν) (by omega) (by omega) ?_
  refine g_astore_n (lv' := [(3, .ref q9), (0, .ref (Ad 0 0)), (1, .int x1)]) C dL_expected_9 rfl (by decide) rfl ?_
  refine g_sipush (v := (-7100 : Int32)) C dL_expected_10 (by decide) ?_
  refine g_vx ?_
  exact g_iret C hr rfl hz ⟨rfl, rfl, fun _ => rfl, fun _ => rfl⟩ ⟨rfl, Ad, rfl, kp_rfl _ _⟩ (fun j x h => by simp at h) dL_expected_13
theorem m_L_expected {w : Nat} {μ : MP} {ν : NC} {x1 : Int32} {r0 : (MP × NC) × Int32} (h : f_L_expected w μ ν x1 = some r0) : mn ν r0.1.2 := by
  unfold f_L_expected at h
  obtain ⟨⟨t, r⟩, h1, h⟩ := bind_of h
  by_cases c0 : t = 0
  · subst c0
    obtain rfl := Option.some.inj ((if_pos rfl).symm.trans h)
    exact mn_rfl _
  · replace h := (if_neg c0).symm.trans h
    by_cases c1 : t = 1
    · subst c1
      obtain rfl := Option.some.inj ((if_pos rfl).symm.trans h)
      exact mn_chg _ _ _
    replace h := (if_neg c1).symm.trans h
    exact absurd h (by simp)
theorem c_L_expected (l : Launch) (hl : l.stackTraces = false) (B : Nat × (Nat → Nat)) (μ : MP) (ν : NC) (a : AS) (Ad : Nat → Nat → Nat) (w : Nat) (x1 : Int32) (r0 : (MP × NC) × Int32) (h : f_L_expected w μ ν x1 = some r0) (h0 : 0 < ν.2 0) : ∀ D E sz, vx_Met l yL_expected gwL_expected ({ frames := 8, cells := kc (r0).1.2 - kc ν, slots := ks (r0).1.2 - ks ν, locals := 141 } : Room) (cPh D E sz B (zS μ ν a Ad) [.ref (Ad 0 0), .int x1]) (cQ D E sz (zS μ ν a Ad) [] (pI (fun r u => r = (r0).2 ∧ ∃ A1, u = (zS (r0).1.1 (r0).1.2 a A1, []) ∧ kp ν Ad A1))) (fun _ _ _ => False) (kc (r0).1.2 - kc ν) (ks (r0).1.2 - ks ν) (Aof (zS μ ν a Ad) [] sz) := by
  unfold f_L_expected at h
  obtain ⟨⟨t, r⟩, h1, h⟩ := bind_of h
  by_cases c0 : t = 0
  · subst c0
    obtain rfl := Option.some.inj ((if_pos rfl).symm.trans h)
    exact r_L_expected l hl B μ ν a Ad w x1 r h1 h0
  · replace h := (if_neg c0).symm.trans h
    by_cases c1 : t = 1
    · subst c1
      obtain rfl := Option.some.inj ((if_pos rfl).symm.trans h)
      exact e1_L_expected l hl B μ ν a Ad w x1 r h1 h0
    replace h := (if_neg c1).symm.trans h
    exact absurd h (by simp)
noncomputable def f_L_onWay (w : Nat) (μ : MP) (ν : NC) (x1 : Int32) : Option ((MP × NC) × Int32) := (f_X8_onWay w μ ν x1).bind (fun r => if r.1 = 0 then some (((μ, ν), r.2)) else if r.1 = 1 then some ((μ, chg ν 1 6), (-7100 : Int32)) else none)
set_option maxHeartbeats 4000000 in
set_option maxRecDepth 100000 in
theorem r_L_onWay (l : Launch) (hl : l.stackTraces = false) (B : Nat × (Nat → Nat)) (μ : MP) (ν : NC) (a : AS) (Ad : Nat → Nat → Nat) (w : Nat) (x1 : Int32) (r0 : Int32) (h : f_X8_onWay w μ ν x1 = some (0, r0)) (h0 : 0 < ν.2 0) : ∀ D E sz, vx_Met l yL_onWay gwL_onWay ({ frames := 8, cells := kc (((μ, ν), r0)).1.2 - kc ν, slots := ks (((μ, ν), r0)).1.2 - ks ν, locals := 141 } : Room) (cPh D E sz B (zS μ ν a Ad) [.ref (Ad 0 0), .int x1]) (cQ D E sz (zS μ ν a Ad) [] (pI (fun r u => r = (((μ, ν), r0)).2 ∧ ∃ A1, u = (zS (((μ, ν), r0)).1.1 (((μ, ν), r0)).1.2 a A1, []) ∧ kp ν Ad A1))) (fun _ _ _ => False) (kc (((μ, ν), r0)).1.2 - kc ν) (ks (((μ, ν), r0)).1.2 - ks ν) (Aof (zS μ ν a Ad) [] sz) := by
  intro D E sz
  refine g_ofH (cc := cL_onWay) (maxL := 4) (ret := some .int) (hh := [(0, 6, 9, 24)]) (own := "TradeLineLaw") (by decide) rfl rfl (Nat.le_of_ble_eq_true rfl) ?_
  intro p e s m args below meth c C hr hT hz hEv hN
  refine g_vx ?_
  refine g_lv (lv' := [(0, .ref (Ad 0 0)), (1, .int x1)]) [0, 1] rfl ?_
  refine g_aload_n C dL_onWay_0 rfl 0 rfl ?_
  refine g_iload_n C dL_onWay_1 rfl 1 rfl ?_
  refine g_cVi (n := 1) (exc := []) (exr := []) C [_] _ rfl rfl [] [] rfl rfl rfl rfl (fun _ h => absurd h (by simp)) (fun _ h => absurd h (by simp)) (fun _ h => absurd h (by simp)) (fun sz => c_X8_onWay l μ ν a Ad w x1 r0 h D E sz) rfl gw_1244 gw_1 gw_1241 gw_1242 gw_1243 ⟨by decide +kernel, by decide +kernel, by decide +kernel⟩ ⟨rfl, rfl⟩ ⟨Nat.le_of_ble_eq_true rfl, Nat.le_of_ble_eq_true rfl⟩ (rcvT ⟨h0, fun e => absurd e (by decide)⟩ rfl rfl rfl) (Nat.le_of_ble_eq_true rfl) dL_onWay_2 ⟨Nat.zero_le _, Nat.zero_le _⟩ (fun r u hp hx => ?_)
  obtain ⟨er, rfl⟩ := hp
  rw [er]
  try dsimp only [List.append_nil]
  refine g_widen (k := kc ν - kc ν) (n := ks ν - ks ν) (Nat.zero_le _) (Nat.zero_le _) ?_
  refine g_istore_n (lv' := [(2, .int r0), (0, .ref (Ad 0 0)), (1, .int x1)]) C dL_onWay_5 rfl (by decide) rfl ?_
  refine g_goto (tgt := 14) C dL_onWay_6 (by decide) ?_
  refine g_iload_n C dL_onWay_14 rfl 0 rfl ?_
  exact g_iret C hr rfl hz ⟨rfl, rfl, fun _ => rfl, fun _ => rfl⟩ ⟨rfl, Ad, rfl, kp_rfl _ _⟩ (fun j x h => by simp at h) dL_onWay_15
set_option maxHeartbeats 4000000 in
set_option maxRecDepth 100000 in
theorem e1_L_onWay (l : Launch) (hl : l.stackTraces = false) (B : Nat × (Nat → Nat)) (μ : MP) (ν : NC) (a : AS) (Ad : Nat → Nat → Nat) (w : Nat) (x1 : Int32) (r0 : Int32) (h : f_X8_onWay w μ ν x1 = some (1, r0)) (h0 : 0 < ν.2 0) : ∀ D E sz, vx_Met l yL_onWay gwL_onWay ({ frames := 8, cells := kc (((μ, chg ν 1 6), (-7100 : Int32))).1.2 - kc ν, slots := ks (((μ, chg ν 1 6), (-7100 : Int32))).1.2 - ks ν, locals := 141 } : Room) (cPh D E sz B (zS μ ν a Ad) [.ref (Ad 0 0), .int x1]) (cQ D E sz (zS μ ν a Ad) [] (pI (fun r u => r = (((μ, chg ν 1 6), (-7100 : Int32))).2 ∧ ∃ A1, u = (zS (((μ, chg ν 1 6), (-7100 : Int32))).1.1 (((μ, chg ν 1 6), (-7100 : Int32))).1.2 a A1, []) ∧ kp ν Ad A1))) (fun _ _ _ => False) (kc (((μ, chg ν 1 6), (-7100 : Int32))).1.2 - kc ν) (ks (((μ, chg ν 1 6), (-7100 : Int32))).1.2 - ks ν) (Aof (zS μ ν a Ad) [] sz) := by
  have k1 := kc_chg ν 1 6; have k2 := ks_chg ν 1 6
  intro D E sz
  refine g_ofH (cc := cL_onWay) (maxL := 4) (ret := some .int) (hh := [(0, 6, 9, 24)]) (own := "TradeLineLaw") (by decide) rfl rfl (Nat.le_of_ble_eq_true rfl) ?_
  intro p e s m args below meth c C hr hT hz hEv hN
  refine g_lv (lv' := [(0, .ref (Ad 0 0)), (1, .int x1)]) [0, 1] rfl ?_
  refine g_aload_n C dL_onWay_0 rfl 0 rfl ?_
  refine g_iload_n C dL_onWay_1 rfl 1 rfl ?_
  refine g_hc (n := 1) (index := 1) C hEv ⟨rfl, rfl⟩ hN [_] _ rfl rfl (fun sz => x_X8_onWay l hl B μ ν a Ad w x1 0 r0 h D E sz) rfl gw_1244 gw_1 gw_1241 gw_1242 gw_1243 ⟨by decide +kernel, by decide +kernel, by decide +kernel⟩ ⟨rfl, rfl⟩ ⟨Nat.le_of_ble_eq_true rfl, Nat.le_of_ble_eq_true rfl⟩ (rcvT ⟨h0, fun e => absurd e (by decide)⟩ rfl rfl rfl) (Nat.le_of_ble_eq_true rfl) dL_onWay_2 ⟨by show 1 ≤ kc (chg ν 1 6) - kc ν; omega, by show 6 ≤ ks (chg ν 1 6) - ks ν; omega⟩ [] ⟨0, 6, 9, 24⟩ [] hT (fun z hz => absurd hz (by simp)) (by decide) (by decide) gw_473 (by decide) rfl (fun q9 => ?_)
  refine g_chg 1 6 ?_
  refine g_widen (k := kc (chg ν 1 6) - kc ν) (n := ks (chg ν 1 6) - ks ν) (by omega) (by omega) ?_
  refine g_astore_n (lv' := [(3, .ref q9), (0, .ref (Ad 0 0)), (1, .int x1)]) C dL_onWay_9 rfl (by decide) rfl ?_
  refine g_sipush (v := (-7100 : Int32)) C dL_onWay_10 (by decide) ?_
  refine g_vx ?_
  exact g_iret C hr rfl hz ⟨rfl, rfl, fun _ => rfl, fun _ => rfl⟩ ⟨rfl, Ad, rfl, kp_rfl _ _⟩ (fun j x h => by simp at h) dL_onWay_13
theorem m_L_onWay {w : Nat} {μ : MP} {ν : NC} {x1 : Int32} {r0 : (MP × NC) × Int32} (h : f_L_onWay w μ ν x1 = some r0) : mn ν r0.1.2 := by
  unfold f_L_onWay at h
  obtain ⟨⟨t, r⟩, h1, h⟩ := bind_of h
  by_cases c0 : t = 0
  · subst c0
    obtain rfl := Option.some.inj ((if_pos rfl).symm.trans h)
    exact mn_rfl _
  · replace h := (if_neg c0).symm.trans h
    by_cases c1 : t = 1
    · subst c1
      obtain rfl := Option.some.inj ((if_pos rfl).symm.trans h)
      exact mn_chg _ _ _
    replace h := (if_neg c1).symm.trans h
    exact absurd h (by simp)
theorem c_L_onWay (l : Launch) (hl : l.stackTraces = false) (B : Nat × (Nat → Nat)) (μ : MP) (ν : NC) (a : AS) (Ad : Nat → Nat → Nat) (w : Nat) (x1 : Int32) (r0 : (MP × NC) × Int32) (h : f_L_onWay w μ ν x1 = some r0) (h0 : 0 < ν.2 0) : ∀ D E sz, vx_Met l yL_onWay gwL_onWay ({ frames := 8, cells := kc (r0).1.2 - kc ν, slots := ks (r0).1.2 - ks ν, locals := 141 } : Room) (cPh D E sz B (zS μ ν a Ad) [.ref (Ad 0 0), .int x1]) (cQ D E sz (zS μ ν a Ad) [] (pI (fun r u => r = (r0).2 ∧ ∃ A1, u = (zS (r0).1.1 (r0).1.2 a A1, []) ∧ kp ν Ad A1))) (fun _ _ _ => False) (kc (r0).1.2 - kc ν) (ks (r0).1.2 - ks ν) (Aof (zS μ ν a Ad) [] sz) := by
  unfold f_L_onWay at h
  obtain ⟨⟨t, r⟩, h1, h⟩ := bind_of h
  by_cases c0 : t = 0
  · subst c0
    obtain rfl := Option.some.inj ((if_pos rfl).symm.trans h)
    exact r_L_onWay l hl B μ ν a Ad w x1 r h1 h0
  · replace h := (if_neg c0).symm.trans h
    by_cases c1 : t = 1
    · subst c1
      obtain rfl := Option.some.inj ((if_pos rfl).symm.trans h)
      exact e1_L_onWay l hl B μ ν a Ad w x1 r h1 h0
    replace h := (if_neg c1).symm.trans h
    exact absurd h (by simp)
