set_option maxHeartbeats 4000000 in
set_option maxRecDepth 100000 in
theorem r_L_connect (l : Launch) (B : Nat × (Nat → Nat)) (μ : MP) (ν : NC) (a : AS) (Ad : Nat → Nat → Nat) (w : Nat) (x1 : Int32) (r0 : (MP × NC) × Int32) (h : f_X8_connect w μ ν x1 = some (0, r0)) (h0 : 0 < ν.2 0) (h9 : 0 < ν.2 90 ∧ ν.1 90 0 = 1) : ∀ D E sz, vx_Met l yL_connect gwL_connect ({ frames := 9, cells := kc r0.1.2 - kc ν, slots := ks r0.1.2 - ks ν, locals := 267 } : Room) (cPh D E sz B (zS μ ν a Ad) [.ref (Ad 0 0), .int x1]) (cQ D E sz (zS μ ν a Ad) [] (pI (fun r u => r = 0 ∧ ∃ A1, u = (zS r0.1.1 r0.1.2 a A1, []) ∧ kp ν Ad A1))) (fun _ _ _ => False) (kc r0.1.2 - kc ν) (ks r0.1.2 - ks ν) (Aof (zS μ ν a Ad) [] sz) := by
  intro D E sz
  refine g_ofH (cc := cL_connect) (maxL := 3) (ret := some .int) (hh := [(0, 5, 8, 13)]) (own := "TradeLineLaw") (by decide) rfl rfl (Nat.le_of_ble_eq_true rfl) ?_
  intro p e s m args below meth c C hr hT hz hEv hN
  refine g_vx ?_
  refine g_lv (lv' := [(0, .ref (Ad 0 0)), (1, .int x1)]) [0, 1] rfl ?_
  refine g_aload_n C dL_connect_0 rfl 0 rfl ?_
  refine g_iload_n C dL_connect_1 rfl 1 rfl ?_
  refine g_cVve (n := 1) (exc := []) (exr := []) C hEv ⟨rfl, rfl⟩ [_] _ rfl rfl [] [] rfl rfl rfl rfl (fun _ h => absurd h (by simp)) (fun _ h => absurd h (by simp)) (fun _ h => absurd h (by simp)) (fun sz => c_X8_connect l B μ ν a Ad w x1 r0 h D E sz) rfl gw_267 gw_1 gw_264 gw_265 gw_266 ⟨by decide +kernel, by decide +kernel, by decide +kernel⟩ ⟨rfl, rfl⟩ ⟨Nat.le_of_ble_eq_true rfl, Nat.le_of_ble_eq_true rfl⟩ (rcvT ⟨h0, fun e => absurd e (by decide)⟩ rfl rfl rfl) (Nat.le_of_ble_eq_true rfl) dL_connect_2 ⟨by show 0 + (kc r0.1.2 - kc ν) ≤ kc r0.1.2 - kc ν; omega, by show 0 + (ks r0.1.2 - ks ν) ≤ ks r0.1.2 - ks ν; omega⟩ (fun u hp hx => ?_)
  obtain ⟨A1, rfl, hkp⟩ := hp
  try dsimp only [List.append_nil]
  have hm := m_X8_connect h
  refine g_widen (k := kc r0.1.2 - kc ν) (n := ks r0.1.2 - ks ν) (by omega) (by omega) ?_
  refine g_goto (tgt := 11) C dL_connect_5 (by decide) ?_
  refine g_iconst (v := 0) C dL_connect_11 (by decide) ?_
  exact g_iret C hr rfl hz ⟨(hm.2.2.2 30 (by decide) (by decide)).1, (hm.2.2.2 31 (by decide) (by decide)).1, hkp.2.1, hkp.2.2⟩ ⟨rfl, A1, rfl, hkp⟩ (fun j x h => by simp at h) dL_connect_12
set_option maxHeartbeats 4000000 in
set_option maxRecDepth 100000 in
theorem e3_L_connect (l : Launch) (hl : l.stackTraces = false) (B : Nat × (Nat → Nat)) (μ : MP) (ν : NC) (a : AS) (Ad : Nat → Nat → Nat) (w : Nat) (x1 : Int32) (r0 : (MP × NC) × Int32) (h : f_X8_connect w μ ν x1 = some (3, r0)) (h0 : 0 < ν.2 0) (h9 : 0 < ν.2 90 ∧ ν.1 90 0 = 1) : ∀ D E sz, vx_Met l yL_connect gwL_connect ({ frames := 9, cells := 1, slots := 6, locals := 267 } : Room) (cPh D E sz B (zS μ ν a Ad) [.ref (Ad 0 0), .int x1]) (cQ D E sz (zS μ ν a Ad) [] (pI (fun r u => r = 1 ∧ u = (zS μ ν a Ad, [])))) (fun _ _ _ => False) (1) (6) (Aof (zS μ ν a Ad) [] sz) := by
  intro D E sz
  refine g_ofH (cc := cL_connect) (maxL := 3) (ret := some .int) (hh := [(0, 5, 8, 13)]) (own := "TradeLineLaw") (by decide) rfl rfl (Nat.le_of_ble_eq_true rfl) ?_
  intro p e s m args below meth c C hr hT hz hEv hN
  refine g_lv (lv' := [(0, .ref (Ad 0 0)), (1, .int x1)]) [0, 1] rfl ?_
  refine g_aload_n C dL_connect_0 rfl 0 rfl ?_
  refine g_iload_n C dL_connect_1 rfl 1 rfl ?_
  refine g_hc (n := 3) (index := 1) C hEv ⟨rfl, rfl⟩ hN [_] _ rfl rfl (fun sz => x_X8_connect l hl B μ ν a Ad w x1 2 r0 h D E sz) rfl gw_267 gw_1 gw_264 gw_265 gw_266 ⟨by decide +kernel, by decide +kernel, by decide +kernel⟩ ⟨rfl, rfl⟩ ⟨Nat.le_of_ble_eq_true rfl, Nat.le_of_ble_eq_true rfl⟩ (rcvT ⟨h0, fun e => absurd e (by decide)⟩ rfl rfl rfl) (Nat.le_of_ble_eq_true rfl) dL_connect_2 ⟨by decide, by decide⟩ [] ⟨0, 5, 8, 13⟩ [] hT (fun z hz => absurd hz (by simp)) (by decide) (by decide) gw_263 (by decide) rfl (fun q9 => ?_)
  refine g_astore_n (lv' := [(2, .ref q9), (0, .ref (Ad 0 0)), (1, .int x1)]) C dL_connect_8 rfl (by decide) rfl ?_
  refine g_iconst (v := 1) C dL_connect_9 (by decide) ?_
  refine g_vx ?_
  exact g_iret C hr rfl hz ⟨rfl, rfl, fun _ => rfl, fun _ => rfl⟩ ⟨rfl, rfl⟩ (fun j x h => by simp at h) dL_connect_10
set_option maxHeartbeats 4000000 in
set_option maxRecDepth 100000 in
theorem r_L_cut (l : Launch) (B : Nat × (Nat → Nat)) (μ : MP) (ν : NC) (a : AS) (Ad : Nat → Nat → Nat) (w : Nat) (r0 : MP × Int32) (h : f_X8_cut w μ ν  = some (0, r0)) (h0 : 0 < ν.2 0) (h9 : 0 < ν.2 90 ∧ ν.1 90 0 = 1) : ∀ D E sz, vx_Met l yL_cut gwL_cut ({ frames := 5, cells := 0, slots := 0, locals := 104 } : Room) (cPh D E sz B (zS μ ν a Ad) [.ref (Ad 0 0), .ref (Ad 90 0)]) (cQ D E sz (zS μ ν a Ad) [] (pI (fun r u => r = 0 ∧ u = (zS (up3 r0.1.1 90 0 0 r0.2, r0.1.2) ν a Ad, [])))) (fun _ _ _ => False) (0) (0) (Aof (zS μ ν a Ad) [] sz) := by
  intro D E sz
  refine g_ofH (cc := cL_cut) (maxL := 3) (ret := some .int) (hh := [(0, 8, 11, 13)]) (own := "TradeLineLaw") (by decide) rfl rfl (Nat.le_of_ble_eq_true rfl) ?_
  intro p e s m args below meth c C hr hT hz hEv hN
  refine g_vx ?_
  refine g_lv (lv' := [(0, .ref (Ad 0 0)), (1, .ref (Ad 90 0))]) [0, 1] rfl ?_
  refine g_aload_n C dL_cut_0 rfl 1 rfl ?_
  refine g_iconst (v := 0) C dL_cut_1 (by decide) ?_
  refine g_aload_n C dL_cut_2 rfl 0 rfl ?_
  refine g_cVi (n := 0) (exc := []) (exr := []) C [] _ rfl rfl [] [] rfl rfl rfl rfl (fun _ h => absurd h (by simp)) (fun _ h => absurd h (by simp)) (fun _ h => absurd h (by simp)) (fun sz => c_X8_cut l μ ν a Ad w  r0 h D E sz) rfl gw_475 gw_1 gw_472 gw_473 gw_474 ⟨by decide +kernel, by decide +kernel, by decide +kernel⟩ ⟨rfl, rfl⟩ ⟨Nat.le_of_ble_eq_true rfl, Nat.le_of_ble_eq_true rfl⟩ (rcvT ⟨h0, fun e => absurd e (by decide)⟩ rfl rfl rfl) (Nat.le_of_ble_eq_true rfl) dL_cut_3 ⟨by show 0 + (0) ≤ 0; omega, by show 0 + (0) ≤ 0; omega⟩ (fun r u hp hx => ?_)
  obtain ⟨er, rfl⟩ := hp
  rw [er]
  try dsimp only [List.append_nil]
  refine g_widen (k := 0) (n := 0) (by omega) (by omega) ?_
  refine g_i2l C dL_cut_6 rfl ?_
  refine g_last C rfl h9 dL_cut_7 ?_
  refine g_goto (tgt := 14) C dL_cut_8 (by decide) ?_
  refine g_iconst (v := 0) C dL_cut_14 (by decide) ?_
  exact g_iret C hr rfl hz ⟨rfl, rfl, fun _ => rfl, fun _ => rfl⟩ ⟨rfl, rfl⟩ (fun j x h => by simp at h) dL_cut_15
set_option maxHeartbeats 4000000 in
set_option maxRecDepth 100000 in
theorem e3_L_cut (l : Launch) (hl : l.stackTraces = false) (B : Nat × (Nat → Nat)) (μ : MP) (ν : NC) (a : AS) (Ad : Nat → Nat → Nat) (w : Nat) (r0 : MP × Int32) (h : f_X8_cut w μ ν  = some (3, r0)) (h0 : 0 < ν.2 0) (h9 : 0 < ν.2 90 ∧ ν.1 90 0 = 1) : ∀ D E sz, vx_Met l yL_cut gwL_cut ({ frames := 7, cells := 1, slots := 6, locals := 121 } : Room) (cPh D E sz B (zS μ ν a Ad) [.ref (Ad 0 0), .ref (Ad 90 0)]) (cQ D E sz (zS μ ν a Ad) [] (pI (fun r u => r = 1 ∧ u = (zS μ ν a Ad, [])))) (fun _ _ _ => False) (1) (6) (Aof (zS μ ν a Ad) [] sz) := by
  intro D E sz
  refine g_ofH (cc := cL_cut) (maxL := 3) (ret := some .int) (hh := [(0, 8, 11, 13)]) (own := "TradeLineLaw") (by decide) rfl rfl (Nat.le_of_ble_eq_true rfl) ?_
  intro p e s m args below meth c C hr hT hz hEv hN
  refine g_lv (lv' := [(0, .ref (Ad 0 0)), (1, .ref (Ad 90 0))]) [0, 1] rfl ?_
  refine g_aload_n C dL_cut_0 rfl 1 rfl ?_
  refine g_iconst (v := 0) C dL_cut_1 (by decide) ?_
  refine g_aload_n C dL_cut_2 rfl 0 rfl ?_
  refine g_hc (n := 3) (index := 0) C hEv ⟨rfl, rfl⟩ hN [] _ rfl rfl (fun sz => x_X8_cut l hl B μ ν a Ad w  2 r0 h D E sz) rfl gw_475 gw_1 gw_472 gw_473 gw_474 ⟨by decide +kernel, by decide +kernel, by decide +kernel⟩ ⟨rfl, rfl⟩ ⟨Nat.le_of_ble_eq_true rfl, Nat.le_of_ble_eq_true rfl⟩ (rcvT ⟨h0, fun e => absurd e (by decide)⟩ rfl rfl rfl) (Nat.le_of_ble_eq_true rfl) dL_cut_3 ⟨by decide, by decide⟩ [] ⟨0, 8, 11, 13⟩ [] hT (fun z hz => absurd hz (by simp)) (by decide) (by decide) gw_263 (by decide) rfl (fun q9 => ?_)
  refine g_astore_n (lv' := [(2, .ref q9), (0, .ref (Ad 0 0)), (1, .ref (Ad 90 0))]) C dL_cut_11 rfl (by decide) rfl ?_
  refine g_iconst (v := 1) C dL_cut_12 (by decide) ?_
  refine g_vx ?_
  exact g_iret C hr rfl hz ⟨rfl, rfl, fun _ => rfl, fun _ => rfl⟩ ⟨rfl, rfl⟩ (fun j x h => by simp at h) dL_cut_13
set_option maxHeartbeats 4000000 in
set_option maxRecDepth 100000 in
theorem r_L_come (l : Launch) (B : Nat × (Nat → Nat)) (μ : MP) (ν : NC) (a : AS) (Ad : Nat → Nat → Nat) (w : Nat) (x1 : Int32) (x2 : Int32) (r0 : (MP × NC) × Int32) (h : f_X8_come w μ ν x1 x2 = some (0, r0)) (h0 : 0 < ν.2 0) (h9 : 0 < ν.2 90 ∧ ν.1 90 0 = 1) : ∀ D E sz, vx_Met l yL_come gwL_come ({ frames := 13, cells := kc r0.1.2 - kc ν, slots := ks r0.1.2 - ks ν, locals := 374 } : Room) (cPh D E sz B (zS μ ν a Ad) [.ref (Ad 0 0), .int x1, .int x2, .ref (Ad 90 0)]) (cQ D E sz (zS μ ν a Ad) [] (pI (fun r u => r = 0 ∧ ∃ A1, u = (zS (up3 r0.1.1.1 90 0 0 r0.2, r0.1.1.2) r0.1.2 a A1, []) ∧ kp ν Ad A1))) (fun _ _ _ => False) (kc r0.1.2 - kc ν) (ks r0.1.2 - ks ν) (Aof (zS μ ν a Ad) [] sz) := by
  intro D E sz
  refine g_ofH (cc := cL_come) (maxL := 5) (ret := some .int) (hh := [(0, 10, 13, 23), (0, 10, 17, 25)]) (own := "TradeLineLaw") (by decide) rfl rfl (Nat.le_of_ble_eq_true rfl) ?_
  intro p e s m args below meth c C hr hT hz hEv hN
  refine g_vx ?_
  refine g_lv (lv' := [(0, .ref (Ad 0 0)), (1, .int x1), (2, .int x2), (3, .ref (Ad 90 0))]) [0, 1, 2, 3] rfl ?_
  refine g_aload_n C dL_come_0 rfl 3 rfl ?_
  refine g_iconst (v := 0) C dL_come_1 (by decide) ?_
  refine g_aload_n C dL_come_2 rfl 0 rfl ?_
  refine g_iload_n C dL_come_3 rfl 1 rfl ?_
  refine g_iload_n C dL_come_4 rfl 2 rfl ?_
  refine g_cVie (n := 2) (exc := []) (exr := []) C hEv ⟨rfl, rfl⟩ [_, _] _ rfl rfl [] [] rfl rfl rfl rfl (fun _ h => absurd h (by simp)) (fun _ h => absurd h (by simp)) (fun _ h => absurd h (by simp)) (fun sz => c_X8_come l B μ ν a Ad w x1 x2 r0 h D E sz) rfl gw_504 gw_1 gw_501 gw_502 gw_503 ⟨by decide +kernel, by decide +kernel, by decide +kernel⟩ ⟨rfl, rfl⟩ ⟨Nat.le_of_ble_eq_true rfl, Nat.le_of_ble_eq_true rfl⟩ (rcvT ⟨h0, fun e => absurd e (by decide)⟩ rfl rfl rfl) (Nat.le_of_ble_eq_true rfl) dL_come_5 ⟨by show 0 + (kc r0.1.2 - kc ν) ≤ kc r0.1.2 - kc ν; omega, by show 0 + (ks r0.1.2 - ks ν) ≤ ks r0.1.2 - ks ν; omega⟩ (fun r u hp hx => ?_)
  obtain ⟨er, A1, rfl, hkp⟩ := hp
  rw [er]
  try dsimp only [List.append_nil]
  have hm := m_X8_come h
  have h9 : 0 < r0.1.2.2 90 ∧ r0.1.2.1 90 0 = 1 ∧ A1 90 0 = Ad 90 0 := ⟨by rw [(hm.2.2.2 90 (by decide) (by decide)).1]; exact h9.1, by rw [(hm.2.2.2 90 (by decide) (by decide)).2]; exact h9.2, hkp.1 90 0 rfl h9.1⟩
  refine g_widen (k := kc r0.1.2 - kc ν) (n := ks r0.1.2 - ks ν) (by omega) (by omega) ?_
  refine g_i2l C dL_come_8 rfl ?_
  refine g_last C h9.2.2 ⟨h9.1, h9.2.1⟩ dL_come_9 ?_
  refine g_goto (tgt := 21) C dL_come_10 (by decide) ?_
  refine g_iconst (v := 0) C dL_come_21 (by decide) ?_
  exact g_iret C hr rfl hz ⟨(hm.2.2.2 30 (by decide) (by decide)).1, (hm.2.2.2 31 (by decide) (by decide)).1, hkp.2.1, hkp.2.2⟩ ⟨rfl, A1, rfl, hkp⟩ (fun j x h => by simp at h) dL_come_22
set_option maxHeartbeats 4000000 in
set_option maxRecDepth 100000 in
theorem e1_L_come (l : Launch) (hl : l.stackTraces = false) (B : Nat × (Nat → Nat)) (μ : MP) (ν : NC) (a : AS) (Ad : Nat → Nat → Nat) (w : Nat) (x1 : Int32) (x2 : Int32) (r0 : (MP × NC) × Int32) (h : f_X8_come w μ ν x1 x2 = some (1, r0)) (h0 : 0 < ν.2 0) (h9 : 0 < ν.2 90 ∧ ν.1 90 0 = 1) : ∀ D E sz, vx_Met l yL_come gwL_come ({ frames := 13, cells := 1, slots := 6, locals := 374 } : Room) (cPh D E sz B (zS μ ν a Ad) [.ref (Ad 0 0), .int x1, .int x2, .ref (Ad 90 0)]) (cQ D E sz (zS μ ν a Ad) [] (pI (fun r u => r = 1 ∧ u = (zS μ ν a Ad, [])))) (fun _ _ _ => False) (1) (6) (Aof (zS μ ν a Ad) [] sz) := by
  intro D E sz
  refine g_ofH (cc := cL_come) (maxL := 5) (ret := some .int) (hh := [(0, 10, 13, 23), (0, 10, 17, 25)]) (own := "TradeLineLaw") (by decide) rfl rfl (Nat.le_of_ble_eq_true rfl) ?_
  intro p e s m args below meth c C hr hT hz hEv hN
  refine g_lv (lv' := [(0, .ref (Ad 0 0)), (1, .int x1), (2, .int x2), (3, .ref (Ad 90 0))]) [0, 1, 2, 3] rfl ?_
  refine g_aload_n C dL_come_0 rfl 3 rfl ?_
  refine g_iconst (v := 0) C dL_come_1 (by decide) ?_
  refine g_aload_n C dL_come_2 rfl 0 rfl ?_
  refine g_iload_n C dL_come_3 rfl 1 rfl ?_
  refine g_iload_n C dL_come_4 rfl 2 rfl ?_
  refine g_hc (n := 1) (index := 2) C hEv ⟨rfl, rfl⟩ hN [_, _] _ rfl rfl (fun sz => x_X8_come l hl B μ ν a Ad w x1 x2 0 r0 h D E sz) rfl gw_504 gw_1 gw_501 gw_502 gw_503 ⟨by decide +kernel, by decide +kernel, by decide +kernel⟩ ⟨rfl, rfl⟩ ⟨Nat.le_of_ble_eq_true rfl, Nat.le_of_ble_eq_true rfl⟩ (rcvT ⟨h0, fun e => absurd e (by decide)⟩ rfl rfl rfl) (Nat.le_of_ble_eq_true rfl) dL_come_5 ⟨by decide, by decide⟩ [] ⟨0, 10, 13, 23⟩ [⟨0, 10, 17, 25⟩] hT (fun z hz => absurd hz (by simp)) (by decide) (by decide) gw_499 (by decide) rfl (fun q9 => ?_)
  refine g_astore (lv' := [(4, .ref q9), (0, .ref (Ad 0 0)), (1, .int x1), (2, .int x2), (3, .ref (Ad 90 0))]) C dL_come_13 (by decide) rfl ?_
  refine g_iconst (v := 1) C dL_come_15 (by decide) ?_
  refine g_vx ?_
  exact g_iret C hr rfl hz ⟨rfl, rfl, fun _ => rfl, fun _ => rfl⟩ ⟨rfl, rfl⟩ (fun j x h => by simp at h) dL_come_16
set_option maxHeartbeats 4000000 in
set_option maxRecDepth 100000 in
theorem e2_L_come (l : Launch) (hl : l.stackTraces = false) (B : Nat × (Nat → Nat)) (μ : MP) (ν : NC) (a : AS) (Ad : Nat → Nat → Nat) (w : Nat) (x1 : Int32) (x2 : Int32) (r0 : (MP × NC) × Int32) (h : f_X8_come w μ ν x1 x2 = some (2, r0)) (h0 : 0 < ν.2 0) (h9 : 0 < ν.2 90 ∧ ν.1 90 0 = 1) : ∀ D E sz, vx_Met l yL_come gwL_come ({ frames := 13, cells := 1, slots := 6, locals := 374 } : Room) (cPh D E sz B (zS μ ν a Ad) [.ref (Ad 0 0), .int x1, .int x2, .ref (Ad 90 0)]) (cQ D E sz (zS μ ν a Ad) [] (pI (fun r u => r = 2 ∧ u = (zS μ ν a Ad, [])))) (fun _ _ _ => False) (1) (6) (Aof (zS μ ν a Ad) [] sz) := by
  intro D E sz
  refine g_ofH (cc := cL_come) (maxL := 5) (ret := some .int) (hh := [(0, 10, 13, 23), (0, 10, 17, 25)]) (own := "TradeLineLaw") (by decide) rfl rfl (Nat.le_of_ble_eq_true rfl) ?_
  intro p e s m args below meth c C hr hT hz hEv hN
  refine g_lv (lv' := [(0, .ref (Ad 0 0)), (1, .int x1), (2, .int x2), (3, .ref (Ad 90 0))]) [0, 1, 2, 3] rfl ?_
  refine g_aload_n C dL_come_0 rfl 3 rfl ?_
  refine g_iconst (v := 0) C dL_come_1 (by decide) ?_
  refine g_aload_n C dL_come_2 rfl 0 rfl ?_
  refine g_iload_n C dL_come_3 rfl 1 rfl ?_
  refine g_iload_n C dL_come_4 rfl 2 rfl ?_
  refine g_hc (n := 2) (index := 2) C hEv ⟨rfl, rfl⟩ hN [_, _] _ rfl rfl (fun sz => x_X8_come l hl B μ ν a Ad w x1 x2 1 r0 h D E sz) rfl gw_504 gw_1 gw_501 gw_502 gw_503 ⟨by decide +kernel, by decide +kernel, by decide +kernel⟩ ⟨rfl, rfl⟩ ⟨Nat.le_of_ble_eq_true rfl, Nat.le_of_ble_eq_true rfl⟩ (rcvT ⟨h0, fun e => absurd e (by decide)⟩ rfl rfl rfl) (Nat.le_of_ble_eq_true rfl) dL_come_5 ⟨by decide, by decide⟩ [⟨0, 10, 13, 23⟩] ⟨0, 10, 17, 25⟩ [] hT (fun z hz => by obtain rfl := List.mem_singleton.mp hz; exact ⟨by decide, exN 1, gw_499, by simp [eN]⟩) (by decide) (by decide) gw_500 (by decide) rfl (fun q9 => ?_)
  refine g_astore (lv' := [(4, .ref q9), (0, .ref (Ad 0 0)), (1, .int x1), (2, .int x2), (3, .ref (Ad 90 0))]) C dL_come_17 (by decide) rfl ?_
  refine g_iconst (v := 2) C dL_come_19 (by decide) ?_
  refine g_vx ?_
  exact g_iret C hr rfl hz ⟨rfl, rfl, fun _ => rfl, fun _ => rfl⟩ ⟨rfl, rfl⟩ (fun j x h => by simp at h) dL_come_20
set_option maxHeartbeats 4000000 in
set_option maxRecDepth 100000 in
theorem r_L_garble (l : Launch) (B : Nat × (Nat → Nat)) (μ : MP) (ν : NC) (a : AS) (Ad : Nat → Nat → Nat) (w : Nat) (x1 : Int32) (x2 : Int32) (r0 : MP × Int32) (h : f_X8_garble w μ ν x1 x2 = some (0, r0)) (h0 : 0 < ν.2 0) (h9 : 0 < ν.2 90 ∧ ν.1 90 0 = 1) : ∀ D E sz, vx_Met l yL_garble gwL_garble ({ frames := 3, cells := 0, slots := 0, locals := 66 } : Room) (cPh D E sz B (zS μ ν a Ad) [.ref (Ad 0 0), .int x1, .int x2, .ref (Ad 90 0)]) (cQ D E sz (zS μ ν a Ad) [] (pI (fun r u => r = 0 ∧ u = (zS (up3 r0.1.1 90 0 0 r0.2, r0.1.2) ν a Ad, [])))) (fun _ _ _ => False) (0) (0) (Aof (zS μ ν a Ad) [] sz) := by
  intro D E sz
  refine g_ofH (cc := cL_garble) (maxL := 5) (ret := some .int) (hh := [(0, 10, 13, 23)]) (own := "TradeLineLaw") (by decide) rfl rfl (Nat.le_of_ble_eq_true rfl) ?_
  intro p e s m args below meth c C hr hT hz hEv hN
  refine g_vx ?_
  refine g_lv (lv' := [(0, .ref (Ad 0 0)), (1, .int x1), (2, .int x2), (3, .ref (Ad 90 0))]) [0, 1, 2, 3] rfl ?_
  refine g_aload_n C dL_garble_0 rfl 3 rfl ?_
  refine g_iconst (v := 0) C dL_garble_1 (by decide) ?_
  refine g_aload_n C dL_garble_2 rfl 0 rfl ?_
  refine g_iload_n C dL_garble_3 rfl 1 rfl ?_
  refine g_iload_n C dL_garble_4 rfl 2 rfl ?_
  refine g_cVi (n := 2) (exc := []) (exr := []) C [_, _] _ rfl rfl [] [] rfl rfl rfl rfl (fun _ h => absurd h (by simp)) (fun _ h => absurd h (by simp)) (fun _ h => absurd h (by simp)) (fun sz => c_X8_garble l μ ν a Ad w x1 x2 r0 h D E sz) rfl gw_1006 gw_1 gw_1003 gw_1004 gw_1005 ⟨by decide +kernel, by decide +kernel, by decide +kernel⟩ ⟨rfl, rfl⟩ ⟨Nat.le_of_ble_eq_true rfl, Nat.le_of_ble_eq_true rfl⟩ (rcvT ⟨h0, fun e => absurd e (by decide)⟩ rfl rfl rfl) (Nat.le_of_ble_eq_true rfl) dL_garble_5 ⟨by show 0 + (0) ≤ 0; omega, by show 0 + (0) ≤ 0; omega⟩ (fun r u hp hx => ?_)
  obtain ⟨er, rfl⟩ := hp
  rw [er]
  try dsimp only [List.append_nil]
  refine g_widen (k := 0) (n := 0) (by omega) (by omega) ?_
  refine g_i2l C dL_garble_8 rfl ?_
  refine g_last C rfl h9 dL_garble_9 ?_
  refine g_goto (tgt := 17) C dL_garble_10 (by decide) ?_
  refine g_iconst (v := 0) C dL_garble_17 (by decide) ?_
  exact g_iret C hr rfl hz ⟨rfl, rfl, fun _ => rfl, fun _ => rfl⟩ ⟨rfl, rfl⟩ (fun j x h => by simp at h) dL_garble_18
set_option maxHeartbeats 4000000 in
set_option maxRecDepth 100000 in
theorem e1_L_garble (l : Launch) (hl : l.stackTraces = false) (B : Nat × (Nat → Nat)) (μ : MP) (ν : NC) (a : AS) (Ad : Nat → Nat → Nat) (w : Nat) (x1 : Int32) (x2 : Int32) (r0 : MP × Int32) (h : f_X8_garble w μ ν x1 x2 = some (1, r0)) (h0 : 0 < ν.2 0) (h9 : 0 < ν.2 90 ∧ ν.1 90 0 = 1) : ∀ D E sz, vx_Met l yL_garble gwL_garble ({ frames := 8, cells := 1, slots := 6, locals := 143 } : Room) (cPh D E sz B (zS μ ν a Ad) [.ref (Ad 0 0), .int x1, .int x2, .ref (Ad 90 0)]) (cQ D E sz (zS μ ν a Ad) [] (pI (fun r u => r = 1 ∧ u = (zS μ ν a Ad, [])))) (fun _ _ _ => False) (1) (6) (Aof (zS μ ν a Ad) [] sz) := by
  intro D E sz
  refine g_ofH (cc := cL_garble) (maxL := 5) (ret := some .int) (hh := [(0, 10, 13, 23)]) (own := "TradeLineLaw") (by decide) rfl rfl (Nat.le_of_ble_eq_true rfl) ?_
  intro p e s m args below meth c C hr hT hz hEv hN
  refine g_lv (lv' := [(0, .ref (Ad 0 0)), (1, .int x1), (2, .int x2), (3, .ref (Ad 90 0))]) [0, 1, 2, 3] rfl ?_
  refine g_aload_n C dL_garble_0 rfl 3 rfl ?_
  refine g_iconst (v := 0) C dL_garble_1 (by decide) ?_
  refine g_aload_n C dL_garble_2 rfl 0 rfl ?_
  refine g_iload_n C dL_garble_3 rfl 1 rfl ?_
  refine g_iload_n C dL_garble_4 rfl 2 rfl ?_
  refine g_hc (n := 1) (index := 2) C hEv ⟨rfl, rfl⟩ hN [_, _] _ rfl rfl (fun sz => x_X8_garble l hl B μ ν a Ad w x1 x2 0 r0 h D E sz) rfl gw_1006 gw_1 gw_1003 gw_1004 gw_1005 ⟨by decide +kernel, by decide +kernel, by decide +kernel⟩ ⟨rfl, rfl⟩ ⟨Nat.le_of_ble_eq_true rfl, Nat.le_of_ble_eq_true rfl⟩ (rcvT ⟨h0, fun e => absurd e (by decide)⟩ rfl rfl rfl) (Nat.le_of_ble_eq_true rfl) dL_garble_5 ⟨by decide, by decide⟩ [] ⟨0, 10, 13, 23⟩ [] hT (fun z hz => absurd hz (by simp)) (by decide) (by decide) gw_499 (by decide) rfl (fun q9 => ?_)
  refine g_astore (lv' := [(4, .ref q9), (0, .ref (Ad 0 0)), (1, .int x1), (2, .int x2), (3, .ref (Ad 90 0))]) C dL_garble_13 (by decide) rfl ?_
  refine g_iconst (v := 1) C dL_garble_15 (by decide) ?_
  refine g_vx ?_
  exact g_iret C hr rfl hz ⟨rfl, rfl, fun _ => rfl, fun _ => rfl⟩ ⟨rfl, rfl⟩ (fun j x h => by simp at h) dL_garble_16
set_option maxHeartbeats 4000000 in
set_option maxRecDepth 100000 in
theorem r_L_pass (l : Launch) (B : Nat × (Nat → Nat)) (μ : MP) (ν : NC) (a : AS) (Ad : Nat → Nat → Nat) (w : Nat) (x1 : Int32) (r0 : (MP × NC) × Int32) (h : f_X8_pass w μ ν x1 = some (0, r0)) (h0 : 0 < ν.2 0) (h9 : 0 < ν.2 90 ∧ ν.1 90 0 = 1) : ∀ D E sz, vx_Met l yL_pass gwL_pass ({ frames := 10, cells := kc r0.1.2 - kc ν, slots := ks r0.1.2 - ks ν, locals := 292 } : Room) (cPh D E sz B (zS μ ν a Ad) [.ref (Ad 0 0), .int x1, .ref (Ad 90 0)]) (cQ D E sz (zS μ ν a Ad) [] (pI (fun r u => r = 0 ∧ ∃ A1, u = (zS (up3 r0.1.1.1 90 0 0 r0.2, r0.1.1.2) r0.1.2 a A1, []) ∧ kp ν Ad A1))) (fun _ _ _ => False) (kc r0.1.2 - kc ν) (ks r0.1.2 - ks ν) (Aof (zS μ ν a Ad) [] sz) := by
  intro D E sz
  refine g_ofH (cc := cL_pass) (maxL := 4) (ret := some .int) (hh := [(0, 9, 12, 25)]) (own := "TradeLineLaw") (by decide) rfl rfl (Nat.le_of_ble_eq_true rfl) ?_
  intro p e s m args below meth c C hr hT hz hEv hN
  refine g_vx ?_
  refine g_lv (lv' := [(0, .ref (Ad 0 0)), (1, .int x1), (2, .ref (Ad 90 0))]) [0, 1, 2] rfl ?_
  refine g_aload_n C dL_pass_0 rfl 2 rfl ?_
  refine g_iconst (v := 0) C dL_pass_1 (by decide) ?_
  refine g_aload_n C dL_pass_2 rfl 0 rfl ?_
  refine g_iload_n C dL_pass_3 rfl 1 rfl ?_
  refine g_cVie (n := 1) (exc := []) (exr := []) C hEv ⟨rfl, rfl⟩ [_] _ rfl rfl [] [] rfl rfl rfl rfl (fun _ h => absurd h (by simp)) (fun _ h => absurd h (by simp)) (fun _ h => absurd h (by simp)) (fun sz => c_X8_pass l B μ ν a Ad w x1 r0 h D E sz) rfl gw_1018 gw_1 gw_1015 gw_1016 gw_1017 ⟨by decide +kernel, by decide +kernel, by decide +kernel⟩ ⟨rfl, rfl⟩ ⟨Nat.le_of_ble_eq_true rfl, Nat.le_of_ble_eq_true rfl⟩ (rcvT ⟨h0, fun e => absurd e (by decide)⟩ rfl rfl rfl) (Nat.le_of_ble_eq_true rfl) dL_pass_4 ⟨by show 0 + (kc r0.1.2 - kc ν) ≤ kc r0.1.2 - kc ν; omega, by show 0 + (ks r0.1.2 - ks ν) ≤ ks r0.1.2 - ks ν; omega⟩ (fun r u hp hx => ?_)
  obtain ⟨er, A1, rfl, hkp⟩ := hp
  rw [er]
  try dsimp only [List.append_nil]
  have hm := m_X8_pass h
  have h9 : 0 < r0.1.2.2 90 ∧ r0.1.2.1 90 0 = 1 ∧ A1 90 0 = Ad 90 0 := ⟨by rw [(hm.2.2.2 90 (by decide) (by decide)).1]; exact h9.1, by rw [(hm.2.2.2 90 (by decide) (by decide)).2]; exact h9.2, hkp.1 90 0 rfl h9.1⟩
  refine g_widen (k := kc r0.1.2 - kc ν) (n := ks r0.1.2 - ks ν) (by omega) (by omega) ?_
  refine g_i2l C dL_pass_7 rfl ?_
  refine g_last C h9.2.2 ⟨h9.1, h9.2.1⟩ dL_pass_8 ?_
  refine g_goto (tgt := 15) C dL_pass_9 (by decide) ?_
  refine g_iconst (v := 0) C dL_pass_15 (by decide) ?_
  exact g_iret C hr rfl hz ⟨(hm.2.2.2 30 (by decide) (by decide)).1, (hm.2.2.2 31 (by decide) (by decide)).1, hkp.2.1, hkp.2.2⟩ ⟨rfl, A1, rfl, hkp⟩ (fun j x h => by simp at h) dL_pass_16
set_option maxHeartbeats 4000000 in
set_option maxRecDepth 100000 in
theorem e2_L_pass (l : Launch) (hl : l.stackTraces = false) (B : Nat × (Nat → Nat)) (μ : MP) (ν : NC) (a : AS) (Ad : Nat → Nat → Nat) (w : Nat) (x1 : Int32) (r0 : (MP × NC) × Int32) (h : f_X8_pass w μ ν x1 = some (2, r0)) (h0 : 0 < ν.2 0) (h9 : 0 < ν.2 90 ∧ ν.1 90 0 = 1) : ∀ D E sz, vx_Met l yL_pass gwL_pass ({ frames := 10, cells := 1, slots := 6, locals := 292 } : Room) (cPh D E sz B (zS μ ν a Ad) [.ref (Ad 0 0), .int x1, .ref (Ad 90 0)]) (cQ D E sz (zS μ ν a Ad) [] (pI (fun r u => r = 1 ∧ u = (zS μ ν a Ad, [])))) (fun _ _ _ => False) (1) (6) (Aof (zS μ ν a Ad) [] sz) := by
  intro D E sz
  refine g_ofH (cc := cL_pass) (maxL := 4) (ret := some .int) (hh := [(0, 9, 12, 25)]) (own := "TradeLineLaw") (by decide) rfl rfl (Nat.le_of_ble_eq_true rfl) ?_
  intro p e s m args below meth c C hr hT hz hEv hN
  refine g_lv (lv' := [(0, .ref (Ad 0 0)), (1, .int x1), (2, .ref (Ad 90 0))]) [0, 1, 2] rfl ?_
  refine g_aload_n C dL_pass_0 rfl 2 rfl ?_
  refine g_iconst (v := 0) C dL_pass_1 (by decide) ?_
  refine g_aload_n C dL_pass_2 rfl 0 rfl ?_
  refine g_iload_n C dL_pass_3 rfl 1 rfl ?_
  refine g_hc (n := 2) (index := 1) C hEv ⟨rfl, rfl⟩ hN [_] _ rfl rfl (fun sz => x_X8_pass l hl B μ ν a Ad w x1 1 r0 h D E sz) rfl gw_1018 gw_1 gw_1015 gw_1016 gw_1017 ⟨by decide +kernel, by decide +kernel, by decide +kernel⟩ ⟨rfl, rfl⟩ ⟨Nat.le_of_ble_eq_true rfl, Nat.le_of_ble_eq_true rfl⟩ (rcvT ⟨h0, fun e => absurd e (by decide)⟩ rfl rfl rfl) (Nat.le_of_ble_eq_true rfl) dL_pass_4 ⟨by decide, by decide⟩ [] ⟨0, 9, 12, 25⟩ [] hT (fun z hz => absurd hz (by simp)) (by decide) (by decide) gw_500 (by decide) rfl (fun q9 => ?_)
  refine g_astore_n (lv' := [(3, .ref q9), (0, .ref (Ad 0 0)), (1, .int x1), (2, .ref (Ad 90 0))]) C dL_pass_12 rfl (by decide) rfl ?_
  refine g_iconst (v := 1) C dL_pass_13 (by decide) ?_
  refine g_vx ?_
  exact g_iret C hr rfl hz ⟨rfl, rfl, fun _ => rfl, fun _ => rfl⟩ ⟨rfl, rfl⟩ (fun j x h => by simp at h) dL_pass_14
set_option maxHeartbeats 4000000 in
set_option maxRecDepth 100000 in
theorem r_L_isOn (l : Launch) (B : Nat × (Nat → Nat)) (μ : MP) (ν : NC) (a : AS) (Ad : Nat → Nat → Nat) (w : Nat) (x1 : Int32) (r0 : Int32) (h : f_X8_isOn w μ ν x1 = some (0, r0)) (h0 : 0 < ν.2 0) (h9 : 0 < ν.2 90 ∧ ν.1 90 0 = 1) : ∀ D E sz, vx_Met l yL_isOn gwL_isOn ({ frames := 2, cells := 0, slots := 0, locals := 42 } : Room) (cPh D E sz B (zS μ ν a Ad) [.ref (Ad 0 0), .int x1, .ref (Ad 90 0)]) (cQ D E sz (zS μ ν a Ad) [] (pI (fun r u => r = 0 ∧ u = (zS (up3 μ.1 90 0 0 (if r0 = 0 then 0 else 1 : Int32), μ.2) ν a Ad, [])))) (fun _ _ _ => False) (0) (0) (Aof (zS μ ν a Ad) [] sz) := by
  intro D E sz
  refine g_ofH (cc := cL_isOn) (maxL := 4) (ret := some .int) (hh := [(0, 16, 19, 23)]) (own := "TradeLineLaw") (by decide) rfl rfl (Nat.le_of_ble_eq_true rfl) ?_
  intro p e s m args below meth c C hr hT hz hEv hN
  refine g_vx ?_
  refine g_lv (lv' := [(0, .ref (Ad 0 0)), (1, .int x1), (2, .ref (Ad 90 0))]) [0, 1, 2] rfl ?_
  refine g_aload_n C dL_isOn_0 rfl 2 rfl ?_
  refine g_iconst (v := 0) C dL_isOn_1 (by decide) ?_
  refine g_aload_n C dL_isOn_2 rfl 0 rfl ?_
  refine g_iload_n C dL_isOn_3 rfl 1 rfl ?_
  refine g_cVi (n := 1) (exc := []) (exr := []) C [_] _ rfl rfl [] [] rfl rfl rfl rfl (fun _ h => absurd h (by simp)) (fun _ h => absurd h (by simp)) (fun _ h => absurd h (by simp)) (fun sz => c_X8_isOn l μ ν a Ad w x1 r0 h D E sz) rfl gw_1030 gw_1 gw_1027 gw_1028 gw_1029 ⟨by decide +kernel, by decide +kernel, by decide +kernel⟩ ⟨rfl, rfl⟩ ⟨Nat.le_of_ble_eq_true rfl, Nat.le_of_ble_eq_true rfl⟩ (rcvT ⟨h0, fun e => absurd e (by decide)⟩ rfl rfl rfl) (Nat.le_of_ble_eq_true rfl) dL_isOn_4 ⟨by show 0 + (0) ≤ 0; omega, by show 0 + (0) ≤ 0; omega⟩ (fun r u hp hx => ?_)
  obtain ⟨er, rfl⟩ := hp
  rw [er]
  try dsimp only [List.append_nil]
  refine g_widen (k := 0) (n := 0) (by omega) (by omega) ?_
  refine g_if_eq (tgt := 14) C dL_isOn_7 (by decide) (fun c1 => ?_) (fun c1 => ?_)
  · rw [if_pos c1]
    refine g_lconst (v := (Int32.toInt64 0)) C dL_isOn_14 (by decide) ?_
    refine g_last C rfl h9 dL_isOn_15 ?_
    refine g_goto (tgt := 22) C dL_isOn_16 (by decide) ?_
    refine g_iconst (v := 0) C dL_isOn_22 (by decide) ?_
    exact g_iret C hr rfl hz ⟨rfl, rfl, fun _ => rfl, fun _ => rfl⟩ ⟨rfl, rfl⟩ (fun j x h => by simp at h) dL_isOn_23
  · rw [if_neg c1]
    refine g_lconst (v := (Int32.toInt64 1)) C dL_isOn_10 (by decide) ?_
    refine g_goto (tgt := 15) C dL_isOn_11 (by decide) ?_
    refine g_last C rfl h9 dL_isOn_15 ?_
    refine g_goto (tgt := 22) C dL_isOn_16 (by decide) ?_
    refine g_iconst (v := 0) C dL_isOn_22 (by decide) ?_
    exact g_iret C hr rfl hz ⟨rfl, rfl, fun _ => rfl, fun _ => rfl⟩ ⟨rfl, rfl⟩ (fun j x h => by simp at h) dL_isOn_23
set_option maxHeartbeats 4000000 in
set_option maxRecDepth 100000 in
theorem e1_L_isOn (l : Launch) (hl : l.stackTraces = false) (B : Nat × (Nat → Nat)) (μ : MP) (ν : NC) (a : AS) (Ad : Nat → Nat → Nat) (w : Nat) (x1 : Int32) (r0 : Int32) (h : f_X8_isOn w μ ν x1 = some (1, r0)) (h0 : 0 < ν.2 0) (h9 : 0 < ν.2 90 ∧ ν.1 90 0 = 1) : ∀ D E sz, vx_Met l yL_isOn gwL_isOn ({ frames := 8, cells := 1, slots := 6, locals := 141 } : Room) (cPh D E sz B (zS μ ν a Ad) [.ref (Ad 0 0), .int x1, .ref (Ad 90 0)]) (cQ D E sz (zS μ ν a Ad) [] (pI (fun r u => r = 1 ∧ u = (zS μ ν a Ad, [])))) (fun _ _ _ => False) (1) (6) (Aof (zS μ ν a Ad) [] sz) := by
  intro D E sz
  refine g_ofH (cc := cL_isOn) (maxL := 4) (ret := some .int) (hh := [(0, 16, 19, 23)]) (own := "TradeLineLaw") (by decide) rfl rfl (Nat.le_of_ble_eq_true rfl) ?_
  intro p e s m args below meth c C hr hT hz hEv hN
  refine g_lv (lv' := [(0, .ref (Ad 0 0)), (1, .int x1), (2, .ref (Ad 90 0))]) [0, 1, 2] rfl ?_
  refine g_aload_n C dL_isOn_0 rfl 2 rfl ?_
  refine g_iconst (v := 0) C dL_isOn_1 (by decide) ?_
  refine g_aload_n C dL_isOn_2 rfl 0 rfl ?_
  refine g_iload_n C dL_isOn_3 rfl 1 rfl ?_
  refine g_hc (n := 1) (index := 1) C hEv ⟨rfl, rfl⟩ hN [_] _ rfl rfl (fun sz => x_X8_isOn l hl B μ ν a Ad w x1 0 r0 h D E sz) rfl gw_1030 gw_1 gw_1027 gw_1028 gw_1029 ⟨by decide +kernel, by decide +kernel, by decide +kernel⟩ ⟨rfl, rfl⟩ ⟨Nat.le_of_ble_eq_true rfl, Nat.le_of_ble_eq_true rfl⟩ (rcvT ⟨h0, fun e => absurd e (by decide)⟩ rfl rfl rfl) (Nat.le_of_ble_eq_true rfl) dL_isOn_4 ⟨by decide, by decide⟩ [] ⟨0, 16, 19, 23⟩ [] hT (fun z hz => absurd hz (by simp)) (by decide) (by decide) gw_499 (by decide) rfl (fun q9 => ?_)
  refine g_astore_n (lv' := [(3, .ref q9), (0, .ref (Ad 0 0)), (1, .int x1), (2, .ref (Ad 90 0))]) C dL_isOn_19 rfl (by decide) rfl ?_
  refine g_iconst (v := 1) C dL_isOn_20 (by decide) ?_
  refine g_vx ?_
  exact g_iret C hr rfl hz ⟨rfl, rfl, fun _ => rfl, fun _ => rfl⟩ ⟨rfl, rfl⟩ (fun j x h => by simp at h) dL_isOn_21
set_option maxHeartbeats 4000000 in
set_option maxRecDepth 100000 in
theorem r_L_onWay (l : Launch) (B : Nat × (Nat → Nat)) (μ : MP) (ν : NC) (a : AS) (Ad : Nat → Nat → Nat) (w : Nat) (x1 : Int32) (r0 : Int32) (h : f_X8_onWay w μ ν x1 = some (0, r0)) (h0 : 0 < ν.2 0) (h9 : 0 < ν.2 90 ∧ ν.1 90 0 = 1) : ∀ D E sz, vx_Met l yL_onWay gwL_onWay ({ frames := 2, cells := 0, slots := 0, locals := 42 } : Room) (cPh D E sz B (zS μ ν a Ad) [.ref (Ad 0 0), .int x1, .ref (Ad 90 0)]) (cQ D E sz (zS μ ν a Ad) [] (pI (fun r u => r = 0 ∧ u = (zS (up3 μ.1 90 0 0 r0, μ.2) ν a Ad, [])))) (fun _ _ _ => False) (0) (0) (Aof (zS μ ν a Ad) [] sz) := by
  intro D E sz
  refine g_ofH (cc := cL_onWay) (maxL := 4) (ret := some .int) (hh := [(0, 9, 12, 23)]) (own := "TradeLineLaw") (by decide) rfl rfl (Nat.le_of_ble_eq_true rfl) ?_
  intro p e s m args below meth c C hr hT hz hEv hN
  refine g_vx ?_
  refine g_lv (lv' := [(0, .ref (Ad 0 0)), (1, .int x1), (2, .ref (Ad 90 0))]) [0, 1, 2] rfl ?_
  refine g_aload_n C dL_onWay_0 rfl 2 rfl ?_
  refine g_iconst (v := 0) C dL_onWay_1 (by decide) ?_
  refine g_aload_n C dL_onWay_2 rfl 0 rfl ?_
  refine g_iload_n C dL_onWay_3 rfl 1 rfl ?_
  refine g_cVi (n := 1) (exc := []) (exr := []) C [_] _ rfl rfl [] [] rfl rfl rfl rfl (fun _ h => absurd h (by simp)) (fun _ h => absurd h (by simp)) (fun _ h => absurd h (by simp)) (fun sz => c_X8_onWay l μ ν a Ad w x1 r0 h D E sz) rfl gw_1037 gw_1 gw_1034 gw_1035 gw_1036 ⟨by decide +kernel, by decide +kernel, by decide +kernel⟩ ⟨rfl, rfl⟩ ⟨Nat.le_of_ble_eq_true rfl, Nat.le_of_ble_eq_true rfl⟩ (rcvT ⟨h0, fun e => absurd e (by decide)⟩ rfl rfl rfl) (Nat.le_of_ble_eq_true rfl) dL_onWay_4 ⟨by show 0 + (0) ≤ 0; omega, by show 0 + (0) ≤ 0; omega⟩ (fun r u hp hx => ?_)
  obtain ⟨er, rfl⟩ := hp
  rw [er]
  try dsimp only [List.append_nil]
  refine g_widen (k := 0) (n := 0) (by omega) (by omega) ?_
  refine g_i2l C dL_onWay_7 rfl ?_
  refine g_last C rfl h9 dL_onWay_8 ?_
  refine g_goto (tgt := 15) C dL_onWay_9 (by decide) ?_
  refine g_iconst (v := 0) C dL_onWay_15 (by decide) ?_
  exact g_iret C hr rfl hz ⟨rfl, rfl, fun _ => rfl, fun _ => rfl⟩ ⟨rfl, rfl⟩ (fun j x h => by simp at h) dL_onWay_16
set_option maxHeartbeats 4000000 in
set_option maxRecDepth 100000 in
theorem e1_L_onWay (l : Launch) (hl : l.stackTraces = false) (B : Nat × (Nat → Nat)) (μ : MP) (ν : NC) (a : AS) (Ad : Nat → Nat → Nat) (w : Nat) (x1 : Int32) (r0 : Int32) (h : f_X8_onWay w μ ν x1 = some (1, r0)) (h0 : 0 < ν.2 0) (h9 : 0 < ν.2 90 ∧ ν.1 90 0 = 1) : ∀ D E sz, vx_Met l yL_onWay gwL_onWay ({ frames := 8, cells := 1, slots := 6, locals := 141 } : Room) (cPh D E sz B (zS μ ν a Ad) [.ref (Ad 0 0), .int x1, .ref (Ad 90 0)]) (cQ D E sz (zS μ ν a Ad) [] (pI (fun r u => r = 1 ∧ u = (zS μ ν a Ad, [])))) (fun _ _ _ => False) (1) (6) (Aof (zS μ ν a Ad) [] sz) := by
  intro D E sz
  refine g_ofH (cc := cL_onWay) (maxL := 4) (ret := some .int) (hh := [(0, 9, 12, 23)]) (own := "TradeLineLaw") (by decide) rfl rfl (Nat.le_of_ble_eq_true rfl) ?_
  intro p e s m args below meth c C hr hT hz hEv hN
  refine g_lv (lv' := [(0, .ref (Ad 0 0)), (1, .int x1), (2, .ref (Ad 90 0))]) [0, 1, 2] rfl ?_
  refine g_aload_n C dL_onWay_0 rfl 2 rfl ?_
  refine g_iconst (v := 0) C dL_onWay_1 (by decide) ?_
  refine g_aload_n C dL_onWay_2 rfl 0 rfl ?_
  refine g_iload_n C dL_onWay_3 rfl 1 rfl ?_
  refine g_hc (n := 1) (index := 1) C hEv ⟨rfl, rfl⟩ hN [_] _ rfl rfl (fun sz => x_X8_onWay l hl B μ ν a Ad w x1 0 r0 h D E sz) rfl gw_1037 gw_1 gw_1034 gw_1035 gw_1036 ⟨by decide +kernel, by decide +kernel, by decide +kernel⟩ ⟨rfl, rfl⟩ ⟨Nat.le_of_ble_eq_true rfl, Nat.le_of_ble_eq_true rfl⟩ (rcvT ⟨h0, fun e => absurd e (by decide)⟩ rfl rfl rfl) (Nat.le_of_ble_eq_true rfl) dL_onWay_4 ⟨by decide, by decide⟩ [] ⟨0, 9, 12, 23⟩ [] hT (fun z hz => absurd hz (by simp)) (by decide) (by decide) gw_499 (by decide) rfl (fun q9 => ?_)
  refine g_astore_n (lv' := [(3, .ref q9), (0, .ref (Ad 0 0)), (1, .int x1), (2, .ref (Ad 90 0))]) C dL_onWay_12 rfl (by decide) rfl ?_
  refine g_iconst (v := 1) C dL_onWay_13 (by decide) ?_
  refine g_vx ?_
  exact g_iret C hr rfl hz ⟨rfl, rfl, fun _ => rfl, fun _ => rfl⟩ ⟨rfl, rfl⟩ (fun j x h => by simp at h) dL_onWay_14
set_option maxHeartbeats 4000000 in
set_option maxRecDepth 100000 in
theorem r_L_sent (l : Launch) (B : Nat × (Nat → Nat)) (μ : MP) (ν : NC) (a : AS) (Ad : Nat → Nat → Nat) (w : Nat) (x1 : Int32) (r0 : Int32) (h : f_X8_sent w μ ν x1 = some (0, r0)) (h0 : 0 < ν.2 0) (h9 : 0 < ν.2 90 ∧ ν.1 90 0 = 1) : ∀ D E sz, vx_Met l yL_sent gwL_sent ({ frames := 2, cells := 0, slots := 0, locals := 42 } : Room) (cPh D E sz B (zS μ ν a Ad) [.ref (Ad 0 0), .int x1, .ref (Ad 90 0)]) (cQ D E sz (zS μ ν a Ad) [] (pI (fun r u => r = 0 ∧ u = (zS (up3 μ.1 90 0 0 r0, μ.2) ν a Ad, [])))) (fun _ _ _ => False) (0) (0) (Aof (zS μ ν a Ad) [] sz) := by
  intro D E sz
  refine g_ofH (cc := cL_sent) (maxL := 4) (ret := some .int) (hh := [(0, 9, 12, 23)]) (own := "TradeLineLaw") (by decide) rfl rfl (Nat.le_of_ble_eq_true rfl) ?_
  intro p e s m args below meth c C hr hT hz hEv hN
  refine g_vx ?_
  refine g_lv (lv' := [(0, .ref (Ad 0 0)), (1, .int x1), (2, .ref (Ad 90 0))]) [0, 1, 2] rfl ?_
  refine g_aload_n C dL_sent_0 rfl 2 rfl ?_
  refine g_iconst (v := 0) C dL_sent_1 (by decide) ?_
  refine g_aload_n C dL_sent_2 rfl 0 rfl ?_
  refine g_iload_n C dL_sent_3 rfl 1 rfl ?_
  refine g_cVi (n := 1) (exc := []) (exr := []) C [_] _ rfl rfl [] [] rfl rfl rfl rfl (fun _ h => absurd h (by simp)) (fun _ h => absurd h (by simp)) (fun _ h => absurd h (by simp)) (fun sz => c_X8_sent l μ ν a Ad w x1 r0 h D E sz) rfl gw_1044 gw_1 gw_1041 gw_1042 gw_1043 ⟨by decide +kernel, by decide +kernel, by decide +kernel⟩ ⟨rfl, rfl⟩ ⟨Nat.le_of_ble_eq_true rfl, Nat.le_of_ble_eq_true rfl⟩ (rcvT ⟨h0, fun e => absurd e (by decide)⟩ rfl rfl rfl) (Nat.le_of_ble_eq_true rfl) dL_sent_4 ⟨by show 0 + (0) ≤ 0; omega, by show 0 + (0) ≤ 0; omega⟩ (fun r u hp hx => ?_)
  obtain ⟨er, rfl⟩ := hp
  rw [er]
  try dsimp only [List.append_nil]
  refine g_widen (k := 0) (n := 0) (by omega) (by omega) ?_
  refine g_i2l C dL_sent_7 rfl ?_
  refine g_last C rfl h9 dL_sent_8 ?_
  refine g_goto (tgt := 15) C dL_sent_9 (by decide) ?_
  refine g_iconst (v := 0) C dL_sent_15 (by decide) ?_
  exact g_iret C hr rfl hz ⟨rfl, rfl, fun _ => rfl, fun _ => rfl⟩ ⟨rfl, rfl⟩ (fun j x h => by simp at h) dL_sent_16
set_option maxHeartbeats 4000000 in
set_option maxRecDepth 100000 in
theorem e1_L_sent (l : Launch) (hl : l.stackTraces = false) (B : Nat × (Nat → Nat)) (μ : MP) (ν : NC) (a : AS) (Ad : Nat → Nat → Nat) (w : Nat) (x1 : Int32) (r0 : Int32) (h : f_X8_sent w μ ν x1 = some (1, r0)) (h0 : 0 < ν.2 0) (h9 : 0 < ν.2 90 ∧ ν.1 90 0 = 1) : ∀ D E sz, vx_Met l yL_sent gwL_sent ({ frames := 8, cells := 1, slots := 6, locals := 141 } : Room) (cPh D E sz B (zS μ ν a Ad) [.ref (Ad 0 0), .int x1, .ref (Ad 90 0)]) (cQ D E sz (zS μ ν a Ad) [] (pI (fun r u => r = 1 ∧ u = (zS μ ν a Ad, [])))) (fun _ _ _ => False) (1) (6) (Aof (zS μ ν a Ad) [] sz) := by
  intro D E sz
  refine g_ofH (cc := cL_sent) (maxL := 4) (ret := some .int) (hh := [(0, 9, 12, 23)]) (own := "TradeLineLaw") (by decide) rfl rfl (Nat.le_of_ble_eq_true rfl) ?_
  intro p e s m args below meth c C hr hT hz hEv hN
  refine g_lv (lv' := [(0, .ref (Ad 0 0)), (1, .int x1), (2, .ref (Ad 90 0))]) [0, 1, 2] rfl ?_
  refine g_aload_n C dL_sent_0 rfl 2 rfl ?_
  refine g_iconst (v := 0) C dL_sent_1 (by decide) ?_
  refine g_aload_n C dL_sent_2 rfl 0 rfl ?_
  refine g_iload_n C dL_sent_3 rfl 1 rfl ?_
  refine g_hc (n := 1) (index := 1) C hEv ⟨rfl, rfl⟩ hN [_] _ rfl rfl (fun sz => x_X8_sent l hl B μ ν a Ad w x1 0 r0 h D E sz) rfl gw_1044 gw_1 gw_1041 gw_1042 gw_1043 ⟨by decide +kernel, by decide +kernel, by decide +kernel⟩ ⟨rfl, rfl⟩ ⟨Nat.le_of_ble_eq_true rfl, Nat.le_of_ble_eq_true rfl⟩ (rcvT ⟨h0, fun e => absurd e (by decide)⟩ rfl rfl rfl) (Nat.le_of_ble_eq_true rfl) dL_sent_4 ⟨by decide, by decide⟩ [] ⟨0, 9, 12, 23⟩ [] hT (fun z hz => absurd hz (by simp)) (by decide) (by decide) gw_499 (by decide) rfl (fun q9 => ?_)
  refine g_astore_n (lv' := [(3, .ref q9), (0, .ref (Ad 0 0)), (1, .int x1), (2, .ref (Ad 90 0))]) C dL_sent_12 rfl (by decide) rfl ?_
  refine g_iconst (v := 1) C dL_sent_13 (by decide) ?_
  refine g_vx ?_
  exact g_iret C hr rfl hz ⟨rfl, rfl, fun _ => rfl, fun _ => rfl⟩ ⟨rfl, rfl⟩ (fun j x h => by simp at h) dL_sent_14
set_option maxHeartbeats 4000000 in
set_option maxRecDepth 100000 in
theorem r_L_expected (l : Launch) (B : Nat × (Nat → Nat)) (μ : MP) (ν : NC) (a : AS) (Ad : Nat → Nat → Nat) (w : Nat) (x1 : Int32) (r0 : Int32) (h : f_X8_expected w μ ν x1 = some (0, r0)) (h0 : 0 < ν.2 0) (h9 : 0 < ν.2 90 ∧ ν.1 90 0 = 1) : ∀ D E sz, vx_Met l yL_expected gwL_expected ({ frames := 2, cells := 0, slots := 0, locals := 42 } : Room) (cPh D E sz B (zS μ ν a Ad) [.ref (Ad 0 0), .int x1, .ref (Ad 90 0)]) (cQ D E sz (zS μ ν a Ad) [] (pI (fun r u => r = 0 ∧ u = (zS (up3 μ.1 90 0 0 r0, μ.2) ν a Ad, [])))) (fun _ _ _ => False) (0) (0) (Aof (zS μ ν a Ad) [] sz) := by
  intro D E sz
  refine g_ofH (cc := cL_expected) (maxL := 4) (ret := some .int) (hh := [(0, 9, 12, 23)]) (own := "TradeLineLaw") (by decide) rfl rfl (Nat.le_of_ble_eq_true rfl) ?_
  intro p e s m args below meth c C hr hT hz hEv hN
  refine g_vx ?_
  refine g_lv (lv' := [(0, .ref (Ad 0 0)), (1, .int x1), (2, .ref (Ad 90 0))]) [0, 1, 2] rfl ?_
  refine g_aload_n C dL_expected_0 rfl 2 rfl ?_
  refine g_iconst (v := 0) C dL_expected_1 (by decide) ?_
  refine g_aload_n C dL_expected_2 rfl 0 rfl ?_
  refine g_iload_n C dL_expected_3 rfl 1 rfl ?_
  refine g_cVi (n := 1) (exc := []) (exr := []) C [_] _ rfl rfl [] [] rfl rfl rfl rfl (fun _ h => absurd h (by simp)) (fun _ h => absurd h (by simp)) (fun _ h => absurd h (by simp)) (fun sz => c_X8_expected l μ ν a Ad w x1 r0 h D E sz) rfl gw_1051 gw_1 gw_1048 gw_1049 gw_1050 ⟨by decide +kernel, by decide +kernel, by decide +kernel⟩ ⟨rfl, rfl⟩ ⟨Nat.le_of_ble_eq_true rfl, Nat.le_of_ble_eq_true rfl⟩ (rcvT ⟨h0, fun e => absurd e (by decide)⟩ rfl rfl rfl) (Nat.le_of_ble_eq_true rfl) dL_expected_4 ⟨by show 0 + (0) ≤ 0; omega, by show 0 + (0) ≤ 0; omega⟩ (fun r u hp hx => ?_)
  obtain ⟨er, rfl⟩ := hp
  rw [er]
  try dsimp only [List.append_nil]
  refine g_widen (k := 0) (n := 0) (by omega) (by omega) ?_
  refine g_i2l C dL_expected_7 rfl ?_
  refine g_last C rfl h9 dL_expected_8 ?_
  refine g_goto (tgt := 15) C dL_expected_9 (by decide) ?_
  refine g_iconst (v := 0) C dL_expected_15 (by decide) ?_
  exact g_iret C hr rfl hz ⟨rfl, rfl, fun _ => rfl, fun _ => rfl⟩ ⟨rfl, rfl⟩ (fun j x h => by simp at h) dL_expected_16
set_option maxHeartbeats 4000000 in
set_option maxRecDepth 100000 in
theorem e1_L_expected (l : Launch) (hl : l.stackTraces = false) (B : Nat × (Nat → Nat)) (μ : MP) (ν : NC) (a : AS) (Ad : Nat → Nat → Nat) (w : Nat) (x1 : Int32) (r0 : Int32) (h : f_X8_expected w μ ν x1 = some (1, r0)) (h0 : 0 < ν.2 0) (h9 : 0 < ν.2 90 ∧ ν.1 90 0 = 1) : ∀ D E sz, vx_Met l yL_expected gwL_expected ({ frames := 8, cells := 1, slots := 6, locals := 141 } : Room) (cPh D E sz B (zS μ ν a Ad) [.ref (Ad 0 0), .int x1, .ref (Ad 90 0)]) (cQ D E sz (zS μ ν a Ad) [] (pI (fun r u => r = 1 ∧ u = (zS μ ν a Ad, [])))) (fun _ _ _ => False) (1) (6) (Aof (zS μ ν a Ad) [] sz) := by
  intro D E sz
  refine g_ofH (cc := cL_expected) (maxL := 4) (ret := some .int) (hh := [(0, 9, 12, 23)]) (own := "TradeLineLaw") (by decide) rfl rfl (Nat.le_of_ble_eq_true rfl) ?_
  intro p e s m args below meth c C hr hT hz hEv hN
  refine g_lv (lv' := [(0, .ref (Ad 0 0)), (1, .int x1), (2, .ref (Ad 90 0))]) [0, 1, 2] rfl ?_
  refine g_aload_n C dL_expected_0 rfl 2 rfl ?_
  refine g_iconst (v := 0) C dL_expected_1 (by decide) ?_
  refine g_aload_n C dL_expected_2 rfl 0 rfl ?_
  refine g_iload_n C dL_expected_3 rfl 1 rfl ?_
  refine g_hc (n := 1) (index := 1) C hEv ⟨rfl, rfl⟩ hN [_] _ rfl rfl (fun sz => x_X8_expected l hl B μ ν a Ad w x1 0 r0 h D E sz) rfl gw_1051 gw_1 gw_1048 gw_1049 gw_1050 ⟨by decide +kernel, by decide +kernel, by decide +kernel⟩ ⟨rfl, rfl⟩ ⟨Nat.le_of_ble_eq_true rfl, Nat.le_of_ble_eq_true rfl⟩ (rcvT ⟨h0, fun e => absurd e (by decide)⟩ rfl rfl rfl) (Nat.le_of_ble_eq_true rfl) dL_expected_4 ⟨by decide, by decide⟩ [] ⟨0, 9, 12, 23⟩ [] hT (fun z hz => absurd hz (by simp)) (by decide) (by decide) gw_499 (by decide) rfl (fun q9 => ?_)
  refine g_astore_n (lv' := [(3, .ref q9), (0, .ref (Ad 0 0)), (1, .int x1), (2, .ref (Ad 90 0))]) C dL_expected_12 rfl (by decide) rfl ?_
  refine g_iconst (v := 1) C dL_expected_13 (by decide) ?_
  refine g_vx ?_
  exact g_iret C hr rfl hz ⟨rfl, rfl, fun _ => rfl, fun _ => rfl⟩ ⟨rfl, rfl⟩ (fun j x h => by simp at h) dL_expected_14
set_option maxHeartbeats 4000000 in
set_option maxRecDepth 100000 in
theorem r_L_held (l : Launch) (B : Nat × (Nat → Nat)) (μ : MP) (ν : NC) (a : AS) (Ad : Nat → Nat → Nat) (w : Nat) (x1 : Int32) (r0 : Int32) (h : f_X8_held w μ ν x1 = some (0, r0)) (h0 : 0 < ν.2 0) (h9 : 0 < ν.2 90 ∧ ν.1 90 0 = 1) : ∀ D E sz, vx_Met l yL_held gwL_held ({ frames := 2, cells := 0, slots := 0, locals := 42 } : Room) (cPh D E sz B (zS μ ν a Ad) [.ref (Ad 0 0), .int x1, .ref (Ad 90 0)]) (cQ D E sz (zS μ ν a Ad) [] (pI (fun r u => r = 0 ∧ u = (zS (up3 μ.1 90 0 0 r0, μ.2) ν a Ad, [])))) (fun _ _ _ => False) (0) (0) (Aof (zS μ ν a Ad) [] sz) := by
  intro D E sz
  refine g_ofH (cc := cL_held) (maxL := 4) (ret := some .int) (hh := [(0, 9, 12, 23)]) (own := "TradeLineLaw") (by decide) rfl rfl (Nat.le_of_ble_eq_true rfl) ?_
  intro p e s m args below meth c C hr hT hz hEv hN
  refine g_vx ?_
  refine g_lv (lv' := [(0, .ref (Ad 0 0)), (1, .int x1), (2, .ref (Ad 90 0))]) [0, 1, 2] rfl ?_
  refine g_aload_n C dL_held_0 rfl 2 rfl ?_
  refine g_iconst (v := 0) C dL_held_1 (by decide) ?_
  refine g_aload_n C dL_held_2 rfl 0 rfl ?_
  refine g_iload_n C dL_held_3 rfl 1 rfl ?_
  refine g_cVi (n := 1) (exc := []) (exr := []) C [_] _ rfl rfl [] [] rfl rfl rfl rfl (fun _ h => absurd h (by simp)) (fun _ h => absurd h (by simp)) (fun _ h => absurd h (by simp)) (fun sz => c_X8_held l μ ν a Ad w x1 r0 h D E sz) rfl gw_1058 gw_1 gw_1055 gw_1056 gw_1057 ⟨by decide +kernel, by decide +kernel, by decide +kernel⟩ ⟨rfl, rfl⟩ ⟨Nat.le_of_ble_eq_true rfl, Nat.le_of_ble_eq_true rfl⟩ (rcvT ⟨h0, fun e => absurd e (by decide)⟩ rfl rfl rfl) (Nat.le_of_ble_eq_true rfl) dL_held_4 ⟨by show 0 + (0) ≤ 0; omega, by show 0 + (0) ≤ 0; omega⟩ (fun r u hp hx => ?_)
  obtain ⟨er, rfl⟩ := hp
  rw [er]
  try dsimp only [List.append_nil]
  refine g_widen (k := 0) (n := 0) (by omega) (by omega) ?_
  refine g_i2l C dL_held_7 rfl ?_
  refine g_last C rfl h9 dL_held_8 ?_
  refine g_goto (tgt := 15) C dL_held_9 (by decide) ?_
  refine g_iconst (v := 0) C dL_held_15 (by decide) ?_
  exact g_iret C hr rfl hz ⟨rfl, rfl, fun _ => rfl, fun _ => rfl⟩ ⟨rfl, rfl⟩ (fun j x h => by simp at h) dL_held_16
set_option maxHeartbeats 4000000 in
set_option maxRecDepth 100000 in
theorem e1_L_held (l : Launch) (hl : l.stackTraces = false) (B : Nat × (Nat → Nat)) (μ : MP) (ν : NC) (a : AS) (Ad : Nat → Nat → Nat) (w : Nat) (x1 : Int32) (r0 : Int32) (h : f_X8_held w μ ν x1 = some (1, r0)) (h0 : 0 < ν.2 0) (h9 : 0 < ν.2 90 ∧ ν.1 90 0 = 1) : ∀ D E sz, vx_Met l yL_held gwL_held ({ frames := 8, cells := 1, slots := 6, locals := 141 } : Room) (cPh D E sz B (zS μ ν a Ad) [.ref (Ad 0 0), .int x1, .ref (Ad 90 0)]) (cQ D E sz (zS μ ν a Ad) [] (pI (fun r u => r = 1 ∧ u = (zS μ ν a Ad, [])))) (fun _ _ _ => False) (1) (6) (Aof (zS μ ν a Ad) [] sz) := by
  intro D E sz
  refine g_ofH (cc := cL_held) (maxL := 4) (ret := some .int) (hh := [(0, 9, 12, 23)]) (own := "TradeLineLaw") (by decide) rfl rfl (Nat.le_of_ble_eq_true rfl) ?_
  intro p e s m args below meth c C hr hT hz hEv hN
  refine g_lv (lv' := [(0, .ref (Ad 0 0)), (1, .int x1), (2, .ref (Ad 90 0))]) [0, 1, 2] rfl ?_
  refine g_aload_n C dL_held_0 rfl 2 rfl ?_
  refine g_iconst (v := 0) C dL_held_1 (by decide) ?_
  refine g_aload_n C dL_held_2 rfl 0 rfl ?_
  refine g_iload_n C dL_held_3 rfl 1 rfl ?_
  refine g_hc (n := 1) (index := 1) C hEv ⟨rfl, rfl⟩ hN [_] _ rfl rfl (fun sz => x_X8_held l hl B μ ν a Ad w x1 0 r0 h D E sz) rfl gw_1058 gw_1 gw_1055 gw_1056 gw_1057 ⟨by decide +kernel, by decide +kernel, by decide +kernel⟩ ⟨rfl, rfl⟩ ⟨Nat.le_of_ble_eq_true rfl, Nat.le_of_ble_eq_true rfl⟩ (rcvT ⟨h0, fun e => absurd e (by decide)⟩ rfl rfl rfl) (Nat.le_of_ble_eq_true rfl) dL_held_4 ⟨by decide, by decide⟩ [] ⟨0, 9, 12, 23⟩ [] hT (fun z hz => absurd hz (by simp)) (by decide) (by decide) gw_499 (by decide) rfl (fun q9 => ?_)
  refine g_astore_n (lv' := [(3, .ref q9), (0, .ref (Ad 0 0)), (1, .int x1), (2, .ref (Ad 90 0))]) C dL_held_12 rfl (by decide) rfl ?_
  refine g_iconst (v := 1) C dL_held_13 (by decide) ?_
  refine g_vx ?_
  exact g_iret C hr rfl hz ⟨rfl, rfl, fun _ => rfl, fun _ => rfl⟩ ⟨rfl, rfl⟩ (fun j x h => by simp at h) dL_held_14
set_option maxHeartbeats 4000000 in
set_option maxRecDepth 100000 in
theorem r_L_fields (l : Launch) (B : Nat × (Nat → Nat)) (μ : MP) (ν : NC) (a : AS) (Ad : Nat → Nat → Nat) (w : Nat) (x1 : Int32) (x2 : Int32) (r0 : Int32) (h : f_X8_fields w μ ν x1 x2 = some (0, r0)) (h0 : 0 < ν.2 0) (h9 : 0 < ν.2 90 ∧ ν.1 90 0 = 1) : ∀ D E sz, vx_Met l yL_fields gwL_fields ({ frames := 6, cells := 0, slots := 0, locals := 147 } : Room) (cPh D E sz B (zS μ ν a Ad) [.ref (Ad 0 0), .int x1, .int x2, .ref (Ad 90 0)]) (cQ D E sz (zS μ ν a Ad) [] (pI (fun r u => r = 0 ∧ u = (zS (up3 μ.1 90 0 0 r0, μ.2) ν a Ad, [])))) (fun _ _ _ => False) (0) (0) (Aof (zS μ ν a Ad) [] sz) := by
  intro D E sz
  refine g_ofH (cc := cL_fields) (maxL := 5) (ret := some .int) (hh := [(0, 10, 13, 23)]) (own := "TradeLineLaw") (by decide) rfl rfl (Nat.le_of_ble_eq_true rfl) ?_
  intro p e s m args below meth c C hr hT hz hEv hN
  refine g_vx ?_
  refine g_lv (lv' := [(0, .ref (Ad 0 0)), (1, .int x1), (2, .int x2), (3, .ref (Ad 90 0))]) [0, 1, 2, 3] rfl ?_
  refine g_aload_n C dL_fields_0 rfl 3 rfl ?_
  refine g_iconst (v := 0) C dL_fields_1 (by decide) ?_
  refine g_aload_n C dL_fields_2 rfl 0 rfl ?_
  refine g_iload_n C dL_fields_3 rfl 1 rfl ?_
  refine g_iload_n C dL_fields_4 rfl 2 rfl ?_
  refine g_cVi (n := 2) (exc := []) (exr := []) C [_, _] _ rfl rfl [] [] rfl rfl rfl rfl (fun _ h => absurd h (by simp)) (fun _ h => absurd h (by simp)) (fun _ h => absurd h (by simp)) (fun sz => c_X8_fields l μ ν a Ad w x1 x2 r0 h D E sz) rfl gw_1065 gw_1 gw_1062 gw_1063 gw_1064 ⟨by decide +kernel, by decide +kernel, by decide +kernel⟩ ⟨rfl, rfl⟩ ⟨Nat.le_of_ble_eq_true rfl, Nat.le_of_ble_eq_true rfl⟩ (rcvT ⟨h0, fun e => absurd e (by decide)⟩ rfl rfl rfl) (Nat.le_of_ble_eq_true rfl) dL_fields_5 ⟨by show 0 + (0) ≤ 0; omega, by show 0 + (0) ≤ 0; omega⟩ (fun r u hp hx => ?_)
  obtain ⟨er, rfl⟩ := hp
  rw [er]
  try dsimp only [List.append_nil]
  refine g_widen (k := 0) (n := 0) (by omega) (by omega) ?_
  refine g_i2l C dL_fields_8 rfl ?_
  refine g_last C rfl h9 dL_fields_9 ?_
  refine g_goto (tgt := 17) C dL_fields_10 (by decide) ?_
  refine g_iconst (v := 0) C dL_fields_17 (by decide) ?_
  exact g_iret C hr rfl hz ⟨rfl, rfl, fun _ => rfl, fun _ => rfl⟩ ⟨rfl, rfl⟩ (fun j x h => by simp at h) dL_fields_18
set_option maxHeartbeats 4000000 in
set_option maxRecDepth 100000 in
theorem e1_L_fields (l : Launch) (hl : l.stackTraces = false) (B : Nat × (Nat → Nat)) (μ : MP) (ν : NC) (a : AS) (Ad : Nat → Nat → Nat) (w : Nat) (x1 : Int32) (x2 : Int32) (r0 : Int32) (h : f_X8_fields w μ ν x1 x2 = some (1, r0)) (h0 : 0 < ν.2 0) (h9 : 0 < ν.2 90 ∧ ν.1 90 0 = 1) : ∀ D E sz, vx_Met l yL_fields gwL_fields ({ frames := 9, cells := 1, slots := 6, locals := 165 } : Room) (cPh D E sz B (zS μ ν a Ad) [.ref (Ad 0 0), .int x1, .int x2, .ref (Ad 90 0)]) (cQ D E sz (zS μ ν a Ad) [] (pI (fun r u => r = 1 ∧ u = (zS μ ν a Ad, [])))) (fun _ _ _ => False) (1) (6) (Aof (zS μ ν a Ad) [] sz) := by
  intro D E sz
  refine g_ofH (cc := cL_fields) (maxL := 5) (ret := some .int) (hh := [(0, 10, 13, 23)]) (own := "TradeLineLaw") (by decide) rfl rfl (Nat.le_of_ble_eq_true rfl) ?_
  intro p e s m args below meth c C hr hT hz hEv hN
  refine g_lv (lv' := [(0, .ref (Ad 0 0)), (1, .int x1), (2, .int x2), (3, .ref (Ad 90 0))]) [0, 1, 2, 3] rfl ?_
  refine g_aload_n C dL_fields_0 rfl 3 rfl ?_
  refine g_iconst (v := 0) C dL_fields_1 (by decide) ?_
  refine g_aload_n C dL_fields_2 rfl 0 rfl ?_
  refine g_iload_n C dL_fields_3 rfl 1 rfl ?_
  refine g_iload_n C dL_fields_4 rfl 2 rfl ?_
  refine g_hc (n := 1) (index := 2) C hEv ⟨rfl, rfl⟩ hN [_, _] _ rfl rfl (fun sz => x_X8_fields l hl B μ ν a Ad w x1 x2 0 r0 h D E sz) rfl gw_1065 gw_1 gw_1062 gw_1063 gw_1064 ⟨by decide +kernel, by decide +kernel, by decide +kernel⟩ ⟨rfl, rfl⟩ ⟨Nat.le_of_ble_eq_true rfl, Nat.le_of_ble_eq_true rfl⟩ (rcvT ⟨h0, fun e => absurd e (by decide)⟩ rfl rfl rfl) (Nat.le_of_ble_eq_true rfl) dL_fields_5 ⟨by decide, by decide⟩ [] ⟨0, 10, 13, 23⟩ [] hT (fun z hz => absurd hz (by simp)) (by decide) (by decide) gw_499 (by decide) rfl (fun q9 => ?_)
  refine g_astore (lv' := [(4, .ref q9), (0, .ref (Ad 0 0)), (1, .int x1), (2, .int x2), (3, .ref (Ad 90 0))]) C dL_fields_13 (by decide) rfl ?_
  refine g_iconst (v := 1) C dL_fields_15 (by decide) ?_
  refine g_vx ?_
  exact g_iret C hr rfl hz ⟨rfl, rfl, fun _ => rfl, fun _ => rfl⟩ ⟨rfl, rfl⟩ (fun j x h => by simp at h) dL_fields_16
set_option maxHeartbeats 4000000 in
set_option maxRecDepth 100000 in
theorem r_L_tagAt (l : Launch) (B : Nat × (Nat → Nat)) (μ : MP) (ν : NC) (a : AS) (Ad : Nat → Nat → Nat) (w : Nat) (x1 : Int32) (x2 : Int32) (x3 : Int32) (r0 : Int32) (h : f_X8_tagAt w μ ν x1 x2 x3 = some (0, r0)) (h0 : 0 < ν.2 0) (h9 : 0 < ν.2 90 ∧ ν.1 90 0 = 1) : ∀ D E sz, vx_Met l yL_tagAt gwL_tagAt ({ frames := 6, cells := 0, slots := 0, locals := 149 } : Room) (cPh D E sz B (zS μ ν a Ad) [.ref (Ad 0 0), .int x1, .int x2, .int x3, .ref (Ad 90 0)]) (cQ D E sz (zS μ ν a Ad) [] (pI (fun r u => r = 0 ∧ u = (zS (up3 μ.1 90 0 0 r0, μ.2) ν a Ad, [])))) (fun _ _ _ => False) (0) (0) (Aof (zS μ ν a Ad) [] sz) := by
  intro D E sz
  refine g_ofH (cc := cL_tagAt) (maxL := 6) (ret := some .int) (hh := [(0, 12, 15, 23)]) (own := "TradeLineLaw") (by decide) rfl rfl (Nat.le_of_ble_eq_true rfl) ?_
  intro p e s m args below meth c C hr hT hz hEv hN
  refine g_vx ?_
  refine g_lv (lv' := [(0, .ref (Ad 0 0)), (1, .int x1), (2, .int x2), (3, .int x3), (4, .ref (Ad 90 0))]) [0, 1, 2, 3, 4] rfl ?_
  refine g_aload C dL_tagAt_0 4 rfl ?_
  refine g_iconst (v := 0) C dL_tagAt_2 (by decide) ?_
  refine g_aload_n C dL_tagAt_3 rfl 0 rfl ?_
  refine g_iload_n C dL_tagAt_4 rfl 1 rfl ?_
  refine g_iload_n C dL_tagAt_5 rfl 2 rfl ?_
  refine g_iload_n C dL_tagAt_6 rfl 3 rfl ?_
  refine g_cVi (n := 3) (exc := []) (exr := []) C [_, _, _] _ rfl rfl [] [] rfl rfl rfl rfl (fun _ h => absurd h (by simp)) (fun _ h => absurd h (by simp)) (fun _ h => absurd h (by simp)) (fun sz => c_X8_tagAt l μ ν a Ad w x1 x2 x3 r0 h D E sz) rfl gw_1081 gw_1 gw_1078 gw_1079 gw_1080 ⟨by decide +kernel, by decide +kernel, by decide +kernel⟩ ⟨rfl, rfl⟩ ⟨Nat.le_of_ble_eq_true rfl, Nat.le_of_ble_eq_true rfl⟩ (rcvT ⟨h0, fun e => absurd e (by decide)⟩ rfl rfl rfl) (Nat.le_of_ble_eq_true rfl) dL_tagAt_7 ⟨by show 0 + (0) ≤ 0; omega, by show 0 + (0) ≤ 0; omega⟩ (fun r u hp hx => ?_)
  obtain ⟨er, rfl⟩ := hp
  rw [er]
  try dsimp only [List.append_nil]
  refine g_widen (k := 0) (n := 0) (by omega) (by omega) ?_
  refine g_i2l C dL_tagAt_10 rfl ?_
  refine g_last C rfl h9 dL_tagAt_11 ?_
  refine g_goto (tgt := 19) C dL_tagAt_12 (by decide) ?_
  refine g_iconst (v := 0) C dL_tagAt_19 (by decide) ?_
  exact g_iret C hr rfl hz ⟨rfl, rfl, fun _ => rfl, fun _ => rfl⟩ ⟨rfl, rfl⟩ (fun j x h => by simp at h) dL_tagAt_20
set_option maxHeartbeats 4000000 in
set_option maxRecDepth 100000 in
theorem e1_L_tagAt (l : Launch) (hl : l.stackTraces = false) (B : Nat × (Nat → Nat)) (μ : MP) (ν : NC) (a : AS) (Ad : Nat → Nat → Nat) (w : Nat) (x1 : Int32) (x2 : Int32) (x3 : Int32) (r0 : Int32) (h : f_X8_tagAt w μ ν x1 x2 x3 = some (1, r0)) (h0 : 0 < ν.2 0) (h9 : 0 < ν.2 90 ∧ ν.1 90 0 = 1) : ∀ D E sz, vx_Met l yL_tagAt gwL_tagAt ({ frames := 9, cells := 1, slots := 6, locals := 167 } : Room) (cPh D E sz B (zS μ ν a Ad) [.ref (Ad 0 0), .int x1, .int x2, .int x3, .ref (Ad 90 0)]) (cQ D E sz (zS μ ν a Ad) [] (pI (fun r u => r = 1 ∧ u = (zS μ ν a Ad, [])))) (fun _ _ _ => False) (1) (6) (Aof (zS μ ν a Ad) [] sz) := by
  intro D E sz
  refine g_ofH (cc := cL_tagAt) (maxL := 6) (ret := some .int) (hh := [(0, 12, 15, 23)]) (own := "TradeLineLaw") (by decide) rfl rfl (Nat.le_of_ble_eq_true rfl) ?_
  intro p e s m args below meth c C hr hT hz hEv hN
  refine g_lv (lv' := [(0, .ref (Ad 0 0)), (1, .int x1), (2, .int x2), (3, .int x3), (4, .ref (Ad 90 0))]) [0, 1, 2, 3, 4] rfl ?_
  refine g_aload C dL_tagAt_0 4 rfl ?_
  refine g_iconst (v := 0) C dL_tagAt_2 (by decide) ?_
  refine g_aload_n C dL_tagAt_3 rfl 0 rfl ?_
  refine g_iload_n C dL_tagAt_4 rfl 1 rfl ?_
  refine g_iload_n C dL_tagAt_5 rfl 2 rfl ?_
  refine g_iload_n C dL_tagAt_6 rfl 3 rfl ?_
  refine g_hc (n := 1) (index := 3) C hEv ⟨rfl, rfl⟩ hN [_, _, _] _ rfl rfl (fun sz => x_X8_tagAt l hl B μ ν a Ad w x1 x2 x3 0 r0 h D E sz) rfl gw_1081 gw_1 gw_1078 gw_1079 gw_1080 ⟨by decide +kernel, by decide +kernel, by decide +kernel⟩ ⟨rfl, rfl⟩ ⟨Nat.le_of_ble_eq_true rfl, Nat.le_of_ble_eq_true rfl⟩ (rcvT ⟨h0, fun e => absurd e (by decide)⟩ rfl rfl rfl) (Nat.le_of_ble_eq_true rfl) dL_tagAt_7 ⟨by decide, by decide⟩ [] ⟨0, 12, 15, 23⟩ [] hT (fun z hz => absurd hz (by simp)) (by decide) (by decide) gw_499 (by decide) rfl (fun q9 => ?_)
  refine g_astore (lv' := [(5, .ref q9), (0, .ref (Ad 0 0)), (1, .int x1), (2, .int x2), (3, .int x3), (4, .ref (Ad 90 0))]) C dL_tagAt_15 (by decide) rfl ?_
  refine g_iconst (v := 1) C dL_tagAt_17 (by decide) ?_
  refine g_vx ?_
  exact g_iret C hr rfl hz ⟨rfl, rfl, fun _ => rfl, fun _ => rfl⟩ ⟨rfl, rfl⟩ (fun j x h => by simp at h) dL_tagAt_18
set_option maxHeartbeats 4000000 in
set_option maxRecDepth 100000 in
theorem r_L_valueAt (l : Launch) (B : Nat × (Nat → Nat)) (μ : MP) (ν : NC) (a : AS) (Ad : Nat → Nat → Nat) (w : Nat) (x1 : Int32) (x2 : Int32) (x3 : Int32) (r0 : Int32) (h : f_X8_valueAt w μ ν x1 x2 x3 = some (0, r0)) (h0 : 0 < ν.2 0) (h9 : 0 < ν.2 90 ∧ ν.1 90 0 = 1) : ∀ D E sz, vx_Met l yL_valueAt gwL_valueAt ({ frames := 6, cells := 0, slots := 0, locals := 149 } : Room) (cPh D E sz B (zS μ ν a Ad) [.ref (Ad 0 0), .int x1, .int x2, .int x3, .ref (Ad 90 0)]) (cQ D E sz (zS μ ν a Ad) [] (pI (fun r u => r = 0 ∧ u = (zS (up3 μ.1 90 0 0 r0, μ.2) ν a Ad, [])))) (fun _ _ _ => False) (0) (0) (Aof (zS μ ν a Ad) [] sz) := by
  intro D E sz
  refine g_ofH (cc := cL_valueAt) (maxL := 6) (ret := some .int) (hh := [(0, 12, 15, 23)]) (own := "TradeLineLaw") (by decide) rfl rfl (Nat.le_of_ble_eq_true rfl) ?_
  intro p e s m args below meth c C hr hT hz hEv hN
  refine g_vx ?_
  refine g_lv (lv' := [(0, .ref (Ad 0 0)), (1, .int x1), (2, .int x2), (3, .int x3), (4, .ref (Ad 90 0))]) [0, 1, 2, 3, 4] rfl ?_
  refine g_aload C dL_valueAt_0 4 rfl ?_
  refine g_iconst (v := 0) C dL_valueAt_2 (by decide) ?_
  refine g_aload_n C dL_valueAt_3 rfl 0 rfl ?_
  refine g_iload_n C dL_valueAt_4 rfl 1 rfl ?_
  refine g_iload_n C dL_valueAt_5 rfl 2 rfl ?_
  refine g_iload_n C dL_valueAt_6 rfl 3 rfl ?_
  refine g_cVi (n := 3) (exc := []) (exr := []) C [_, _, _] _ rfl rfl [] [] rfl rfl rfl rfl (fun _ h => absurd h (by simp)) (fun _ h => absurd h (by simp)) (fun _ h => absurd h (by simp)) (fun sz => c_X8_valueAt l μ ν a Ad w x1 x2 x3 r0 h D E sz) rfl gw_1094 gw_1 gw_1091 gw_1092 gw_1093 ⟨by decide +kernel, by decide +kernel, by decide +kernel⟩ ⟨rfl, rfl⟩ ⟨Nat.le_of_ble_eq_true rfl, Nat.le_of_ble_eq_true rfl⟩ (rcvT ⟨h0, fun e => absurd e (by decide)⟩ rfl rfl rfl) (Nat.le_of_ble_eq_true rfl) dL_valueAt_7 ⟨by show 0 + (0) ≤ 0; omega, by show 0 + (0) ≤ 0; omega⟩ (fun r u hp hx => ?_)
  obtain ⟨er, rfl⟩ := hp
  rw [er]
  try dsimp only [List.append_nil]
  refine g_widen (k := 0) (n := 0) (by omega) (by omega) ?_
  refine g_i2l C dL_valueAt_10 rfl ?_
  refine g_last C rfl h9 dL_valueAt_11 ?_
  refine g_goto (tgt := 19) C dL_valueAt_12 (by decide) ?_
  refine g_iconst (v := 0) C dL_valueAt_19 (by decide) ?_
  exact g_iret C hr rfl hz ⟨rfl, rfl, fun _ => rfl, fun _ => rfl⟩ ⟨rfl, rfl⟩ (fun j x h => by simp at h) dL_valueAt_20
set_option maxHeartbeats 4000000 in
set_option maxRecDepth 100000 in
theorem e1_L_valueAt (l : Launch) (hl : l.stackTraces = false) (B : Nat × (Nat → Nat)) (μ : MP) (ν : NC) (a : AS) (Ad : Nat → Nat → Nat) (w : Nat) (x1 : Int32) (x2 : Int32) (x3 : Int32) (r0 : Int32) (h : f_X8_valueAt w μ ν x1 x2 x3 = some (1, r0)) (h0 : 0 < ν.2 0) (h9 : 0 < ν.2 90 ∧ ν.1 90 0 = 1) : ∀ D E sz, vx_Met l yL_valueAt gwL_valueAt ({ frames := 9, cells := 1, slots := 6, locals := 167 } : Room) (cPh D E sz B (zS μ ν a Ad) [.ref (Ad 0 0), .int x1, .int x2, .int x3, .ref (Ad 90 0)]) (cQ D E sz (zS μ ν a Ad) [] (pI (fun r u => r = 1 ∧ u = (zS μ ν a Ad, [])))) (fun _ _ _ => False) (1) (6) (Aof (zS μ ν a Ad) [] sz) := by
  intro D E sz
  refine g_ofH (cc := cL_valueAt) (maxL := 6) (ret := some .int) (hh := [(0, 12, 15, 23)]) (own := "TradeLineLaw") (by decide) rfl rfl (Nat.le_of_ble_eq_true rfl) ?_
  intro p e s m args below meth c C hr hT hz hEv hN
  refine g_lv (lv' := [(0, .ref (Ad 0 0)), (1, .int x1), (2, .int x2), (3, .int x3), (4, .ref (Ad 90 0))]) [0, 1, 2, 3, 4] rfl ?_
  refine g_aload C dL_valueAt_0 4 rfl ?_
  refine g_iconst (v := 0) C dL_valueAt_2 (by decide) ?_
  refine g_aload_n C dL_valueAt_3 rfl 0 rfl ?_
  refine g_iload_n C dL_valueAt_4 rfl 1 rfl ?_
  refine g_iload_n C dL_valueAt_5 rfl 2 rfl ?_
  refine g_iload_n C dL_valueAt_6 rfl 3 rfl ?_
  refine g_hc (n := 1) (index := 3) C hEv ⟨rfl, rfl⟩ hN [_, _, _] _ rfl rfl (fun sz => x_X8_valueAt l hl B μ ν a Ad w x1 x2 x3 0 r0 h D E sz) rfl gw_1094 gw_1 gw_1091 gw_1092 gw_1093 ⟨by decide +kernel, by decide +kernel, by decide +kernel⟩ ⟨rfl, rfl⟩ ⟨Nat.le_of_ble_eq_true rfl, Nat.le_of_ble_eq_true rfl⟩ (rcvT ⟨h0, fun e => absurd e (by decide)⟩ rfl rfl rfl) (Nat.le_of_ble_eq_true rfl) dL_valueAt_7 ⟨by decide, by decide⟩ [] ⟨0, 12, 15, 23⟩ [] hT (fun z hz => absurd hz (by simp)) (by decide) (by decide) gw_499 (by decide) rfl (fun q9 => ?_)
  refine g_astore (lv' := [(5, .ref q9), (0, .ref (Ad 0 0)), (1, .int x1), (2, .int x2), (3, .int x3), (4, .ref (Ad 90 0))]) C dL_valueAt_15 (by decide) rfl ?_
  refine g_iconst (v := 1) C dL_valueAt_17 (by decide) ?_
  refine g_vx ?_
  exact g_iret C hr rfl hz ⟨rfl, rfl, fun _ => rfl, fun _ => rfl⟩ ⟨rfl, rfl⟩ (fun j x h => by simp at h) dL_valueAt_18
set_option maxHeartbeats 4000000 in
set_option maxRecDepth 100000 in
theorem r_L_order (l : Launch) (B : Nat × (Nat → Nat)) (μ : MP) (ν : NC) (a : AS) (Ad : Nat → Nat → Nat) (w : Nat) (x1 : Int32) (x2 : Int32) (x3 : Int32) (r0 : (MP × NC) × Int32) (h : f_X8_order w μ ν x1 x2 x3 = some (0, r0)) (h0 : 0 < ν.2 0) (h9 : 0 < ν.2 90 ∧ ν.1 90 0 = 1) : ∀ D E sz, vx_Met l yL_order gwL_order ({ frames := 9, cells := kc r0.1.2 - kc ν, slots := ks r0.1.2 - ks ν, locals := 270 } : Room) (cPh D E sz B (zS μ ν a Ad) [.ref (Ad 0 0), .int x1, .int x2, .int x3, .ref (Ad 90 0)]) (cQ D E sz (zS μ ν a Ad) [] (pI (fun r u => r = 0 ∧ ∃ A1, u = (zS (up3 r0.1.1.1 90 0 0 r0.2, r0.1.1.2) r0.1.2 a A1, []) ∧ kp ν Ad A1))) (fun _ _ _ => False) (kc r0.1.2 - kc ν) (ks r0.1.2 - ks ν) (Aof (zS μ ν a Ad) [] sz) := by
  intro D E sz
  refine g_ofH (cc := cL_order) (maxL := 6) (ret := some .int) (hh := [(0, 12, 15, 25), (0, 12, 19, 13)]) (own := "TradeLineLaw") (by decide) rfl rfl (Nat.le_of_ble_eq_true rfl) ?_
  intro p e s m args below meth c C hr hT hz hEv hN
  refine g_vx ?_
  refine g_lv (lv' := [(0, .ref (Ad 0 0)), (1, .int x1), (2, .int x2), (3, .int x3), (4, .ref (Ad 90 0))]) [0, 1, 2, 3, 4] rfl ?_
  refine g_aload C dL_order_0 4 rfl ?_
  refine g_iconst (v := 0) C dL_order_2 (by decide) ?_
  refine g_aload_n C dL_order_3 rfl 0 rfl ?_
  refine g_iload_n C dL_order_4 rfl 1 rfl ?_
  refine g_iload_n C dL_order_5 rfl 2 rfl ?_
  refine g_iload_n C dL_order_6 rfl 3 rfl ?_
  refine g_cVie (n := 3) (exc := []) (exr := []) C hEv ⟨rfl, rfl⟩ [_, _, _] _ rfl rfl [] [] rfl rfl rfl rfl (fun _ h => absurd h (by simp)) (fun _ h => absurd h (by simp)) (fun _ h => absurd h (by simp)) (fun sz => c_X8_order l B μ ν a Ad w x1 x2 x3 r0 h D E sz) rfl gw_1101 gw_1 gw_1098 gw_1099 gw_1100 ⟨by decide +kernel, by decide +kernel, by decide +kernel⟩ ⟨rfl, rfl⟩ ⟨Nat.le_of_ble_eq_true rfl, Nat.le_of_ble_eq_true rfl⟩ (rcvT ⟨h0, fun e => absurd e (by decide)⟩ rfl rfl rfl) (Nat.le_of_ble_eq_true rfl) dL_order_7 ⟨by show 0 + (kc r0.1.2 - kc ν) ≤ kc r0.1.2 - kc ν; omega, by show 0 + (ks r0.1.2 - ks ν) ≤ ks r0.1.2 - ks ν; omega⟩ (fun r u hp hx => ?_)
  obtain ⟨er, A1, rfl, hkp⟩ := hp
  rw [er]
  try dsimp only [List.append_nil]
  have hm := m_X8_order h
  have h9 : 0 < r0.1.2.2 90 ∧ r0.1.2.1 90 0 = 1 ∧ A1 90 0 = Ad 90 0 := ⟨by rw [(hm.2.2.2 90 (by decide) (by decide)).1]; exact h9.1, by rw [(hm.2.2.2 90 (by decide) (by decide)).2]; exact h9.2, hkp.1 90 0 rfl h9.1⟩
  refine g_widen (k := kc r0.1.2 - kc ν) (n := ks r0.1.2 - ks ν) (by omega) (by omega) ?_
  refine g_i2l C dL_order_10 rfl ?_
  refine g_last C h9.2.2 ⟨h9.1, h9.2.1⟩ dL_order_11 ?_
  refine g_goto (tgt := 23) C dL_order_12 (by decide) ?_
  refine g_iconst (v := 0) C dL_order_23 (by decide) ?_
  exact g_iret C hr rfl hz ⟨(hm.2.2.2 30 (by decide) (by decide)).1, (hm.2.2.2 31 (by decide) (by decide)).1, hkp.2.1, hkp.2.2⟩ ⟨rfl, A1, rfl, hkp⟩ (fun j x h => by simp at h) dL_order_24
set_option maxHeartbeats 4000000 in
set_option maxRecDepth 100000 in
theorem e2_L_order (l : Launch) (hl : l.stackTraces = false) (B : Nat × (Nat → Nat)) (μ : MP) (ν : NC) (a : AS) (Ad : Nat → Nat → Nat) (w : Nat) (x1 : Int32) (x2 : Int32) (x3 : Int32) (r0 : (MP × NC) × Int32) (h : f_X8_order w μ ν x1 x2 x3 = some (2, r0)) (h0 : 0 < ν.2 0) (h9 : 0 < ν.2 90 ∧ ν.1 90 0 = 1) : ∀ D E sz, vx_Met l yL_order gwL_order ({ frames := 9, cells := 1, slots := 6, locals := 270 } : Room) (cPh D E sz B (zS μ ν a Ad) [.ref (Ad 0 0), .int x1, .int x2, .int x3, .ref (Ad 90 0)]) (cQ D E sz (zS μ ν a Ad) [] (pI (fun r u => r = 1 ∧ u = (zS μ ν a Ad, [])))) (fun _ _ _ => False) (1) (6) (Aof (zS μ ν a Ad) [] sz) := by
  intro D E sz
  refine g_ofH (cc := cL_order) (maxL := 6) (ret := some .int) (hh := [(0, 12, 15, 25), (0, 12, 19, 13)]) (own := "TradeLineLaw") (by decide) rfl rfl (Nat.le_of_ble_eq_true rfl) ?_
  intro p e s m args below meth c C hr hT hz hEv hN
  refine g_lv (lv' := [(0, .ref (Ad 0 0)), (1, .int x1), (2, .int x2), (3, .int x3), (4, .ref (Ad 90 0))]) [0, 1, 2, 3, 4] rfl ?_
  refine g_aload C dL_order_0 4 rfl ?_
  refine g_iconst (v := 0) C dL_order_2 (by decide) ?_
  refine g_aload_n C dL_order_3 rfl 0 rfl ?_
  refine g_iload_n C dL_order_4 rfl 1 rfl ?_
  refine g_iload_n C dL_order_5 rfl 2 rfl ?_
  refine g_iload_n C dL_order_6 rfl 3 rfl ?_
  refine g_hc (n := 2) (index := 3) C hEv ⟨rfl, rfl⟩ hN [_, _, _] _ rfl rfl (fun sz => x_X8_order l hl B μ ν a Ad w x1 x2 x3 1 r0 h D E sz) rfl gw_1101 gw_1 gw_1098 gw_1099 gw_1100 ⟨by decide +kernel, by decide +kernel, by decide +kernel⟩ ⟨rfl, rfl⟩ ⟨Nat.le_of_ble_eq_true rfl, Nat.le_of_ble_eq_true rfl⟩ (rcvT ⟨h0, fun e => absurd e (by decide)⟩ rfl rfl rfl) (Nat.le_of_ble_eq_true rfl) dL_order_7 ⟨by decide, by decide⟩ [] ⟨0, 12, 15, 25⟩ [⟨0, 12, 19, 13⟩] hT (fun z hz => absurd hz (by simp)) (by decide) (by decide) gw_500 (by decide) rfl (fun q9 => ?_)
  refine g_astore (lv' := [(5, .ref q9), (0, .ref (Ad 0 0)), (1, .int x1), (2, .int x2), (3, .int x3), (4, .ref (Ad 90 0))]) C dL_order_15 (by decide) rfl ?_
  refine g_iconst (v := 1) C dL_order_17 (by decide) ?_
  refine g_vx ?_
  exact g_iret C hr rfl hz ⟨rfl, rfl, fun _ => rfl, fun _ => rfl⟩ ⟨rfl, rfl⟩ (fun j x h => by simp at h) dL_order_18
set_option maxHeartbeats 4000000 in
set_option maxRecDepth 100000 in
theorem e3_L_order (l : Launch) (hl : l.stackTraces = false) (B : Nat × (Nat → Nat)) (μ : MP) (ν : NC) (a : AS) (Ad : Nat → Nat → Nat) (w : Nat) (x1 : Int32) (x2 : Int32) (x3 : Int32) (r0 : (MP × NC) × Int32) (h : f_X8_order w μ ν x1 x2 x3 = some (3, r0)) (h0 : 0 < ν.2 0) (h9 : 0 < ν.2 90 ∧ ν.1 90 0 = 1) : ∀ D E sz, vx_Met l yL_order gwL_order ({ frames := 9, cells := 1, slots := 6, locals := 270 } : Room) (cPh D E sz B (zS μ ν a Ad) [.ref (Ad 0 0), .int x1, .int x2, .int x3, .ref (Ad 90 0)]) (cQ D E sz (zS μ ν a Ad) [] (pI (fun r u => r = 2 ∧ u = (zS μ ν a Ad, [])))) (fun _ _ _ => False) (1) (6) (Aof (zS μ ν a Ad) [] sz) := by
  intro D E sz
  refine g_ofH (cc := cL_order) (maxL := 6) (ret := some .int) (hh := [(0, 12, 15, 25), (0, 12, 19, 13)]) (own := "TradeLineLaw") (by decide) rfl rfl (Nat.le_of_ble_eq_true rfl) ?_
  intro p e s m args below meth c C hr hT hz hEv hN
  refine g_lv (lv' := [(0, .ref (Ad 0 0)), (1, .int x1), (2, .int x2), (3, .int x3), (4, .ref (Ad 90 0))]) [0, 1, 2, 3, 4] rfl ?_
  refine g_aload C dL_order_0 4 rfl ?_
  refine g_iconst (v := 0) C dL_order_2 (by decide) ?_
  refine g_aload_n C dL_order_3 rfl 0 rfl ?_
  refine g_iload_n C dL_order_4 rfl 1 rfl ?_
  refine g_iload_n C dL_order_5 rfl 2 rfl ?_
  refine g_iload_n C dL_order_6 rfl 3 rfl ?_
  refine g_hc (n := 3) (index := 3) C hEv ⟨rfl, rfl⟩ hN [_, _, _] _ rfl rfl (fun sz => x_X8_order l hl B μ ν a Ad w x1 x2 x3 2 r0 h D E sz) rfl gw_1101 gw_1 gw_1098 gw_1099 gw_1100 ⟨by decide +kernel, by decide +kernel, by decide +kernel⟩ ⟨rfl, rfl⟩ ⟨Nat.le_of_ble_eq_true rfl, Nat.le_of_ble_eq_true rfl⟩ (rcvT ⟨h0, fun e => absurd e (by decide)⟩ rfl rfl rfl) (Nat.le_of_ble_eq_true rfl) dL_order_7 ⟨by decide, by decide⟩ [⟨0, 12, 15, 25⟩] ⟨0, 12, 19, 13⟩ [] hT (fun z hz => by obtain rfl := List.mem_singleton.mp hz; exact ⟨by decide, exN 2, gw_500, by simp [eN]⟩) (by decide) (by decide) gw_263 (by decide) rfl (fun q9 => ?_)
  refine g_astore (lv' := [(5, .ref q9), (0, .ref (Ad 0 0)), (1, .int x1), (2, .int x2), (3, .int x3), (4, .ref (Ad 90 0))]) C dL_order_19 (by decide) rfl ?_
  refine g_iconst (v := 2) C dL_order_21 (by decide) ?_
  refine g_vx ?_
  exact g_iret C hr rfl hz ⟨rfl, rfl, fun _ => rfl, fun _ => rfl⟩ ⟨rfl, rfl⟩ (fun j x h => by simp at h) dL_order_22
set_option maxHeartbeats 4000000 in
set_option maxRecDepth 100000 in
theorem r_L_cancel (l : Launch) (B : Nat × (Nat → Nat)) (μ : MP) (ν : NC) (a : AS) (Ad : Nat → Nat → Nat) (w : Nat) (x1 : Int32) (r0 : (MP × NC) × Int32) (h : f_X8_cancel w μ ν x1 = some (0, r0)) (h0 : 0 < ν.2 0) (h9 : 0 < ν.2 90 ∧ ν.1 90 0 = 1) : ∀ D E sz, vx_Met l yL_cancel gwL_cancel ({ frames := 9, cells := kc r0.1.2 - kc ν, slots := ks r0.1.2 - ks ν, locals := 268 } : Room) (cPh D E sz B (zS μ ν a Ad) [.ref (Ad 0 0), .int x1, .ref (Ad 90 0)]) (cQ D E sz (zS μ ν a Ad) [] (pI (fun r u => r = 0 ∧ ∃ A1, u = (zS (up3 r0.1.1.1 90 0 0 r0.2, r0.1.1.2) r0.1.2 a A1, []) ∧ kp ν Ad A1))) (fun _ _ _ => False) (kc r0.1.2 - kc ν) (ks r0.1.2 - ks ν) (Aof (zS μ ν a Ad) [] sz) := by
  intro D E sz
  refine g_ofH (cc := cL_cancel) (maxL := 4) (ret := some .int) (hh := [(0, 9, 12, 23), (0, 9, 15, 13)]) (own := "TradeLineLaw") (by decide) rfl rfl (Nat.le_of_ble_eq_true rfl) ?_
  intro p e s m args below meth c C hr hT hz hEv hN
  refine g_vx ?_
  refine g_lv (lv' := [(0, .ref (Ad 0 0)), (1, .int x1), (2, .ref (Ad 90 0))]) [0, 1, 2] rfl ?_
  refine g_aload_n C dL_cancel_0 rfl 2 rfl ?_
  refine g_iconst (v := 0) C dL_cancel_1 (by decide) ?_
  refine g_aload_n C dL_cancel_2 rfl 0 rfl ?_
  refine g_iload_n C dL_cancel_3 rfl 1 rfl ?_
  refine g_cVie (n := 1) (exc := []) (exr := []) C hEv ⟨rfl, rfl⟩ [_] _ rfl rfl [] [] rfl rfl rfl rfl (fun _ h => absurd h (by simp)) (fun _ h => absurd h (by simp)) (fun _ h => absurd h (by simp)) (fun sz => c_X8_cancel l B μ ν a Ad w x1 r0 h D E sz) rfl gw_1176 gw_1 gw_1173 gw_1174 gw_1175 ⟨by decide +kernel, by decide +kernel, by decide +kernel⟩ ⟨rfl, rfl⟩ ⟨Nat.le_of_ble_eq_true rfl, Nat.le_of_ble_eq_true rfl⟩ (rcvT ⟨h0, fun e => absurd e (by decide)⟩ rfl rfl rfl) (Nat.le_of_ble_eq_true rfl) dL_cancel_4 ⟨by show 0 + (kc r0.1.2 - kc ν) ≤ kc r0.1.2 - kc ν; omega, by show 0 + (ks r0.1.2 - ks ν) ≤ ks r0.1.2 - ks ν; omega⟩ (fun r u hp hx => ?_)
  obtain ⟨er, A1, rfl, hkp⟩ := hp
  rw [er]
  try dsimp only [List.append_nil]
  have hm := m_X8_cancel h
  have h9 : 0 < r0.1.2.2 90 ∧ r0.1.2.1 90 0 = 1 ∧ A1 90 0 = Ad 90 0 := ⟨by rw [(hm.2.2.2 90 (by decide) (by decide)).1]; exact h9.1, by rw [(hm.2.2.2 90 (by decide) (by decide)).2]; exact h9.2, hkp.1 90 0 rfl h9.1⟩
  refine g_widen (k := kc r0.1.2 - kc ν) (n := ks r0.1.2 - ks ν) (by omega) (by omega) ?_
  refine g_i2l C dL_cancel_7 rfl ?_
  refine g_last C h9.2.2 ⟨h9.1, h9.2.1⟩ dL_cancel_8 ?_
  refine g_goto (tgt := 18) C dL_cancel_9 (by decide) ?_
  refine g_iconst (v := 0) C dL_cancel_18 (by decide) ?_
  exact g_iret C hr rfl hz ⟨(hm.2.2.2 30 (by decide) (by decide)).1, (hm.2.2.2 31 (by decide) (by decide)).1, hkp.2.1, hkp.2.2⟩ ⟨rfl, A1, rfl, hkp⟩ (fun j x h => by simp at h) dL_cancel_19
set_option maxHeartbeats 4000000 in
set_option maxRecDepth 100000 in
theorem e1_L_cancel (l : Launch) (hl : l.stackTraces = false) (B : Nat × (Nat → Nat)) (μ : MP) (ν : NC) (a : AS) (Ad : Nat → Nat → Nat) (w : Nat) (x1 : Int32) (r0 : (MP × NC) × Int32) (h : f_X8_cancel w μ ν x1 = some (1, r0)) (h0 : 0 < ν.2 0) (h9 : 0 < ν.2 90 ∧ ν.1 90 0 = 1) : ∀ D E sz, vx_Met l yL_cancel gwL_cancel ({ frames := 9, cells := 1, slots := 6, locals := 268 } : Room) (cPh D E sz B (zS μ ν a Ad) [.ref (Ad 0 0), .int x1, .ref (Ad 90 0)]) (cQ D E sz (zS μ ν a Ad) [] (pI (fun r u => r = 1 ∧ u = (zS μ ν a Ad, [])))) (fun _ _ _ => False) (1) (6) (Aof (zS μ ν a Ad) [] sz) := by
  intro D E sz
  refine g_ofH (cc := cL_cancel) (maxL := 4) (ret := some .int) (hh := [(0, 9, 12, 23), (0, 9, 15, 13)]) (own := "TradeLineLaw") (by decide) rfl rfl (Nat.le_of_ble_eq_true rfl) ?_
  intro p e s m args below meth c C hr hT hz hEv hN
  refine g_lv (lv' := [(0, .ref (Ad 0 0)), (1, .int x1), (2, .ref (Ad 90 0))]) [0, 1, 2] rfl ?_
  refine g_aload_n C dL_cancel_0 rfl 2 rfl ?_
  refine g_iconst (v := 0) C dL_cancel_1 (by decide) ?_
  refine g_aload_n C dL_cancel_2 rfl 0 rfl ?_
  refine g_iload_n C dL_cancel_3 rfl 1 rfl ?_
  refine g_hc (n := 1) (index := 1) C hEv ⟨rfl, rfl⟩ hN [_] _ rfl rfl (fun sz => x_X8_cancel l hl B μ ν a Ad w x1 0 r0 h D E sz) rfl gw_1176 gw_1 gw_1173 gw_1174 gw_1175 ⟨by decide +kernel, by decide +kernel, by decide +kernel⟩ ⟨rfl, rfl⟩ ⟨Nat.le_of_ble_eq_true rfl, Nat.le_of_ble_eq_true rfl⟩ (rcvT ⟨h0, fun e => absurd e (by decide)⟩ rfl rfl rfl) (Nat.le_of_ble_eq_true rfl) dL_cancel_4 ⟨by decide, by decide⟩ [] ⟨0, 9, 12, 23⟩ [⟨0, 9, 15, 13⟩] hT (fun z hz => absurd hz (by simp)) (by decide) (by decide) gw_499 (by decide) rfl (fun q9 => ?_)
  refine g_astore_n (lv' := [(3, .ref q9), (0, .ref (Ad 0 0)), (1, .int x1), (2, .ref (Ad 90 0))]) C dL_cancel_12 rfl (by decide) rfl ?_
  refine g_iconst (v := 1) C dL_cancel_13 (by decide) ?_
  refine g_vx ?_
  exact g_iret C hr rfl hz ⟨rfl, rfl, fun _ => rfl, fun _ => rfl⟩ ⟨rfl, rfl⟩ (fun j x h => by simp at h) dL_cancel_14
set_option maxHeartbeats 4000000 in
set_option maxRecDepth 100000 in
theorem e3_L_cancel (l : Launch) (hl : l.stackTraces = false) (B : Nat × (Nat → Nat)) (μ : MP) (ν : NC) (a : AS) (Ad : Nat → Nat → Nat) (w : Nat) (x1 : Int32) (r0 : (MP × NC) × Int32) (h : f_X8_cancel w μ ν x1 = some (3, r0)) (h0 : 0 < ν.2 0) (h9 : 0 < ν.2 90 ∧ ν.1 90 0 = 1) : ∀ D E sz, vx_Met l yL_cancel gwL_cancel ({ frames := 9, cells := 1, slots := 6, locals := 268 } : Room) (cPh D E sz B (zS μ ν a Ad) [.ref (Ad 0 0), .int x1, .ref (Ad 90 0)]) (cQ D E sz (zS μ ν a Ad) [] (pI (fun r u => r = 2 ∧ u = (zS μ ν a Ad, [])))) (fun _ _ _ => False) (1) (6) (Aof (zS μ ν a Ad) [] sz) := by
  intro D E sz
  refine g_ofH (cc := cL_cancel) (maxL := 4) (ret := some .int) (hh := [(0, 9, 12, 23), (0, 9, 15, 13)]) (own := "TradeLineLaw") (by decide) rfl rfl (Nat.le_of_ble_eq_true rfl) ?_
  intro p e s m args below meth c C hr hT hz hEv hN
  refine g_lv (lv' := [(0, .ref (Ad 0 0)), (1, .int x1), (2, .ref (Ad 90 0))]) [0, 1, 2] rfl ?_
  refine g_aload_n C dL_cancel_0 rfl 2 rfl ?_
  refine g_iconst (v := 0) C dL_cancel_1 (by decide) ?_
  refine g_aload_n C dL_cancel_2 rfl 0 rfl ?_
  refine g_iload_n C dL_cancel_3 rfl 1 rfl ?_
  refine g_hc (n := 3) (index := 1) C hEv ⟨rfl, rfl⟩ hN [_] _ rfl rfl (fun sz => x_X8_cancel l hl B μ ν a Ad w x1 2 r0 h D E sz) rfl gw_1176 gw_1 gw_1173 gw_1174 gw_1175 ⟨by decide +kernel, by decide +kernel, by decide +kernel⟩ ⟨rfl, rfl⟩ ⟨Nat.le_of_ble_eq_true rfl, Nat.le_of_ble_eq_true rfl⟩ (rcvT ⟨h0, fun e => absurd e (by decide)⟩ rfl rfl rfl) (Nat.le_of_ble_eq_true rfl) dL_cancel_4 ⟨by decide, by decide⟩ [⟨0, 9, 12, 23⟩] ⟨0, 9, 15, 13⟩ [] hT (fun z hz => by obtain rfl := List.mem_singleton.mp hz; exact ⟨by decide, exN 1, gw_499, by simp [eN]⟩) (by decide) (by decide) gw_263 (by decide) rfl (fun q9 => ?_)
  refine g_astore_n (lv' := [(3, .ref q9), (0, .ref (Ad 0 0)), (1, .int x1), (2, .ref (Ad 90 0))]) C dL_cancel_15 rfl (by decide) rfl ?_
  refine g_iconst (v := 2) C dL_cancel_16 (by decide) ?_
  refine g_vx ?_
  exact g_iret C hr rfl hz ⟨rfl, rfl, fun _ => rfl, fun _ => rfl⟩ ⟨rfl, rfl⟩ (fun j x h => by simp at h) dL_cancel_17
