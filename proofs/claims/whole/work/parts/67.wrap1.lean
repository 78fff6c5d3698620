set_option maxHeartbeats 4000000 in
set_option maxRecDepth 100000 in
theorem r_L_replace (l : Launch) (B : Nat × (Nat → Nat)) (μ : MP) (ν : NC) (a : AS) (Ad : Nat → Nat → Nat) (w : Nat) (x1 : Int32) (x2 : Int32) (x3 : Int32) (r0 : (MP × NC) × Int32) (h : f_X8_replace w μ ν x1 x2 x3 = some (0, r0)) (h0 : 0 < ν.2 0) (h9 : 0 < ν.2 90 ∧ ν.1 90 0 = 1) : ∀ D E sz, vx_Met l yL_replace gwL_replace ({ frames := 9, cells := kc r0.1.2 - kc ν, slots := ks r0.1.2 - ks ν, locals := 270 } : Room) (cPh D E sz B (zS μ ν a Ad) [.ref (Ad 0 0), .int x1, .int x2, .int x3, .ref (Ad 90 0)]) (cQ D E sz (zS μ ν a Ad) [] (pI (fun r u => r = 0 ∧ ∃ A1, u = (zS (up3 r0.1.1.1 90 0 0 r0.2, r0.1.1.2) r0.1.2 a A1, []) ∧ kp ν Ad A1))) (fun _ _ _ => False) (kc r0.1.2 - kc ν) (ks r0.1.2 - ks ν) (Aof (zS μ ν a Ad) [] sz) := by
  intro D E sz
  refine g_ofH (cc := cL_replace) (maxL := 6) (ret := some .int) (hh := [(0, 12, 15, 23), (0, 12, 19, 25), (0, 12, 23, 13)]) (own := "TradeLineLaw") (by decide) rfl rfl (Nat.le_of_ble_eq_true rfl) ?_
  intro p e s m args below meth c C hr hT hz hEv hN
  refine g_vx ?_
  refine g_lv (lv' := [(0, .ref (Ad 0 0)), (1, .int x1), (2, .int x2), (3, .int x3), (4, .ref (Ad 90 0))]) [0, 1, 2, 3, 4] rfl ?_
  refine g_aload C dL_replace_0 4 rfl ?_
  refine g_iconst (v := 0) C dL_replace_2 (by decide) ?_
  refine g_aload_n C dL_replace_3 rfl 0 rfl ?_
  refine g_iload_n C dL_replace_4 rfl 1 rfl ?_
  refine g_iload_n C dL_replace_5 rfl 2 rfl ?_
  refine g_iload_n C dL_replace_6 rfl 3 rfl ?_
  refine g_cVie (n := 3) (exc := []) (exr := []) C hEv ⟨rfl, rfl⟩ [_, _, _] _ rfl rfl [] [] rfl rfl rfl rfl (fun _ h => absurd h (by simp)) (fun _ h => absurd h (by simp)) (fun _ h => absurd h (by simp)) (fun sz => c_X8_replace l B μ ν a Ad w x1 x2 x3 r0 h D E sz) rfl gw_1197 gw_1 gw_1194 gw_1195 gw_1196 ⟨by decide +kernel, by decide +kernel, by decide +kernel⟩ ⟨rfl, rfl⟩ ⟨Nat.le_of_ble_eq_true rfl, Nat.le_of_ble_eq_true rfl⟩ (rcvT ⟨h0, fun e => absurd e (by decide)⟩ rfl rfl rfl) (Nat.le_of_ble_eq_true rfl) dL_replace_7 ⟨by show 0 + (kc r0.1.2 - kc ν) ≤ kc r0.1.2 - kc ν; omega, by show 0 + (ks r0.1.2 - ks ν) ≤ ks r0.1.2 - ks ν; omega⟩ (fun r u hp hx => ?_)
  obtain ⟨er, A1, rfl, hkp⟩ := hp
  rw [er]
  try dsimp only [List.append_nil]
  have hm := m_X8_replace h
  have h9 : 0 < r0.1.2.2 90 ∧ r0.1.2.1 90 0 = 1 ∧ A1 90 0 = Ad 90 0 := ⟨by rw [(hm.2.2.2 90 (by decide) (by decide)).1]; exact h9.1, by rw [(hm.2.2.2 90 (by decide) (by decide)).2]; exact h9.2, hkp.1 90 0 rfl h9.1⟩
  refine g_widen (k := kc r0.1.2 - kc ν) (n := ks r0.1.2 - ks ν) (by omega) (by omega) ?_
  refine g_i2l C dL_replace_10 rfl ?_
  refine g_last C h9.2.2 ⟨h9.1, h9.2.1⟩ dL_replace_11 ?_
  refine g_goto (tgt := 27) C dL_replace_12 (by decide) ?_
  refine g_iconst (v := 0) C dL_replace_27 (by decide) ?_
  exact g_iret C hr rfl hz ⟨(hm.2.2.2 30 (by decide) (by decide)).1, (hm.2.2.2 31 (by decide) (by decide)).1, hkp.2.1, hkp.2.2⟩ ⟨rfl, A1, rfl, hkp⟩ (fun j x h => by simp at h) dL_replace_28
set_option maxHeartbeats 4000000 in
set_option maxRecDepth 100000 in
theorem e1_L_replace (l : Launch) (hl : l.stackTraces = false) (B : Nat × (Nat → Nat)) (μ : MP) (ν : NC) (a : AS) (Ad : Nat → Nat → Nat) (w : Nat) (x1 : Int32) (x2 : Int32) (x3 : Int32) (r0 : (MP × NC) × Int32) (h : f_X8_replace w μ ν x1 x2 x3 = some (1, r0)) (h0 : 0 < ν.2 0) (h9 : 0 < ν.2 90 ∧ ν.1 90 0 = 1) : ∀ D E sz, vx_Met l yL_replace gwL_replace ({ frames := 9, cells := 1, slots := 6, locals := 270 } : Room) (cPh D E sz B (zS μ ν a Ad) [.ref (Ad 0 0), .int x1, .int x2, .int x3, .ref (Ad 90 0)]) (cQ D E sz (zS μ ν a Ad) [] (pI (fun r u => r = 1 ∧ u = (zS μ ν a Ad, [])))) (fun _ _ _ => False) (1) (6) (Aof (zS μ ν a Ad) [] sz) := by
  intro D E sz
  refine g_ofH (cc := cL_replace) (maxL := 6) (ret := some .int) (hh := [(0, 12, 15, 23), (0, 12, 19, 25), (0, 12, 23, 13)]) (own := "TradeLineLaw") (by decide) rfl rfl (Nat.le_of_ble_eq_true rfl) ?_
  intro p e s m args below meth c C hr hT hz hEv hN
  refine g_lv (lv' := [(0, .ref (Ad 0 0)), (1, .int x1), (2, .int x2), (3, .int x3), (4, .ref (Ad 90 0))]) [0, 1, 2, 3, 4] rfl ?_
  refine g_aload C dL_replace_0 4 rfl ?_
  refine g_iconst (v := 0) C dL_replace_2 (by decide) ?_
  refine g_aload_n C dL_replace_3 rfl 0 rfl ?_
  refine g_iload_n C dL_replace_4 rfl 1 rfl ?_
  refine g_iload_n C dL_replace_5 rfl 2 rfl ?_
  refine g_iload_n C dL_replace_6 rfl 3 rfl ?_
  refine g_hc (n := 1) (index := 3) C hEv ⟨rfl, rfl⟩ hN [_, _, _] _ rfl rfl (fun sz => x_X8_replace l hl B μ ν a Ad w x1 x2 x3 0 r0 h D E sz) rfl gw_1197 gw_1 gw_1194 gw_1195 gw_1196 ⟨by decide +kernel, by decide +kernel, by decide +kernel⟩ ⟨rfl, rfl⟩ ⟨Nat.le_of_ble_eq_true rfl, Nat.le_of_ble_eq_true rfl⟩ (rcvT ⟨h0, fun e => absurd e (by decide)⟩ rfl rfl rfl) (Nat.le_of_ble_eq_true rfl) dL_replace_7 ⟨by decide, by decide⟩ [] ⟨0, 12, 15, 23⟩ [⟨0, 12, 19, 25⟩, ⟨0, 12, 23, 13⟩] hT (fun z hz => absurd hz (by simp)) (by decide) (by decide) gw_499 (by decide) rfl (fun q9 => ?_)
  refine g_astore (lv' := [(5, .ref q9), (0, .ref (Ad 0 0)), (1, .int x1), (2, .int x2), (3, .int x3), (4, .ref (Ad 90 0))]) C dL_replace_15 (by decide) rfl ?_
  refine g_iconst (v := 1) C dL_replace_17 (by decide) ?_
  refine g_vx ?_
  exact g_iret C hr rfl hz ⟨rfl, rfl, fun _ => rfl, fun _ => rfl⟩ ⟨rfl, rfl⟩ (fun j x h => by simp at h) dL_replace_18
set_option maxHeartbeats 4000000 in
set_option maxRecDepth 100000 in
theorem e2_L_replace (l : Launch) (hl : l.stackTraces = false) (B : Nat × (Nat → Nat)) (μ : MP) (ν : NC) (a : AS) (Ad : Nat → Nat → Nat) (w : Nat) (x1 : Int32) (x2 : Int32) (x3 : Int32) (r0 : (MP × NC) × Int32) (h : f_X8_replace w μ ν x1 x2 x3 = some (2, r0)) (h0 : 0 < ν.2 0) (h9 : 0 < ν.2 90 ∧ ν.1 90 0 = 1) : ∀ D E sz, vx_Met l yL_replace gwL_replace ({ frames := 9, cells := 1, slots := 6, locals := 270 } : Room) (cPh D E sz B (zS μ ν a Ad) [.ref (Ad 0 0), .int x1, .int x2, .int x3, .ref (Ad 90 0)]) (cQ D E sz (zS μ ν a Ad) [] (pI (fun r u => r = 2 ∧ u = (zS μ ν a Ad, [])))) (fun _ _ _ => False) (1) (6) (Aof (zS μ ν a Ad) [] sz) := by
  intro D E sz
  refine g_ofH (cc := cL_replace) (maxL := 6) (ret := some .int) (hh := [(0, 12, 15, 23), (0, 12, 19, 25), (0, 12, 23, 13)]) (own := "TradeLineLaw") (by decide) rfl rfl (Nat.le_of_ble_eq_true rfl) ?_
  intro p e s m args below meth c C hr hT hz hEv hN
  refine g_lv (lv' := [(0, .ref (Ad 0 0)), (1, .int x1), (2, .int x2), (3, .int x3), (4, .ref (Ad 90 0))]) [0, 1, 2, 3, 4] rfl ?_
  refine g_aload C dL_replace_0 4 rfl ?_
  refine g_iconst (v := 0) C dL_replace_2 (by decide) ?_
  refine g_aload_n C dL_replace_3 rfl 0 rfl ?_
  refine g_iload_n C dL_replace_4 rfl 1 rfl ?_
  refine g_iload_n C dL_replace_5 rfl 2 rfl ?_
  refine g_iload_n C dL_replace_6 rfl 3 rfl ?_
  refine g_hc (n := 2) (index := 3) C hEv ⟨rfl, rfl⟩ hN [_, _, _] _ rfl rfl (fun sz => x_X8_replace l hl B μ ν a Ad w x1 x2 x3 1 r0 h D E sz) rfl gw_1197 gw_1 gw_1194 gw_1195 gw_1196 ⟨by decide +kernel, by decide +kernel, by decide +kernel⟩ ⟨rfl, rfl⟩ ⟨Nat.le_of_ble_eq_true rfl, Nat.le_of_ble_eq_true rfl⟩ (rcvT ⟨h0, fun e => absurd e (by decide)⟩ rfl rfl rfl) (Nat.le_of_ble_eq_true rfl) dL_replace_7 ⟨by decide, by decide⟩ [⟨0, 12, 15, 23⟩] ⟨0, 12, 19, 25⟩ [⟨0, 12, 23, 13⟩] hT (fun z hz => by obtain rfl := List.mem_singleton.mp hz; exact ⟨by decide, exN 1, gw_499, by simp [eN]⟩) (by decide) (by decide) gw_500 (by decide) rfl (fun q9 => ?_)
  refine g_astore (lv' := [(5, .ref q9), (0, .ref (Ad 0 0)), (1, .int x1), (2, .int x2), (3, .int x3), (4, .ref (Ad 90 0))]) C dL_replace_19 (by decide) rfl ?_
  refine g_iconst (v := 2) C dL_replace_21 (by decide) ?_
  refine g_vx ?_
  exact g_iret C hr rfl hz ⟨rfl, rfl, fun _ => rfl, fun _ => rfl⟩ ⟨rfl, rfl⟩ (fun j x h => by simp at h) dL_replace_22
set_option maxHeartbeats 4000000 in
set_option maxRecDepth 100000 in
theorem e3_L_replace (l : Launch) (hl : l.stackTraces = false) (B : Nat × (Nat → Nat)) (μ : MP) (ν : NC) (a : AS) (Ad : Nat → Nat → Nat) (w : Nat) (x1 : Int32) (x2 : Int32) (x3 : Int32) (r0 : (MP × NC) × Int32) (h : f_X8_replace w μ ν x1 x2 x3 = some (3, r0)) (h0 : 0 < ν.2 0) (h9 : 0 < ν.2 90 ∧ ν.1 90 0 = 1) : ∀ D E sz, vx_Met l yL_replace gwL_replace ({ frames := 9, cells := 1, slots := 6, locals := 270 } : Room) (cPh D E sz B (zS μ ν a Ad) [.ref (Ad 0 0), .int x1, .int x2, .int x3, .ref (Ad 90 0)]) (cQ D E sz (zS μ ν a Ad) [] (pI (fun r u => r = 3 ∧ u = (zS μ ν a Ad, [])))) (fun _ _ _ => False) (1) (6) (Aof (zS μ ν a Ad) [] sz) := by
  intro D E sz
  refine g_ofH (cc := cL_replace) (maxL := 6) (ret := some .int) (hh := [(0, 12, 15, 23), (0, 12, 19, 25), (0, 12, 23, 13)]) (own := "TradeLineLaw") (by decide) rfl rfl (Nat.le_of_ble_eq_true rfl) ?_
  intro p e s m args below meth c C hr hT hz hEv hN
  refine g_lv (lv' := [(0, .ref (Ad 0 0)), (1, .int x1), (2, .int x2), (3, .int x3), (4, .ref (Ad 90 0))]) [0, 1, 2, 3, 4] rfl ?_
  refine g_aload C dL_replace_0 4 rfl ?_
  refine g_iconst (v := 0) C dL_replace_2 (by decide) ?_
  refine g_aload_n C dL_replace_3 rfl 0 rfl ?_
  refine g_iload_n C dL_replace_4 rfl 1 rfl ?_
  refine g_iload_n C dL_replace_5 rfl 2 rfl ?_
  refine g_iload_n C dL_replace_6 rfl 3 rfl ?_
  refine g_hc (n := 3) (index := 3) C hEv ⟨rfl, rfl⟩ hN [_, _, _] _ rfl rfl (fun sz => x_X8_replace l hl B μ ν a Ad w x1 x2 x3 2 r0 h D E sz) rfl gw_1197 gw_1 gw_1194 gw_1195 gw_1196 ⟨by decide +kernel, by decide +kernel, by decide +kernel⟩ ⟨rfl, rfl⟩ ⟨Nat.le_of_ble_eq_true rfl, Nat.le_of_ble_eq_true rfl⟩ (rcvT ⟨h0, fun e => absurd e (by decide)⟩ rfl rfl rfl) (Nat.le_of_ble_eq_true rfl) dL_replace_7 ⟨by decide, by decide⟩ [⟨0, 12, 15, 23⟩, ⟨0, 12, 19, 25⟩] ⟨0, 12, 23, 13⟩ [] hT (fun z hz => by
      rcases List.mem_cons.mp hz with rfl | hz
      · exact ⟨by decide, exN 1, gw_499, by simp [eN]⟩
      · obtain rfl := List.mem_singleton.mp hz; exact ⟨by decide, exN 2, gw_500, by simp [eN]⟩) (by decide) (by decide) gw_263 (by decide) rfl (fun q9 => ?_)
  refine g_astore (lv' := [(5, .ref q9), (0, .ref (Ad 0 0)), (1, .int x1), (2, .int x2), (3, .int x3), (4, .ref (Ad 90 0))]) C dL_replace_23 (by decide) rfl ?_
  refine g_iconst (v := 3) C dL_replace_25 (by decide) ?_
  refine g_vx ?_
  exact g_iret C hr rfl hz ⟨rfl, rfl, fun _ => rfl, fun _ => rfl⟩ ⟨rfl, rfl⟩ (fun j x h => by simp at h) dL_replace_26
set_option maxHeartbeats 4000000 in
set_option maxRecDepth 100000 in
theorem r_L_stateOf (l : Launch) (B : Nat × (Nat → Nat)) (μ : MP) (ν : NC) (a : AS) (Ad : Nat → Nat → Nat) (w : Nat) (x1 : Int32) (r0 : Int32) (h : f_X8_stateOf w μ ν x1 = some (0, r0)) (h0 : 0 < ν.2 0) (h9 : 0 < ν.2 90 ∧ ν.1 90 0 = 1) : ∀ D E sz, vx_Met l yL_stateOf gwL_stateOf ({ frames := 6, cells := 0, slots := 0, locals := 145 } : Room) (cPh D E sz B (zS μ ν a Ad) [.ref (Ad 0 0), .int x1, .ref (Ad 90 0)]) (cQ D E sz (zS μ ν a Ad) [] (pI (fun r u => r = 0 ∧ u = (zS (up3 μ.1 90 0 0 r0, μ.2) ν a Ad, [])))) (fun _ _ _ => False) (0) (0) (Aof (zS μ ν a Ad) [] sz) := by
  intro D E sz
  refine g_ofH (cc := cL_stateOf) (maxL := 4) (ret := some .int) (hh := [(0, 9, 12, 23)]) (own := "TradeLineLaw") (by decide) rfl rfl (Nat.le_of_ble_eq_true rfl) ?_
  intro p e s m args below meth c C hr hT hz hEv hN
  refine g_vx ?_
  refine g_lv (lv' := [(0, .ref (Ad 0 0)), (1, .int x1), (2, .ref (Ad 90 0))]) [0, 1, 2] rfl ?_
  refine g_aload_n C dL_stateOf_0 rfl 2 rfl ?_
  refine g_iconst (v := 0) C dL_stateOf_1 (by decide) ?_
  refine g_aload_n C dL_stateOf_2 rfl 0 rfl ?_
  refine g_iload_n C dL_stateOf_3 rfl 1 rfl ?_
  refine g_cVi (n := 1) (exc := []) (exr := []) C [_] _ rfl rfl [] [] rfl rfl rfl rfl (fun _ h => absurd h (by simp)) (fun _ h => absurd h (by simp)) (fun _ h => absurd h (by simp)) (fun sz => c_X8_stateOf l μ ν a Ad w x1 r0 h D E sz) rfl gw_1204 gw_1 gw_1201 gw_1202 gw_1203 ⟨by decide +kernel, by decide +kernel, by decide +kernel⟩ ⟨rfl, rfl⟩ ⟨Nat.le_of_ble_eq_true rfl, Nat.le_of_ble_eq_true rfl⟩ (rcvT ⟨h0, fun e => absurd e (by decide)⟩ rfl rfl rfl) (Nat.le_of_ble_eq_true rfl) dL_stateOf_4 ⟨by show 0 + (0) ≤ 0; omega, by show 0 + (0) ≤ 0; omega⟩ (fun r u hp hx => ?_)
  obtain ⟨er, rfl⟩ := hp
  rw [er]
  try dsimp only [List.append_nil]
  refine g_widen (k := 0) (n := 0) (by omega) (by omega) ?_
  refine g_i2l C dL_stateOf_7 rfl ?_
  refine g_last C rfl h9 dL_stateOf_8 ?_
  refine g_goto (tgt := 15) C dL_stateOf_9 (by decide) ?_
  refine g_iconst (v := 0) C dL_stateOf_15 (by decide) ?_
  exact g_iret C hr rfl hz ⟨rfl, rfl, fun _ => rfl, fun _ => rfl⟩ ⟨rfl, rfl⟩ (fun j x h => by simp at h) dL_stateOf_16
set_option maxHeartbeats 4000000 in
set_option maxRecDepth 100000 in
theorem e1_L_stateOf (l : Launch) (hl : l.stackTraces = false) (B : Nat × (Nat → Nat)) (μ : MP) (ν : NC) (a : AS) (Ad : Nat → Nat → Nat) (w : Nat) (x1 : Int32) (r0 : Int32) (h : f_X8_stateOf w μ ν x1 = some (1, r0)) (h0 : 0 < ν.2 0) (h9 : 0 < ν.2 90 ∧ ν.1 90 0 = 1) : ∀ D E sz, vx_Met l yL_stateOf gwL_stateOf ({ frames := 8, cells := 1, slots := 6, locals := 145 } : Room) (cPh D E sz B (zS μ ν a Ad) [.ref (Ad 0 0), .int x1, .ref (Ad 90 0)]) (cQ D E sz (zS μ ν a Ad) [] (pI (fun r u => r = 1 ∧ u = (zS μ ν a Ad, [])))) (fun _ _ _ => False) (1) (6) (Aof (zS μ ν a Ad) [] sz) := by
  intro D E sz
  refine g_ofH (cc := cL_stateOf) (maxL := 4) (ret := some .int) (hh := [(0, 9, 12, 23)]) (own := "TradeLineLaw") (by decide) rfl rfl (Nat.le_of_ble_eq_true rfl) ?_
  intro p e s m args below meth c C hr hT hz hEv hN
  refine g_lv (lv' := [(0, .ref (Ad 0 0)), (1, .int x1), (2, .ref (Ad 90 0))]) [0, 1, 2] rfl ?_
  refine g_aload_n C dL_stateOf_0 rfl 2 rfl ?_
  refine g_iconst (v := 0) C dL_stateOf_1 (by decide) ?_
  refine g_aload_n C dL_stateOf_2 rfl 0 rfl ?_
  refine g_iload_n C dL_stateOf_3 rfl 1 rfl ?_
  refine g_hc (n := 1) (index := 1) C hEv ⟨rfl, rfl⟩ hN [_] _ rfl rfl (fun sz => x_X8_stateOf l hl B μ ν a Ad w x1 0 r0 h D E sz) rfl gw_1204 gw_1 gw_1201 gw_1202 gw_1203 ⟨by decide +kernel, by decide +kernel, by decide +kernel⟩ ⟨rfl, rfl⟩ ⟨Nat.le_of_ble_eq_true rfl, Nat.le_of_ble_eq_true rfl⟩ (rcvT ⟨h0, fun e => absurd e (by decide)⟩ rfl rfl rfl) (Nat.le_of_ble_eq_true rfl) dL_stateOf_4 ⟨by decide, by decide⟩ [] ⟨0, 9, 12, 23⟩ [] hT (fun z hz => absurd hz (by simp)) (by decide) (by decide) gw_499 (by decide) rfl (fun q9 => ?_)
  refine g_astore_n (lv' := [(3, .ref q9), (0, .ref (Ad 0 0)), (1, .int x1), (2, .ref (Ad 90 0))]) C dL_stateOf_12 rfl (by decide) rfl ?_
  refine g_iconst (v := 1) C dL_stateOf_13 (by decide) ?_
  refine g_vx ?_
  exact g_iret C hr rfl hz ⟨rfl, rfl, fun _ => rfl, fun _ => rfl⟩ ⟨rfl, rfl⟩ (fun j x h => by simp at h) dL_stateOf_14
set_option maxHeartbeats 4000000 in
set_option maxRecDepth 100000 in
theorem r_L_isLeftOut (l : Launch) (B : Nat × (Nat → Nat)) (μ : MP) (ν : NC) (a : AS) (Ad : Nat → Nat → Nat) (w : Nat) (x1 : Int32) (r0 : Int32) (h : f_X8_isLeftOut w μ ν x1 = some (0, r0)) (h0 : 0 < ν.2 0) (h9 : 0 < ν.2 90 ∧ ν.1 90 0 = 1) : ∀ D E sz, vx_Met l yL_isLeftOut gwL_isLeftOut ({ frames := 6, cells := 0, slots := 0, locals := 146 } : Room) (cPh D E sz B (zS μ ν a Ad) [.ref (Ad 0 0), .int x1, .ref (Ad 90 0)]) (cQ D E sz (zS μ ν a Ad) [] (pI (fun r u => r = 0 ∧ u = (zS (up3 μ.1 90 0 0 (if r0 = 0 then 0 else 1 : Int32), μ.2) ν a Ad, [])))) (fun _ _ _ => False) (0) (0) (Aof (zS μ ν a Ad) [] sz) := by
  intro D E sz
  refine g_ofH (cc := cL_isLeftOut) (maxL := 4) (ret := some .int) (hh := [(0, 16, 19, 23)]) (own := "TradeLineLaw") (by decide) rfl rfl (Nat.le_of_ble_eq_true rfl) ?_
  intro p e s m args below meth c C hr hT hz hEv hN
  refine g_vx ?_
  refine g_lv (lv' := [(0, .ref (Ad 0 0)), (1, .int x1), (2, .ref (Ad 90 0))]) [0, 1, 2] rfl ?_
  refine g_aload_n C dL_isLeftOut_0 rfl 2 rfl ?_
  refine g_iconst (v := 0) C dL_isLeftOut_1 (by decide) ?_
  refine g_aload_n C dL_isLeftOut_2 rfl 0 rfl ?_
  refine g_iload_n C dL_isLeftOut_3 rfl 1 rfl ?_
  refine g_cVi (n := 1) (exc := []) (exr := []) C [_] _ rfl rfl [] [] rfl rfl rfl rfl (fun _ h => absurd h (by simp)) (fun _ h => absurd h (by simp)) (fun _ h => absurd h (by simp)) (fun sz => c_X8_isLeftOut l μ ν a Ad w x1 r0 h D E sz) rfl gw_1211 gw_1 gw_1208 gw_1209 gw_1210 ⟨by decide +kernel, by decide +kernel, by decide +kernel⟩ ⟨rfl, rfl⟩ ⟨Nat.le_of_ble_eq_true rfl, Nat.le_of_ble_eq_true rfl⟩ (rcvT ⟨h0, fun e => absurd e (by decide)⟩ rfl rfl rfl) (Nat.le_of_ble_eq_true rfl) dL_isLeftOut_4 ⟨by show 0 + (0) ≤ 0; omega, by show 0 + (0) ≤ 0; omega⟩ (fun r u hp hx => ?_)
  obtain ⟨er, rfl⟩ := hp
  rw [er]
  try dsimp only [List.append_nil]
  refine g_widen (k := 0) (n := 0) (by omega) (by omega) ?_
  refine g_if_eq (tgt := 14) C dL_isLeftOut_7 (by decide) (fun c1 => ?_) (fun c1 => ?_)
  · rw [if_pos c1]
    refine g_lconst (v := (Int32.toInt64 0)) C dL_isLeftOut_14 (by decide) ?_
    refine g_last C rfl h9 dL_isLeftOut_15 ?_
    refine g_goto (tgt := 22) C dL_isLeftOut_16 (by decide) ?_
    refine g_iconst (v := 0) C dL_isLeftOut_22 (by decide) ?_
    exact g_iret C hr rfl hz ⟨rfl, rfl, fun _ => rfl, fun _ => rfl⟩ ⟨rfl, rfl⟩ (fun j x h => by simp at h) dL_isLeftOut_23
  · rw [if_neg c1]
    refine g_lconst (v := (Int32.toInt64 1)) C dL_isLeftOut_10 (by decide) ?_
    refine g_goto (tgt := 15) C dL_isLeftOut_11 (by decide) ?_
    refine g_last C rfl h9 dL_isLeftOut_15 ?_
    refine g_goto (tgt := 22) C dL_isLeftOut_16 (by decide) ?_
    refine g_iconst (v := 0) C dL_isLeftOut_22 (by decide) ?_
    exact g_iret C hr rfl hz ⟨rfl, rfl, fun _ => rfl, fun _ => rfl⟩ ⟨rfl, rfl⟩ (fun j x h => by simp at h) dL_isLeftOut_23
set_option maxHeartbeats 4000000 in
set_option maxRecDepth 100000 in
theorem e1_L_isLeftOut (l : Launch) (hl : l.stackTraces = false) (B : Nat × (Nat → Nat)) (μ : MP) (ν : NC) (a : AS) (Ad : Nat → Nat → Nat) (w : Nat) (x1 : Int32) (r0 : Int32) (h : f_X8_isLeftOut w μ ν x1 = some (1, r0)) (h0 : 0 < ν.2 0) (h9 : 0 < ν.2 90 ∧ ν.1 90 0 = 1) : ∀ D E sz, vx_Met l yL_isLeftOut gwL_isLeftOut ({ frames := 8, cells := 1, slots := 6, locals := 146 } : Room) (cPh D E sz B (zS μ ν a Ad) [.ref (Ad 0 0), .int x1, .ref (Ad 90 0)]) (cQ D E sz (zS μ ν a Ad) [] (pI (fun r u => r = 1 ∧ u = (zS μ ν a Ad, [])))) (fun _ _ _ => False) (1) (6) (Aof (zS μ ν a Ad) [] sz) := by
  intro D E sz
  refine g_ofH (cc := cL_isLeftOut) (maxL := 4) (ret := some .int) (hh := [(0, 16, 19, 23)]) (own := "TradeLineLaw") (by decide) rfl rfl (Nat.le_of_ble_eq_true rfl) ?_
  intro p e s m args below meth c C hr hT hz hEv hN
  refine g_lv (lv' := [(0, .ref (Ad 0 0)), (1, .int x1), (2, .ref (Ad 90 0))]) [0, 1, 2] rfl ?_
  refine g_aload_n C dL_isLeftOut_0 rfl 2 rfl ?_
  refine g_iconst (v := 0) C dL_isLeftOut_1 (by decide) ?_
  refine g_aload_n C dL_isLeftOut_2 rfl 0 rfl ?_
  refine g_iload_n C dL_isLeftOut_3 rfl 1 rfl ?_
  refine g_hc (n := 1) (index := 1) C hEv ⟨rfl, rfl⟩ hN [_] _ rfl rfl (fun sz => x_X8_isLeftOut l hl B μ ν a Ad w x1 0 r0 h D E sz) rfl gw_1211 gw_1 gw_1208 gw_1209 gw_1210 ⟨by decide +kernel, by decide +kernel, by decide +kernel⟩ ⟨rfl, rfl⟩ ⟨Nat.le_of_ble_eq_true rfl, Nat.le_of_ble_eq_true rfl⟩ (rcvT ⟨h0, fun e => absurd e (by decide)⟩ rfl rfl rfl) (Nat.le_of_ble_eq_true rfl) dL_isLeftOut_4 ⟨by decide, by decide⟩ [] ⟨0, 16, 19, 23⟩ [] hT (fun z hz => absurd hz (by simp)) (by decide) (by decide) gw_499 (by decide) rfl (fun q9 => ?_)
  refine g_astore_n (lv' := [(3, .ref q9), (0, .ref (Ad 0 0)), (1, .int x1), (2, .ref (Ad 90 0))]) C dL_isLeftOut_19 rfl (by decide) rfl ?_
  refine g_iconst (v := 1) C dL_isLeftOut_20 (by decide) ?_
  refine g_vx ?_
  exact g_iret C hr rfl hz ⟨rfl, rfl, fun _ => rfl, fun _ => rfl⟩ ⟨rfl, rfl⟩ (fun j x h => by simp at h) dL_isLeftOut_21
set_option maxHeartbeats 4000000 in
set_option maxRecDepth 100000 in
theorem r_L_underWay (l : Launch) (B : Nat × (Nat → Nat)) (μ : MP) (ν : NC) (a : AS) (Ad : Nat → Nat → Nat) (w : Nat) (x1 : Int32) (r0 : Int32) (h : f_X8_underWay w μ ν x1 = some (0, r0)) (h0 : 0 < ν.2 0) (h9 : 0 < ν.2 90 ∧ ν.1 90 0 = 1) : ∀ D E sz, vx_Met l yL_underWay gwL_underWay ({ frames := 6, cells := 0, slots := 0, locals := 145 } : Room) (cPh D E sz B (zS μ ν a Ad) [.ref (Ad 0 0), .int x1, .ref (Ad 90 0)]) (cQ D E sz (zS μ ν a Ad) [] (pI (fun r u => r = 0 ∧ u = (zS (up3 μ.1 90 0 0 r0, μ.2) ν a Ad, [])))) (fun _ _ _ => False) (0) (0) (Aof (zS μ ν a Ad) [] sz) := by
  intro D E sz
  refine g_ofH (cc := cL_underWay) (maxL := 4) (ret := some .int) (hh := [(0, 9, 12, 23)]) (own := "TradeLineLaw") (by decide) rfl rfl (Nat.le_of_ble_eq_true rfl) ?_
  intro p e s m args below meth c C hr hT hz hEv hN
  refine g_vx ?_
  refine g_lv (lv' := [(0, .ref (Ad 0 0)), (1, .int x1), (2, .ref (Ad 90 0))]) [0, 1, 2] rfl ?_
  refine g_aload_n C dL_underWay_0 rfl 2 rfl ?_
  refine g_iconst (v := 0) C dL_underWay_1 (by decide) ?_
  refine g_aload_n C dL_underWay_2 rfl 0 rfl ?_
  refine g_iload_n C dL_underWay_3 rfl 1 rfl ?_
  refine g_cVi (n := 1) (exc := []) (exr := []) C [_] _ rfl rfl [] [] rfl rfl rfl rfl (fun _ h => absurd h (by simp)) (fun _ h => absurd h (by simp)) (fun _ h => absurd h (by simp)) (fun sz => c_X8_underWay l μ ν a Ad w x1 r0 h D E sz) rfl gw_1218 gw_1 gw_1215 gw_1216 gw_1217 ⟨by decide +kernel, by decide +kernel, by decide +kernel⟩ ⟨rfl, rfl⟩ ⟨Nat.le_of_ble_eq_true rfl, Nat.le_of_ble_eq_true rfl⟩ (rcvT ⟨h0, fun e => absurd e (by decide)⟩ rfl rfl rfl) (Nat.le_of_ble_eq_true rfl) dL_underWay_4 ⟨by show 0 + (0) ≤ 0; omega, by show 0 + (0) ≤ 0; omega⟩ (fun r u hp hx => ?_)
  obtain ⟨er, rfl⟩ := hp
  rw [er]
  try dsimp only [List.append_nil]
  refine g_widen (k := 0) (n := 0) (by omega) (by omega) ?_
  refine g_i2l C dL_underWay_7 rfl ?_
  refine g_last C rfl h9 dL_underWay_8 ?_
  refine g_goto (tgt := 15) C dL_underWay_9 (by decide) ?_
  refine g_iconst (v := 0) C dL_underWay_15 (by decide) ?_
  exact g_iret C hr rfl hz ⟨rfl, rfl, fun _ => rfl, fun _ => rfl⟩ ⟨rfl, rfl⟩ (fun j x h => by simp at h) dL_underWay_16
set_option maxHeartbeats 4000000 in
set_option maxRecDepth 100000 in
theorem e1_L_underWay (l : Launch) (hl : l.stackTraces = false) (B : Nat × (Nat → Nat)) (μ : MP) (ν : NC) (a : AS) (Ad : Nat → Nat → Nat) (w : Nat) (x1 : Int32) (r0 : Int32) (h : f_X8_underWay w μ ν x1 = some (1, r0)) (h0 : 0 < ν.2 0) (h9 : 0 < ν.2 90 ∧ ν.1 90 0 = 1) : ∀ D E sz, vx_Met l yL_underWay gwL_underWay ({ frames := 8, cells := 1, slots := 6, locals := 145 } : Room) (cPh D E sz B (zS μ ν a Ad) [.ref (Ad 0 0), .int x1, .ref (Ad 90 0)]) (cQ D E sz (zS μ ν a Ad) [] (pI (fun r u => r = 1 ∧ u = (zS μ ν a Ad, [])))) (fun _ _ _ => False) (1) (6) (Aof (zS μ ν a Ad) [] sz) := by
  intro D E sz
  refine g_ofH (cc := cL_underWay) (maxL := 4) (ret := some .int) (hh := [(0, 9, 12, 23)]) (own := "TradeLineLaw") (by decide) rfl rfl (Nat.le_of_ble_eq_true rfl) ?_
  intro p e s m args below meth c C hr hT hz hEv hN
  refine g_lv (lv' := [(0, .ref (Ad 0 0)), (1, .int x1), (2, .ref (Ad 90 0))]) [0, 1, 2] rfl ?_
  refine g_aload_n C dL_underWay_0 rfl 2 rfl ?_
  refine g_iconst (v := 0) C dL_underWay_1 (by decide) ?_
  refine g_aload_n C dL_underWay_2 rfl 0 rfl ?_
  refine g_iload_n C dL_underWay_3 rfl 1 rfl ?_
  refine g_hc (n := 1) (index := 1) C hEv ⟨rfl, rfl⟩ hN [_] _ rfl rfl (fun sz => x_X8_underWay l hl B μ ν a Ad w x1 0 r0 h D E sz) rfl gw_1218 gw_1 gw_1215 gw_1216 gw_1217 ⟨by decide +kernel, by decide +kernel, by decide +kernel⟩ ⟨rfl, rfl⟩ ⟨Nat.le_of_ble_eq_true rfl, Nat.le_of_ble_eq_true rfl⟩ (rcvT ⟨h0, fun e => absurd e (by decide)⟩ rfl rfl rfl) (Nat.le_of_ble_eq_true rfl) dL_underWay_4 ⟨by decide, by decide⟩ [] ⟨0, 9, 12, 23⟩ [] hT (fun z hz => absurd hz (by simp)) (by decide) (by decide) gw_499 (by decide) rfl (fun q9 => ?_)
  refine g_astore_n (lv' := [(3, .ref q9), (0, .ref (Ad 0 0)), (1, .int x1), (2, .ref (Ad 90 0))]) C dL_underWay_12 rfl (by decide) rfl ?_
  refine g_iconst (v := 1) C dL_underWay_13 (by decide) ?_
  refine g_vx ?_
  exact g_iret C hr rfl hz ⟨rfl, rfl, fun _ => rfl, fun _ => rfl⟩ ⟨rfl, rfl⟩ (fun j x h => by simp at h) dL_underWay_14
set_option maxHeartbeats 4000000 in
set_option maxRecDepth 100000 in
theorem r_L_quote (l : Launch) (B : Nat × (Nat → Nat)) (μ : MP) (ν : NC) (a : AS) (Ad : Nat → Nat → Nat) (w : Nat) (x1 : Int32) (x2 : Int32) (x3 : Int32) (x4 : Int32) (r0 : (MP × NC) × Int32) (h : f_X8_quote w μ ν x1 x2 x3 x4 = some (0, r0)) (h0 : 0 < ν.2 0) (h9 : 0 < ν.2 90 ∧ ν.1 90 0 = 1) : ∀ D E sz, vx_Met l yL_quote gwL_quote ({ frames := 10, cells := kc r0.1.2 - kc ν, slots := ks r0.1.2 - ks ν, locals := 299 } : Room) (cPh D E sz B (zS μ ν a Ad) [.ref (Ad 0 0), .int x1, .int x2, .int x3, .int x4, .ref (Ad 90 0)]) (cQ D E sz (zS μ ν a Ad) [] (pI (fun r u => r = 0 ∧ ∃ A1, u = (zS (up3 r0.1.1.1 90 0 0 r0.2, r0.1.1.2) r0.1.2 a A1, []) ∧ kp ν Ad A1))) (fun _ _ _ => False) (kc r0.1.2 - kc ν) (ks r0.1.2 - ks ν) (Aof (zS μ ν a Ad) [] sz) := by
  intro D E sz
  refine g_ofH (cc := cL_quote) (maxL := 7) (ret := some .int) (hh := [(0, 14, 17, 23), (0, 14, 21, 25)]) (own := "TradeLineLaw") (by decide) rfl rfl (Nat.le_of_ble_eq_true rfl) ?_
  intro p e s m args below meth c C hr hT hz hEv hN
  refine g_vx ?_
  refine g_lv (lv' := [(0, .ref (Ad 0 0)), (1, .int x1), (2, .int x2), (3, .int x3), (4, .int x4), (5, .ref (Ad 90 0))]) [0, 1, 2, 3, 4, 5] rfl ?_
  refine g_aload C dL_quote_0 5 rfl ?_
  refine g_iconst (v := 0) C dL_quote_2 (by decide) ?_
  refine g_aload_n C dL_quote_3 rfl 0 rfl ?_
  refine g_iload_n C dL_quote_4 rfl 1 rfl ?_
  refine g_iload_n C dL_quote_5 rfl 2 rfl ?_
  refine g_iload_n C dL_quote_6 rfl 3 rfl ?_
  refine g_iload C dL_quote_7 4 rfl ?_
  refine g_cVie (n := 4) (exc := []) (exr := []) C hEv ⟨rfl, rfl⟩ [_, _, _, _] _ rfl rfl [] [] rfl rfl rfl rfl (fun _ h => absurd h (by simp)) (fun _ h => absurd h (by simp)) (fun _ h => absurd h (by simp)) (fun sz => c_X8_quote l B μ ν a Ad w x1 x2 x3 x4 r0 h D E sz) rfl gw_1225 gw_1 gw_1222 gw_1223 gw_1224 ⟨by decide +kernel, by decide +kernel, by decide +kernel⟩ ⟨rfl, rfl⟩ ⟨Nat.le_of_ble_eq_true rfl, Nat.le_of_ble_eq_true rfl⟩ (rcvT ⟨h0, fun e => absurd e (by decide)⟩ rfl rfl rfl) (Nat.le_of_ble_eq_true rfl) dL_quote_9 ⟨by show 0 + (kc r0.1.2 - kc ν) ≤ kc r0.1.2 - kc ν; omega, by show 0 + (ks r0.1.2 - ks ν) ≤ ks r0.1.2 - ks ν; omega⟩ (fun r u hp hx => ?_)
  obtain ⟨er, A1, rfl, hkp⟩ := hp
  rw [er]
  try dsimp only [List.append_nil]
  have hm := m_X8_quote h
  have h9 : 0 < r0.1.2.2 90 ∧ r0.1.2.1 90 0 = 1 ∧ A1 90 0 = Ad 90 0 := ⟨by rw [(hm.2.2.2 90 (by decide) (by decide)).1]; exact h9.1, by rw [(hm.2.2.2 90 (by decide) (by decide)).2]; exact h9.2, hkp.1 90 0 rfl h9.1⟩
  refine g_widen (k := kc r0.1.2 - kc ν) (n := ks r0.1.2 - ks ν) (by omega) (by omega) ?_
  refine g_i2l C dL_quote_12 rfl ?_
  refine g_last C h9.2.2 ⟨h9.1, h9.2.1⟩ dL_quote_13 ?_
  refine g_goto (tgt := 25) C dL_quote_14 (by decide) ?_
  refine g_iconst (v := 0) C dL_quote_25 (by decide) ?_
  exact g_iret C hr rfl hz ⟨(hm.2.2.2 30 (by decide) (by decide)).1, (hm.2.2.2 31 (by decide) (by decide)).1, hkp.2.1, hkp.2.2⟩ ⟨rfl, A1, rfl, hkp⟩ (fun j x h => by simp at h) dL_quote_26
set_option maxHeartbeats 4000000 in
set_option maxRecDepth 100000 in
theorem e1_L_quote (l : Launch) (hl : l.stackTraces = false) (B : Nat × (Nat → Nat)) (μ : MP) (ν : NC) (a : AS) (Ad : Nat → Nat → Nat) (w : Nat) (x1 : Int32) (x2 : Int32) (x3 : Int32) (x4 : Int32) (r0 : (MP × NC) × Int32) (h : f_X8_quote w μ ν x1 x2 x3 x4 = some (1, r0)) (h0 : 0 < ν.2 0) (h9 : 0 < ν.2 90 ∧ ν.1 90 0 = 1) : ∀ D E sz, vx_Met l yL_quote gwL_quote ({ frames := 10, cells := 1, slots := 6, locals := 299 } : Room) (cPh D E sz B (zS μ ν a Ad) [.ref (Ad 0 0), .int x1, .int x2, .int x3, .int x4, .ref (Ad 90 0)]) (cQ D E sz (zS μ ν a Ad) [] (pI (fun r u => r = 1 ∧ u = (zS μ ν a Ad, [])))) (fun _ _ _ => False) (1) (6) (Aof (zS μ ν a Ad) [] sz) := by
  intro D E sz
  refine g_ofH (cc := cL_quote) (maxL := 7) (ret := some .int) (hh := [(0, 14, 17, 23), (0, 14, 21, 25)]) (own := "TradeLineLaw") (by decide) rfl rfl (Nat.le_of_ble_eq_true rfl) ?_
  intro p e s m args below meth c C hr hT hz hEv hN
  refine g_lv (lv' := [(0, .ref (Ad 0 0)), (1, .int x1), (2, .int x2), (3, .int x3), (4, .int x4), (5, .ref (Ad 90 0))]) [0, 1, 2, 3, 4, 5] rfl ?_
  refine g_aload C dL_quote_0 5 rfl ?_
  refine g_iconst (v := 0) C dL_quote_2 (by decide) ?_
  refine g_aload_n C dL_quote_3 rfl 0 rfl ?_
  refine g_iload_n C dL_quote_4 rfl 1 rfl ?_
  refine g_iload_n C dL_quote_5 rfl 2 rfl ?_
  refine g_iload_n C dL_quote_6 rfl 3 rfl ?_
  refine g_iload C dL_quote_7 4 rfl ?_
  refine g_hc (n := 1) (index := 4) C hEv ⟨rfl, rfl⟩ hN [_, _, _, _] _ rfl rfl (fun sz => x_X8_quote l hl B μ ν a Ad w x1 x2 x3 x4 0 r0 h D E sz) rfl gw_1225 gw_1 gw_1222 gw_1223 gw_1224 ⟨by decide +kernel, by decide +kernel, by decide +kernel⟩ ⟨rfl, rfl⟩ ⟨Nat.le_of_ble_eq_true rfl, Nat.le_of_ble_eq_true rfl⟩ (rcvT ⟨h0, fun e => absurd e (by decide)⟩ rfl rfl rfl) (Nat.le_of_ble_eq_true rfl) dL_quote_9 ⟨by decide, by decide⟩ [] ⟨0, 14, 17, 23⟩ [⟨0, 14, 21, 25⟩] hT (fun z hz => absurd hz (by simp)) (by decide) (by decide) gw_499 (by decide) rfl (fun q9 => ?_)
  refine g_astore (lv' := [(6, .ref q9), (0, .ref (Ad 0 0)), (1, .int x1), (2, .int x2), (3, .int x3), (4, .int x4), (5, .ref (Ad 90 0))]) C dL_quote_17 (by decide) rfl ?_
  refine g_iconst (v := 1) C dL_quote_19 (by decide) ?_
  refine g_vx ?_
  exact g_iret C hr rfl hz ⟨rfl, rfl, fun _ => rfl, fun _ => rfl⟩ ⟨rfl, rfl⟩ (fun j x h => by simp at h) dL_quote_20
set_option maxHeartbeats 4000000 in
set_option maxRecDepth 100000 in
theorem e2_L_quote (l : Launch) (hl : l.stackTraces = false) (B : Nat × (Nat → Nat)) (μ : MP) (ν : NC) (a : AS) (Ad : Nat → Nat → Nat) (w : Nat) (x1 : Int32) (x2 : Int32) (x3 : Int32) (x4 : Int32) (r0 : (MP × NC) × Int32) (h : f_X8_quote w μ ν x1 x2 x3 x4 = some (2, r0)) (h0 : 0 < ν.2 0) (h9 : 0 < ν.2 90 ∧ ν.1 90 0 = 1) : ∀ D E sz, vx_Met l yL_quote gwL_quote ({ frames := 10, cells := 1, slots := 6, locals := 299 } : Room) (cPh D E sz B (zS μ ν a Ad) [.ref (Ad 0 0), .int x1, .int x2, .int x3, .int x4, .ref (Ad 90 0)]) (cQ D E sz (zS μ ν a Ad) [] (pI (fun r u => r = 2 ∧ u = (zS μ ν a Ad, [])))) (fun _ _ _ => False) (1) (6) (Aof (zS μ ν a Ad) [] sz) := by
  intro D E sz
  refine g_ofH (cc := cL_quote) (maxL := 7) (ret := some .int) (hh := [(0, 14, 17, 23), (0, 14, 21, 25)]) (own := "TradeLineLaw") (by decide) rfl rfl (Nat.le_of_ble_eq_true rfl) ?_
  intro p e s m args below meth c C hr hT hz hEv hN
  refine g_lv (lv' := [(0, .ref (Ad 0 0)), (1, .int x1), (2, .int x2), (3, .int x3), (4, .int x4), (5, .ref (Ad 90 0))]) [0, 1, 2, 3, 4, 5] rfl ?_
  refine g_aload C dL_quote_0 5 rfl ?_
  refine g_iconst (v := 0) C dL_quote_2 (by decide) ?_
  refine g_aload_n C dL_quote_3 rfl 0 rfl ?_
  refine g_iload_n C dL_quote_4 rfl 1 rfl ?_
  refine g_iload_n C dL_quote_5 rfl 2 rfl ?_
  refine g_iload_n C dL_quote_6 rfl 3 rfl ?_
  refine g_iload C dL_quote_7 4 rfl ?_
  refine g_hc (n := 2) (index := 4) C hEv ⟨rfl, rfl⟩ hN [_, _, _, _] _ rfl rfl (fun sz => x_X8_quote l hl B μ ν a Ad w x1 x2 x3 x4 1 r0 h D E sz) rfl gw_1225 gw_1 gw_1222 gw_1223 gw_1224 ⟨by decide +kernel, by decide +kernel, by decide +kernel⟩ ⟨rfl, rfl⟩ ⟨Nat.le_of_ble_eq_true rfl, Nat.le_of_ble_eq_true rfl⟩ (rcvT ⟨h0, fun e => absurd e (by decide)⟩ rfl rfl rfl) (Nat.le_of_ble_eq_true rfl) dL_quote_9 ⟨by decide, by decide⟩ [⟨0, 14, 17, 23⟩] ⟨0, 14, 21, 25⟩ [] hT (fun z hz => by obtain rfl := List.mem_singleton.mp hz; exact ⟨by decide, exN 1, gw_499, by simp [eN]⟩) (by decide) (by decide) gw_500 (by decide) rfl (fun q9 => ?_)
  refine g_astore (lv' := [(6, .ref q9), (0, .ref (Ad 0 0)), (1, .int x1), (2, .int x2), (3, .int x3), (4, .int x4), (5, .ref (Ad 90 0))]) C dL_quote_21 (by decide) rfl ?_
  refine g_iconst (v := 2) C dL_quote_23 (by decide) ?_
  refine g_vx ?_
  exact g_iret C hr rfl hz ⟨rfl, rfl, fun _ => rfl, fun _ => rfl⟩ ⟨rfl, rfl⟩ (fun j x h => by simp at h) dL_quote_24
set_option maxHeartbeats 4000000 in
set_option maxRecDepth 100000 in
theorem r_L_quoted (l : Launch) (B : Nat × (Nat → Nat)) (μ : MP) (ν : NC) (a : AS) (Ad : Nat → Nat → Nat) (w : Nat) (x1 : Int32) (x2 : Int32) (r0 : Int32) (h : f_X8_quoted w μ ν x1 x2 = some (0, r0)) (h0 : 0 < ν.2 0) (h9 : 0 < ν.2 90 ∧ ν.1 90 0 = 1) : ∀ D E sz, vx_Met l yL_quoted gwL_quoted ({ frames := 3, cells := 0, slots := 0, locals := 66 } : Room) (cPh D E sz B (zS μ ν a Ad) [.ref (Ad 0 0), .int x1, .int x2, .ref (Ad 90 0)]) (cQ D E sz (zS μ ν a Ad) [] (pI (fun r u => r = 0 ∧ u = (zS (up3 μ.1 90 0 0 r0, μ.2) ν a Ad, [])))) (fun _ _ _ => False) (0) (0) (Aof (zS μ ν a Ad) [] sz) := by
  intro D E sz
  refine g_ofH (cc := cL_quoted) (maxL := 5) (ret := some .int) (hh := [(0, 10, 13, 23)]) (own := "TradeLineLaw") (by decide) rfl rfl (Nat.le_of_ble_eq_true rfl) ?_
  intro p e s m args below meth c C hr hT hz hEv hN
  refine g_vx ?_
  refine g_lv (lv' := [(0, .ref (Ad 0 0)), (1, .int x1), (2, .int x2), (3, .ref (Ad 90 0))]) [0, 1, 2, 3] rfl ?_
  refine g_aload_n C dL_quoted_0 rfl 3 rfl ?_
  refine g_iconst (v := 0) C dL_quoted_1 (by decide) ?_
  refine g_aload_n C dL_quoted_2 rfl 0 rfl ?_
  refine g_iload_n C dL_quoted_3 rfl 1 rfl ?_
  refine g_iload_n C dL_quoted_4 rfl 2 rfl ?_
  refine g_cVi (n := 2) (exc := []) (exr := []) C [_, _] _ rfl rfl [] [] rfl rfl rfl rfl (fun _ h => absurd h (by simp)) (fun _ h => absurd h (by simp)) (fun _ h => absurd h (by simp)) (fun sz => c_X8_quoted l μ ν a Ad w x1 x2 r0 h D E sz) rfl gw_1237 gw_1 gw_1234 gw_1235 gw_1236 ⟨by decide +kernel, by decide +kernel, by decide +kernel⟩ ⟨rfl, rfl⟩ ⟨Nat.le_of_ble_eq_true rfl, Nat.le_of_ble_eq_true rfl⟩ (rcvT ⟨h0, fun e => absurd e (by decide)⟩ rfl rfl rfl) (Nat.le_of_ble_eq_true rfl) dL_quoted_5 ⟨by show 0 + (0) ≤ 0; omega, by show 0 + (0) ≤ 0; omega⟩ (fun r u hp hx => ?_)
  obtain ⟨er, rfl⟩ := hp
  rw [er]
  try dsimp only [List.append_nil]
  refine g_widen (k := 0) (n := 0) (by omega) (by omega) ?_
  refine g_i2l C dL_quoted_8 rfl ?_
  refine g_last C rfl h9 dL_quoted_9 ?_
  refine g_goto (tgt := 17) C dL_quoted_10 (by decide) ?_
  refine g_iconst (v := 0) C dL_quoted_17 (by decide) ?_
  exact g_iret C hr rfl hz ⟨rfl, rfl, fun _ => rfl, fun _ => rfl⟩ ⟨rfl, rfl⟩ (fun j x h => by simp at h) dL_quoted_18
set_option maxHeartbeats 4000000 in
set_option maxRecDepth 100000 in
theorem e1_L_quoted (l : Launch) (hl : l.stackTraces = false) (B : Nat × (Nat → Nat)) (μ : MP) (ν : NC) (a : AS) (Ad : Nat → Nat → Nat) (w : Nat) (x1 : Int32) (x2 : Int32) (r0 : Int32) (h : f_X8_quoted w μ ν x1 x2 = some (1, r0)) (h0 : 0 < ν.2 0) (h9 : 0 < ν.2 90 ∧ ν.1 90 0 = 1) : ∀ D E sz, vx_Met l yL_quoted gwL_quoted ({ frames := 8, cells := 1, slots := 6, locals := 145 } : Room) (cPh D E sz B (zS μ ν a Ad) [.ref (Ad 0 0), .int x1, .int x2, .ref (Ad 90 0)]) (cQ D E sz (zS μ ν a Ad) [] (pI (fun r u => r = 1 ∧ u = (zS μ ν a Ad, [])))) (fun _ _ _ => False) (1) (6) (Aof (zS μ ν a Ad) [] sz) := by
  intro D E sz
  refine g_ofH (cc := cL_quoted) (maxL := 5) (ret := some .int) (hh := [(0, 10, 13, 23)]) (own := "TradeLineLaw") (by decide) rfl rfl (Nat.le_of_ble_eq_true rfl) ?_
  intro p e s m args below meth c C hr hT hz hEv hN
  refine g_lv (lv' := [(0, .ref (Ad 0 0)), (1, .int x1), (2, .int x2), (3, .ref (Ad 90 0))]) [0, 1, 2, 3] rfl ?_
  refine g_aload_n C dL_quoted_0 rfl 3 rfl ?_
  refine g_iconst (v := 0) C dL_quoted_1 (by decide) ?_
  refine g_aload_n C dL_quoted_2 rfl 0 rfl ?_
  refine g_iload_n C dL_quoted_3 rfl 1 rfl ?_
  refine g_iload_n C dL_quoted_4 rfl 2 rfl ?_
  refine g_hc (n := 1) (index := 2) C hEv ⟨rfl, rfl⟩ hN [_, _] _ rfl rfl (fun sz => x_X8_quoted l hl B μ ν a Ad w x1 x2 0 r0 h D E sz) rfl gw_1237 gw_1 gw_1234 gw_1235 gw_1236 ⟨by decide +kernel, by decide +kernel, by decide +kernel⟩ ⟨rfl, rfl⟩ ⟨Nat.le_of_ble_eq_true rfl, Nat.le_of_ble_eq_true rfl⟩ (rcvT ⟨h0, fun e => absurd e (by decide)⟩ rfl rfl rfl) (Nat.le_of_ble_eq_true rfl) dL_quoted_5 ⟨by decide, by decide⟩ [] ⟨0, 10, 13, 23⟩ [] hT (fun z hz => absurd hz (by simp)) (by decide) (by decide) gw_499 (by decide) rfl (fun q9 => ?_)
  refine g_astore (lv' := [(4, .ref q9), (0, .ref (Ad 0 0)), (1, .int x1), (2, .int x2), (3, .ref (Ad 90 0))]) C dL_quoted_13 (by decide) rfl ?_
  refine g_iconst (v := 1) C dL_quoted_15 (by decide) ?_
  refine g_vx ?_
  exact g_iret C hr rfl hz ⟨rfl, rfl, fun _ => rfl, fun _ => rfl⟩ ⟨rfl, rfl⟩ (fun j x h => by simp at h) dL_quoted_16
set_option maxHeartbeats 4000000 in
set_option maxRecDepth 100000 in
theorem r_L_bust (l : Launch) (B : Nat × (Nat → Nat)) (μ : MP) (ν : NC) (a : AS) (Ad : Nat → Nat → Nat) (w : Nat) (x1 : Int32) (r0 : (MP × NC) × Int32) (h : f_X8_bust w μ ν x1 = some (0, r0)) (h0 : 0 < ν.2 0) (h9 : 0 < ν.2 90 ∧ ν.1 90 0 = 1) : ∀ D E sz, vx_Met l yL_bust gwL_bust ({ frames := 9, cells := kc r0.1.2 - kc ν, slots := ks r0.1.2 - ks ν, locals := 269 } : Room) (cPh D E sz B (zS μ ν a Ad) [.ref (Ad 0 0), .int x1, .ref (Ad 90 0)]) (cQ D E sz (zS μ ν a Ad) [] (pI (fun r u => r = 0 ∧ ∃ A1, u = (zS (up3 r0.1.1.1 90 0 0 r0.2, r0.1.1.2) r0.1.2 a A1, []) ∧ kp ν Ad A1))) (fun _ _ _ => False) (kc r0.1.2 - kc ν) (ks r0.1.2 - ks ν) (Aof (zS μ ν a Ad) [] sz) := by
  intro D E sz
  refine g_ofH (cc := cL_bust) (maxL := 4) (ret := some .int) (hh := [(0, 9, 12, 23), (0, 9, 15, 13)]) (own := "TradeLineLaw") (by decide) rfl rfl (Nat.le_of_ble_eq_true rfl) ?_
  intro p e s m args below meth c C hr hT hz hEv hN
  refine g_vx ?_
  refine g_lv (lv' := [(0, .ref (Ad 0 0)), (1, .int x1), (2, .ref (Ad 90 0))]) [0, 1, 2] rfl ?_
  refine g_aload_n C dL_bust_0 rfl 2 rfl ?_
  refine g_iconst (v := 0) C dL_bust_1 (by decide) ?_
  refine g_aload_n C dL_bust_2 rfl 0 rfl ?_
  refine g_iload_n C dL_bust_3 rfl 1 rfl ?_
  refine g_cVie (n := 1) (exc := []) (exr := []) C hEv ⟨rfl, rfl⟩ [_] _ rfl rfl [] [] rfl rfl rfl rfl (fun _ h => absurd h (by simp)) (fun _ h => absurd h (by simp)) (fun _ h => absurd h (by simp)) (fun sz => c_X8_bust l B μ ν a Ad w x1 r0 h D E sz) rfl gw_1244 gw_1 gw_1241 gw_1242 gw_1243 ⟨by decide +kernel, by decide +kernel, by decide +kernel⟩ ⟨rfl, rfl⟩ ⟨Nat.le_of_ble_eq_true rfl, Nat.le_of_ble_eq_true rfl⟩ (rcvT ⟨h0, fun e => absurd e (by decide)⟩ rfl rfl rfl) (Nat.le_of_ble_eq_true rfl) dL_bust_4 ⟨by show 0 + (kc r0.1.2 - kc ν) ≤ kc r0.1.2 - kc ν; omega, by show 0 + (ks r0.1.2 - ks ν) ≤ ks r0.1.2 - ks ν; omega⟩ (fun r u hp hx => ?_)
  obtain ⟨er, A1, rfl, hkp⟩ := hp
  rw [er]
  try dsimp only [List.append_nil]
  have hm := m_X8_bust h
  have h9 : 0 < r0.1.2.2 90 ∧ r0.1.2.1 90 0 = 1 ∧ A1 90 0 = Ad 90 0 := ⟨by rw [(hm.2.2.2 90 (by decide) (by decide)).1]; exact h9.1, by rw [(hm.2.2.2 90 (by decide) (by decide)).2]; exact h9.2, hkp.1 90 0 rfl h9.1⟩
  refine g_widen (k := kc r0.1.2 - kc ν) (n := ks r0.1.2 - ks ν) (by omega) (by omega) ?_
  refine g_i2l C dL_bust_7 rfl ?_
  refine g_last C h9.2.2 ⟨h9.1, h9.2.1⟩ dL_bust_8 ?_
  refine g_goto (tgt := 18) C dL_bust_9 (by decide) ?_
  refine g_iconst (v := 0) C dL_bust_18 (by decide) ?_
  exact g_iret C hr rfl hz ⟨(hm.2.2.2 30 (by decide) (by decide)).1, (hm.2.2.2 31 (by decide) (by decide)).1, hkp.2.1, hkp.2.2⟩ ⟨rfl, A1, rfl, hkp⟩ (fun j x h => by simp at h) dL_bust_19
set_option maxHeartbeats 4000000 in
set_option maxRecDepth 100000 in
theorem e1_L_bust (l : Launch) (hl : l.stackTraces = false) (B : Nat × (Nat → Nat)) (μ : MP) (ν : NC) (a : AS) (Ad : Nat → Nat → Nat) (w : Nat) (x1 : Int32) (r0 : (MP × NC) × Int32) (h : f_X8_bust w μ ν x1 = some (1, r0)) (h0 : 0 < ν.2 0) (h9 : 0 < ν.2 90 ∧ ν.1 90 0 = 1) : ∀ D E sz, vx_Met l yL_bust gwL_bust ({ frames := 9, cells := 1, slots := 6, locals := 269 } : Room) (cPh D E sz B (zS μ ν a Ad) [.ref (Ad 0 0), .int x1, .ref (Ad 90 0)]) (cQ D E sz (zS μ ν a Ad) [] (pI (fun r u => r = 1 ∧ u = (zS μ ν a Ad, [])))) (fun _ _ _ => False) (1) (6) (Aof (zS μ ν a Ad) [] sz) := by
  intro D E sz
  refine g_ofH (cc := cL_bust) (maxL := 4) (ret := some .int) (hh := [(0, 9, 12, 23), (0, 9, 15, 13)]) (own := "TradeLineLaw") (by decide) rfl rfl (Nat.le_of_ble_eq_true rfl) ?_
  intro p e s m args below meth c C hr hT hz hEv hN
  refine g_lv (lv' := [(0, .ref (Ad 0 0)), (1, .int x1), (2, .ref (Ad 90 0))]) [0, 1, 2] rfl ?_
  refine g_aload_n C dL_bust_0 rfl 2 rfl ?_
  refine g_iconst (v := 0) C dL_bust_1 (by decide) ?_
  refine g_aload_n C dL_bust_2 rfl 0 rfl ?_
  refine g_iload_n C dL_bust_3 rfl 1 rfl ?_
  refine g_hc (n := 1) (index := 1) C hEv ⟨rfl, rfl⟩ hN [_] _ rfl rfl (fun sz => x_X8_bust l hl B μ ν a Ad w x1 0 r0 h D E sz) rfl gw_1244 gw_1 gw_1241 gw_1242 gw_1243 ⟨by decide +kernel, by decide +kernel, by decide +kernel⟩ ⟨rfl, rfl⟩ ⟨Nat.le_of_ble_eq_true rfl, Nat.le_of_ble_eq_true rfl⟩ (rcvT ⟨h0, fun e => absurd e (by decide)⟩ rfl rfl rfl) (Nat.le_of_ble_eq_true rfl) dL_bust_4 ⟨by decide, by decide⟩ [] ⟨0, 9, 12, 23⟩ [⟨0, 9, 15, 13⟩] hT (fun z hz => absurd hz (by simp)) (by decide) (by decide) gw_499 (by decide) rfl (fun q9 => ?_)
  refine g_astore_n (lv' := [(3, .ref q9), (0, .ref (Ad 0 0)), (1, .int x1), (2, .ref (Ad 90 0))]) C dL_bust_12 rfl (by decide) rfl ?_
  refine g_iconst (v := 1) C dL_bust_13 (by decide) ?_
  refine g_vx ?_
  exact g_iret C hr rfl hz ⟨rfl, rfl, fun _ => rfl, fun _ => rfl⟩ ⟨rfl, rfl⟩ (fun j x h => by simp at h) dL_bust_14
set_option maxHeartbeats 4000000 in
set_option maxRecDepth 100000 in
theorem e3_L_bust (l : Launch) (hl : l.stackTraces = false) (B : Nat × (Nat → Nat)) (μ : MP) (ν : NC) (a : AS) (Ad : Nat → Nat → Nat) (w : Nat) (x1 : Int32) (r0 : (MP × NC) × Int32) (h : f_X8_bust w μ ν x1 = some (3, r0)) (h0 : 0 < ν.2 0) (h9 : 0 < ν.2 90 ∧ ν.1 90 0 = 1) : ∀ D E sz, vx_Met l yL_bust gwL_bust ({ frames := 9, cells := 1, slots := 6, locals := 269 } : Room) (cPh D E sz B (zS μ ν a Ad) [.ref (Ad 0 0), .int x1, .ref (Ad 90 0)]) (cQ D E sz (zS μ ν a Ad) [] (pI (fun r u => r = 2 ∧ u = (zS μ ν a Ad, [])))) (fun _ _ _ => False) (1) (6) (Aof (zS μ ν a Ad) [] sz) := by
  intro D E sz
  refine g_ofH (cc := cL_bust) (maxL := 4) (ret := some .int) (hh := [(0, 9, 12, 23), (0, 9, 15, 13)]) (own := "TradeLineLaw") (by decide) rfl rfl (Nat.le_of_ble_eq_true rfl) ?_
  intro p e s m args below meth c C hr hT hz hEv hN
  refine g_lv (lv' := [(0, .ref (Ad 0 0)), (1, .int x1), (2, .ref (Ad 90 0))]) [0, 1, 2] rfl ?_
  refine g_aload_n C dL_bust_0 rfl 2 rfl ?_
  refine g_iconst (v := 0) C dL_bust_1 (by decide) ?_
  refine g_aload_n C dL_bust_2 rfl 0 rfl ?_
  refine g_iload_n C dL_bust_3 rfl 1 rfl ?_
  refine g_hc (n := 3) (index := 1) C hEv ⟨rfl, rfl⟩ hN [_] _ rfl rfl (fun sz => x_X8_bust l hl B μ ν a Ad w x1 2 r0 h D E sz) rfl gw_1244 gw_1 gw_1241 gw_1242 gw_1243 ⟨by decide +kernel, by decide +kernel, by decide +kernel⟩ ⟨rfl, rfl⟩ ⟨Nat.le_of_ble_eq_true rfl, Nat.le_of_ble_eq_true rfl⟩ (rcvT ⟨h0, fun e => absurd e (by decide)⟩ rfl rfl rfl) (Nat.le_of_ble_eq_true rfl) dL_bust_4 ⟨by decide, by decide⟩ [⟨0, 9, 12, 23⟩] ⟨0, 9, 15, 13⟩ [] hT (fun z hz => by obtain rfl := List.mem_singleton.mp hz; exact ⟨by decide, exN 1, gw_499, by simp [eN]⟩) (by decide) (by decide) gw_263 (by decide) rfl (fun q9 => ?_)
  refine g_astore_n (lv' := [(3, .ref q9), (0, .ref (Ad 0 0)), (1, .int x1), (2, .ref (Ad 90 0))]) C dL_bust_15 rfl (by decide) rfl ?_
  refine g_iconst (v := 2) C dL_bust_16 (by decide) ?_
  refine g_vx ?_
  exact g_iret C hr rfl hz ⟨rfl, rfl, fun _ => rfl, fun _ => rfl⟩ ⟨rfl, rfl⟩ (fun j x h => by simp at h) dL_bust_17
set_option maxHeartbeats 4000000 in
set_option maxRecDepth 100000 in
theorem r_L_correct (l : Launch) (B : Nat × (Nat → Nat)) (μ : MP) (ν : NC) (a : AS) (Ad : Nat → Nat → Nat) (w : Nat) (x1 : Int32) (x2 : Int32) (r0 : (MP × NC) × Int32) (h : f_X8_correct w μ ν x1 x2 = some (0, r0)) (h0 : 0 < ν.2 0) (h9 : 0 < ν.2 90 ∧ ν.1 90 0 = 1) : ∀ D E sz, vx_Met l yL_correct gwL_correct ({ frames := 9, cells := kc r0.1.2 - kc ν, slots := ks r0.1.2 - ks ν, locals := 270 } : Room) (cPh D E sz B (zS μ ν a Ad) [.ref (Ad 0 0), .int x1, .int x2, .ref (Ad 90 0)]) (cQ D E sz (zS μ ν a Ad) [] (pI (fun r u => r = 0 ∧ ∃ A1, u = (zS (up3 r0.1.1.1 90 0 0 r0.2, r0.1.1.2) r0.1.2 a A1, []) ∧ kp ν Ad A1))) (fun _ _ _ => False) (kc r0.1.2 - kc ν) (ks r0.1.2 - ks ν) (Aof (zS μ ν a Ad) [] sz) := by
  intro D E sz
  refine g_ofH (cc := cL_correct) (maxL := 5) (ret := some .int) (hh := [(0, 10, 13, 23), (0, 10, 17, 25), (0, 10, 21, 13)]) (own := "TradeLineLaw") (by decide) rfl rfl (Nat.le_of_ble_eq_true rfl) ?_
  intro p e s m args below meth c C hr hT hz hEv hN
  refine g_vx ?_
  refine g_lv (lv' := [(0, .ref (Ad 0 0)), (1, .int x1), (2, .int x2), (3, .ref (Ad 90 0))]) [0, 1, 2, 3] rfl ?_
  refine g_aload_n C dL_correct_0 rfl 3 rfl ?_
  refine g_iconst (v := 0) C dL_correct_1 (by decide) ?_
  refine g_aload_n C dL_correct_2 rfl 0 rfl ?_
  refine g_iload_n C dL_correct_3 rfl 1 rfl ?_
  refine g_iload_n C dL_correct_4 rfl 2 rfl ?_
  refine g_cVie (n := 2) (exc := []) (exr := []) C hEv ⟨rfl, rfl⟩ [_, _] _ rfl rfl [] [] rfl rfl rfl rfl (fun _ h => absurd h (by simp)) (fun _ h => absurd h (by simp)) (fun _ h => absurd h (by simp)) (fun sz => c_X8_correct l B μ ν a Ad w x1 x2 r0 h D E sz) rfl gw_1260 gw_1 gw_1257 gw_1258 gw_1259 ⟨by decide +kernel, by decide +kernel, by decide +kernel⟩ ⟨rfl, rfl⟩ ⟨Nat.le_of_ble_eq_true rfl, Nat.le_of_ble_eq_true rfl⟩ (rcvT ⟨h0, fun e => absurd e (by decide)⟩ rfl rfl rfl) (Nat.le_of_ble_eq_true rfl) dL_correct_5 ⟨by show 0 + (kc r0.1.2 - kc ν) ≤ kc r0.1.2 - kc ν; omega, by show 0 + (ks r0.1.2 - ks ν) ≤ ks r0.1.2 - ks ν; omega⟩ (fun r u hp hx => ?_)
  obtain ⟨er, A1, rfl, hkp⟩ := hp
  rw [er]
  try dsimp only [List.append_nil]
  have hm := m_X8_correct h
  have h9 : 0 < r0.1.2.2 90 ∧ r0.1.2.1 90 0 = 1 ∧ A1 90 0 = Ad 90 0 := ⟨by rw [(hm.2.2.2 90 (by decide) (by decide)).1]; exact h9.1, by rw [(hm.2.2.2 90 (by decide) (by decide)).2]; exact h9.2, hkp.1 90 0 rfl h9.1⟩
  refine g_widen (k := kc r0.1.2 - kc ν) (n := ks r0.1.2 - ks ν) (by omega) (by omega) ?_
  refine g_i2l C dL_correct_8 rfl ?_
  refine g_last C h9.2.2 ⟨h9.1, h9.2.1⟩ dL_correct_9 ?_
  refine g_goto (tgt := 25) C dL_correct_10 (by decide) ?_
  refine g_iconst (v := 0) C dL_correct_25 (by decide) ?_
  exact g_iret C hr rfl hz ⟨(hm.2.2.2 30 (by decide) (by decide)).1, (hm.2.2.2 31 (by decide) (by decide)).1, hkp.2.1, hkp.2.2⟩ ⟨rfl, A1, rfl, hkp⟩ (fun j x h => by simp at h) dL_correct_26
set_option maxHeartbeats 4000000 in
set_option maxRecDepth 100000 in
theorem e1_L_correct (l : Launch) (hl : l.stackTraces = false) (B : Nat × (Nat → Nat)) (μ : MP) (ν : NC) (a : AS) (Ad : Nat → Nat → Nat) (w : Nat) (x1 : Int32) (x2 : Int32) (r0 : (MP × NC) × Int32) (h : f_X8_correct w μ ν x1 x2 = some (1, r0)) (h0 : 0 < ν.2 0) (h9 : 0 < ν.2 90 ∧ ν.1 90 0 = 1) : ∀ D E sz, vx_Met l yL_correct gwL_correct ({ frames := 9, cells := 1, slots := 6, locals := 270 } : Room) (cPh D E sz B (zS μ ν a Ad) [.ref (Ad 0 0), .int x1, .int x2, .ref (Ad 90 0)]) (cQ D E sz (zS μ ν a Ad) [] (pI (fun r u => r = 1 ∧ u = (zS μ ν a Ad, [])))) (fun _ _ _ => False) (1) (6) (Aof (zS μ ν a Ad) [] sz) := by
  intro D E sz
  refine g_ofH (cc := cL_correct) (maxL := 5) (ret := some .int) (hh := [(0, 10, 13, 23), (0, 10, 17, 25), (0, 10, 21, 13)]) (own := "TradeLineLaw") (by decide) rfl rfl (Nat.le_of_ble_eq_true rfl) ?_
  intro p e s m args below meth c C hr hT hz hEv hN
  refine g_lv (lv' := [(0, .ref (Ad 0 0)), (1, .int x1), (2, .int x2), (3, .ref (Ad 90 0))]) [0, 1, 2, 3] rfl ?_
  refine g_aload_n C dL_correct_0 rfl 3 rfl ?_
  refine g_iconst (v := 0) C dL_correct_1 (by decide) ?_
  refine g_aload_n C dL_correct_2 rfl 0 rfl ?_
  refine g_iload_n C dL_correct_3 rfl 1 rfl ?_
  refine g_iload_n C dL_correct_4 rfl 2 rfl ?_
  refine g_hc (n := 1) (index := 2) C hEv ⟨rfl, rfl⟩ hN [_, _] _ rfl rfl (fun sz => x_X8_correct l hl B μ ν a Ad w x1 x2 0 r0 h D E sz) rfl gw_1260 gw_1 gw_1257 gw_1258 gw_1259 ⟨by decide +kernel, by decide +kernel, by decide +kernel⟩ ⟨rfl, rfl⟩ ⟨Nat.le_of_ble_eq_true rfl, Nat.le_of_ble_eq_true rfl⟩ (rcvT ⟨h0, fun e => absurd e (by decide)⟩ rfl rfl rfl) (Nat.le_of_ble_eq_true rfl) dL_correct_5 ⟨by decide, by decide⟩ [] ⟨0, 10, 13, 23⟩ [⟨0, 10, 17, 25⟩, ⟨0, 10, 21, 13⟩] hT (fun z hz => absurd hz (by simp)) (by decide) (by decide) gw_499 (by decide) rfl (fun q9 => ?_)
  refine g_astore (lv' := [(4, .ref q9), (0, .ref (Ad 0 0)), (1, .int x1), (2, .int x2), (3, .ref (Ad 90 0))]) C dL_correct_13 (by decide) rfl ?_
  refine g_iconst (v := 1) C dL_correct_15 (by decide) ?_
  refine g_vx ?_
  exact g_iret C hr rfl hz ⟨rfl, rfl, fun _ => rfl, fun _ => rfl⟩ ⟨rfl, rfl⟩ (fun j x h => by simp at h) dL_correct_16
set_option maxHeartbeats 4000000 in
set_option maxRecDepth 100000 in
theorem e2_L_correct (l : Launch) (hl : l.stackTraces = false) (B : Nat × (Nat → Nat)) (μ : MP) (ν : NC) (a : AS) (Ad : Nat → Nat → Nat) (w : Nat) (x1 : Int32) (x2 : Int32) (r0 : (MP × NC) × Int32) (h : f_X8_correct w μ ν x1 x2 = some (2, r0)) (h0 : 0 < ν.2 0) (h9 : 0 < ν.2 90 ∧ ν.1 90 0 = 1) : ∀ D E sz, vx_Met l yL_correct gwL_correct ({ frames := 9, cells := 1, slots := 6, locals := 270 } : Room) (cPh D E sz B (zS μ ν a Ad) [.ref (Ad 0 0), .int x1, .int x2, .ref (Ad 90 0)]) (cQ D E sz (zS μ ν a Ad) [] (pI (fun r u => r = 2 ∧ u = (zS μ ν a Ad, [])))) (fun _ _ _ => False) (1) (6) (Aof (zS μ ν a Ad) [] sz) := by
  intro D E sz
  refine g_ofH (cc := cL_correct) (maxL := 5) (ret := some .int) (hh := [(0, 10, 13, 23), (0, 10, 17, 25), (0, 10, 21, 13)]) (own := "TradeLineLaw") (by decide) rfl rfl (Nat.le_of_ble_eq_true rfl) ?_
  intro p e s m args below meth c C hr hT hz hEv hN
  refine g_lv (lv' := [(0, .ref (Ad 0 0)), (1, .int x1), (2, .int x2), (3, .ref (Ad 90 0))]) [0, 1, 2, 3] rfl ?_
  refine g_aload_n C dL_correct_0 rfl 3 rfl ?_
  refine g_iconst (v := 0) C dL_correct_1 (by decide) ?_
  refine g_aload_n C dL_correct_2 rfl 0 rfl ?_
  refine g_iload_n C dL_correct_3 rfl 1 rfl ?_
  refine g_iload_n C dL_correct_4 rfl 2 rfl ?_
  refine g_hc (n := 2) (index := 2) C hEv ⟨rfl, rfl⟩ hN [_, _] _ rfl rfl (fun sz => x_X8_correct l hl B μ ν a Ad w x1 x2 1 r0 h D E sz) rfl gw_1260 gw_1 gw_1257 gw_1258 gw_1259 ⟨by decide +kernel, by decide +kernel, by decide +kernel⟩ ⟨rfl, rfl⟩ ⟨Nat.le_of_ble_eq_true rfl, Nat.le_of_ble_eq_true rfl⟩ (rcvT ⟨h0, fun e => absurd e (by decide)⟩ rfl rfl rfl) (Nat.le_of_ble_eq_true rfl) dL_correct_5 ⟨by decide, by decide⟩ [⟨0, 10, 13, 23⟩] ⟨0, 10, 17, 25⟩ [⟨0, 10, 21, 13⟩] hT (fun z hz => by obtain rfl := List.mem_singleton.mp hz; exact ⟨by decide, exN 1, gw_499, by simp [eN]⟩) (by decide) (by decide) gw_500 (by decide) rfl (fun q9 => ?_)
  refine g_astore (lv' := [(4, .ref q9), (0, .ref (Ad 0 0)), (1, .int x1), (2, .int x2), (3, .ref (Ad 90 0))]) C dL_correct_17 (by decide) rfl ?_
  refine g_iconst (v := 2) C dL_correct_19 (by decide) ?_
  refine g_vx ?_
  exact g_iret C hr rfl hz ⟨rfl, rfl, fun _ => rfl, fun _ => rfl⟩ ⟨rfl, rfl⟩ (fun j x h => by simp at h) dL_correct_20
set_option maxHeartbeats 4000000 in
set_option maxRecDepth 100000 in
theorem e3_L_correct (l : Launch) (hl : l.stackTraces = false) (B : Nat × (Nat → Nat)) (μ : MP) (ν : NC) (a : AS) (Ad : Nat → Nat → Nat) (w : Nat) (x1 : Int32) (x2 : Int32) (r0 : (MP × NC) × Int32) (h : f_X8_correct w μ ν x1 x2 = some (3, r0)) (h0 : 0 < ν.2 0) (h9 : 0 < ν.2 90 ∧ ν.1 90 0 = 1) : ∀ D E sz, vx_Met l yL_correct gwL_correct ({ frames := 9, cells := 1, slots := 6, locals := 270 } : Room) (cPh D E sz B (zS μ ν a Ad) [.ref (Ad 0 0), .int x1, .int x2, .ref (Ad 90 0)]) (cQ D E sz (zS μ ν a Ad) [] (pI (fun r u => r = 3 ∧ u = (zS μ ν a Ad, [])))) (fun _ _ _ => False) (1) (6) (Aof (zS μ ν a Ad) [] sz) := by
  intro D E sz
  refine g_ofH (cc := cL_correct) (maxL := 5) (ret := some .int) (hh := [(0, 10, 13, 23), (0, 10, 17, 25), (0, 10, 21, 13)]) (own := "TradeLineLaw") (by decide) rfl rfl (Nat.le_of_ble_eq_true rfl) ?_
  intro p e s m args below meth c C hr hT hz hEv hN
  refine g_lv (lv' := [(0, .ref (Ad 0 0)), (1, .int x1), (2, .int x2), (3, .ref (Ad 90 0))]) [0, 1, 2, 3] rfl ?_
  refine g_aload_n C dL_correct_0 rfl 3 rfl ?_
  refine g_iconst (v := 0) C dL_correct_1 (by decide) ?_
  refine g_aload_n C dL_correct_2 rfl 0 rfl ?_
  refine g_iload_n C dL_correct_3 rfl 1 rfl ?_
  refine g_iload_n C dL_correct_4 rfl 2 rfl ?_
  refine g_hc (n := 3) (index := 2) C hEv ⟨rfl, rfl⟩ hN [_, _] _ rfl rfl (fun sz => x_X8_correct l hl B μ ν a Ad w x1 x2 2 r0 h D E sz) rfl gw_1260 gw_1 gw_1257 gw_1258 gw_1259 ⟨by decide +kernel, by decide +kernel, by decide +kernel⟩ ⟨rfl, rfl⟩ ⟨Nat.le_of_ble_eq_true rfl, Nat.le_of_ble_eq_true rfl⟩ (rcvT ⟨h0, fun e => absurd e (by decide)⟩ rfl rfl rfl) (Nat.le_of_ble_eq_true rfl) dL_correct_5 ⟨by decide, by decide⟩ [⟨0, 10, 13, 23⟩, ⟨0, 10, 17, 25⟩] ⟨0, 10, 21, 13⟩ [] hT (fun z hz => by
      rcases List.mem_cons.mp hz with rfl | hz
      · exact ⟨by decide, exN 1, gw_499, by simp [eN]⟩
      · obtain rfl := List.mem_singleton.mp hz; exact ⟨by decide, exN 2, gw_500, by simp [eN]⟩) (by decide) (by decide) gw_263 (by decide) rfl (fun q9 => ?_)
  refine g_astore (lv' := [(4, .ref q9), (0, .ref (Ad 0 0)), (1, .int x1), (2, .int x2), (3, .ref (Ad 90 0))]) C dL_correct_21 (by decide) rfl ?_
  refine g_iconst (v := 3) C dL_correct_23 (by decide) ?_
  refine g_vx ?_
  exact g_iret C hr rfl hz ⟨rfl, rfl, fun _ => rfl, fun _ => rfl⟩ ⟨rfl, rfl⟩ (fun j x h => by simp at h) dL_correct_24
set_option maxHeartbeats 4000000 in
set_option maxRecDepth 100000 in
theorem r_L_left (l : Launch) (B : Nat × (Nat → Nat)) (μ : MP) (ν : NC) (a : AS) (Ad : Nat → Nat → Nat) (w : Nat) (x1 : Int32) (x2 : Int32) (r0 : Int32) (h : f_X8_left w μ ν x1 x2 = some (0, r0)) (h0 : 0 < ν.2 0) (h9 : 0 < ν.2 90 ∧ ν.1 90 0 = 1) : ∀ D E sz, vx_Met l yL_left gwL_left ({ frames := 6, cells := 0, slots := 0, locals := 147 } : Room) (cPh D E sz B (zS μ ν a Ad) [.ref (Ad 0 0), .int x1, .int x2, .ref (Ad 90 0)]) (cQ D E sz (zS μ ν a Ad) [] (pI (fun r u => r = 0 ∧ u = (zS (up3 μ.1 90 0 0 r0, μ.2) ν a Ad, [])))) (fun _ _ _ => False) (0) (0) (Aof (zS μ ν a Ad) [] sz) := by
  intro D E sz
  refine g_ofH (cc := cL_left) (maxL := 5) (ret := some .int) (hh := [(0, 10, 13, 23)]) (own := "TradeLineLaw") (by decide) rfl rfl (Nat.le_of_ble_eq_true rfl) ?_
  intro p e s m args below meth c C hr hT hz hEv hN
  refine g_vx ?_
  refine g_lv (lv' := [(0, .ref (Ad 0 0)), (1, .int x1), (2, .int x2), (3, .ref (Ad 90 0))]) [0, 1, 2, 3] rfl ?_
  refine g_aload_n C dL_left_0 rfl 3 rfl ?_
  refine g_iconst (v := 0) C dL_left_1 (by decide) ?_
  refine g_aload_n C dL_left_2 rfl 0 rfl ?_
  refine g_iload_n C dL_left_3 rfl 1 rfl ?_
  refine g_iload_n C dL_left_4 rfl 2 rfl ?_
  refine g_cVi (n := 2) (exc := []) (exr := []) C [_, _] _ rfl rfl [] [] rfl rfl rfl rfl (fun _ h => absurd h (by simp)) (fun _ h => absurd h (by simp)) (fun _ h => absurd h (by simp)) (fun sz => c_X8_left l μ ν a Ad w x1 x2 r0 h D E sz) rfl gw_1267 gw_1 gw_1264 gw_1265 gw_1266 ⟨by decide +kernel, by decide +kernel, by decide +kernel⟩ ⟨rfl, rfl⟩ ⟨Nat.le_of_ble_eq_true rfl, Nat.le_of_ble_eq_true rfl⟩ (rcvT ⟨h0, fun e => absurd e (by decide)⟩ rfl rfl rfl) (Nat.le_of_ble_eq_true rfl) dL_left_5 ⟨by show 0 + (0) ≤ 0; omega, by show 0 + (0) ≤ 0; omega⟩ (fun r u hp hx => ?_)
  obtain ⟨er, rfl⟩ := hp
  rw [er]
  try dsimp only [List.append_nil]
  refine g_widen (k := 0) (n := 0) (by omega) (by omega) ?_
  refine g_i2l C dL_left_8 rfl ?_
  refine g_last C rfl h9 dL_left_9 ?_
  refine g_goto (tgt := 17) C dL_left_10 (by decide) ?_
  refine g_iconst (v := 0) C dL_left_17 (by decide) ?_
  exact g_iret C hr rfl hz ⟨rfl, rfl, fun _ => rfl, fun _ => rfl⟩ ⟨rfl, rfl⟩ (fun j x h => by simp at h) dL_left_18
set_option maxHeartbeats 4000000 in
set_option maxRecDepth 100000 in
theorem e1_L_left (l : Launch) (hl : l.stackTraces = false) (B : Nat × (Nat → Nat)) (μ : MP) (ν : NC) (a : AS) (Ad : Nat → Nat → Nat) (w : Nat) (x1 : Int32) (x2 : Int32) (r0 : Int32) (h : f_X8_left w μ ν x1 x2 = some (1, r0)) (h0 : 0 < ν.2 0) (h9 : 0 < ν.2 90 ∧ ν.1 90 0 = 1) : ∀ D E sz, vx_Met l yL_left gwL_left ({ frames := 8, cells := 1, slots := 6, locals := 147 } : Room) (cPh D E sz B (zS μ ν a Ad) [.ref (Ad 0 0), .int x1, .int x2, .ref (Ad 90 0)]) (cQ D E sz (zS μ ν a Ad) [] (pI (fun r u => r = 1 ∧ u = (zS μ ν a Ad, [])))) (fun _ _ _ => False) (1) (6) (Aof (zS μ ν a Ad) [] sz) := by
  intro D E sz
  refine g_ofH (cc := cL_left) (maxL := 5) (ret := some .int) (hh := [(0, 10, 13, 23)]) (own := "TradeLineLaw") (by decide) rfl rfl (Nat.le_of_ble_eq_true rfl) ?_
  intro p e s m args below meth c C hr hT hz hEv hN
  refine g_lv (lv' := [(0, .ref (Ad 0 0)), (1, .int x1), (2, .int x2), (3, .ref (Ad 90 0))]) [0, 1, 2, 3] rfl ?_
  refine g_aload_n C dL_left_0 rfl 3 rfl ?_
  refine g_iconst (v := 0) C dL_left_1 (by decide) ?_
  refine g_aload_n C dL_left_2 rfl 0 rfl ?_
  refine g_iload_n C dL_left_3 rfl 1 rfl ?_
  refine g_iload_n C dL_left_4 rfl 2 rfl ?_
  refine g_hc (n := 1) (index := 2) C hEv ⟨rfl, rfl⟩ hN [_, _] _ rfl rfl (fun sz => x_X8_left l hl B μ ν a Ad w x1 x2 0 r0 h D E sz) rfl gw_1267 gw_1 gw_1264 gw_1265 gw_1266 ⟨by decide +kernel, by decide +kernel, by decide +kernel⟩ ⟨rfl, rfl⟩ ⟨Nat.le_of_ble_eq_true rfl, Nat.le_of_ble_eq_true rfl⟩ (rcvT ⟨h0, fun e => absurd e (by decide)⟩ rfl rfl rfl) (Nat.le_of_ble_eq_true rfl) dL_left_5 ⟨by decide, by decide⟩ [] ⟨0, 10, 13, 23⟩ [] hT (fun z hz => absurd hz (by simp)) (by decide) (by decide) gw_499 (by decide) rfl (fun q9 => ?_)
  refine g_astore (lv' := [(4, .ref q9), (0, .ref (Ad 0 0)), (1, .int x1), (2, .int x2), (3, .ref (Ad 90 0))]) C dL_left_13 (by decide) rfl ?_
  refine g_iconst (v := 1) C dL_left_15 (by decide) ?_
  refine g_vx ?_
  exact g_iret C hr rfl hz ⟨rfl, rfl, fun _ => rfl, fun _ => rfl⟩ ⟨rfl, rfl⟩ (fun j x h => by simp at h) dL_left_16
set_option maxHeartbeats 4000000 in
set_option maxRecDepth 100000 in
theorem r_L_done (l : Launch) (B : Nat × (Nat → Nat)) (μ : MP) (ν : NC) (a : AS) (Ad : Nat → Nat → Nat) (w : Nat) (x1 : Int32) (x2 : Int32) (r0 : Int32) (h : f_X8_done w μ ν x1 x2 = some (0, r0)) (h0 : 0 < ν.2 0) (h9 : 0 < ν.2 90 ∧ ν.1 90 0 = 1) : ∀ D E sz, vx_Met l yL_done gwL_done ({ frames := 6, cells := 0, slots := 0, locals := 147 } : Room) (cPh D E sz B (zS μ ν a Ad) [.ref (Ad 0 0), .int x1, .int x2, .ref (Ad 90 0)]) (cQ D E sz (zS μ ν a Ad) [] (pI (fun r u => r = 0 ∧ u = (zS (up3 μ.1 90 0 0 r0, μ.2) ν a Ad, [])))) (fun _ _ _ => False) (0) (0) (Aof (zS μ ν a Ad) [] sz) := by
  intro D E sz
  refine g_ofH (cc := cL_done) (maxL := 5) (ret := some .int) (hh := [(0, 10, 13, 23)]) (own := "TradeLineLaw") (by decide) rfl rfl (Nat.le_of_ble_eq_true rfl) ?_
  intro p e s m args below meth c C hr hT hz hEv hN
  refine g_vx ?_
  refine g_lv (lv' := [(0, .ref (Ad 0 0)), (1, .int x1), (2, .int x2), (3, .ref (Ad 90 0))]) [0, 1, 2, 3] rfl ?_
  refine g_aload_n C dL_done_0 rfl 3 rfl ?_
  refine g_iconst (v := 0) C dL_done_1 (by decide) ?_
  refine g_aload_n C dL_done_2 rfl 0 rfl ?_
  refine g_iload_n C dL_done_3 rfl 1 rfl ?_
  refine g_iload_n C dL_done_4 rfl 2 rfl ?_
  refine g_cVi (n := 2) (exc := []) (exr := []) C [_, _] _ rfl rfl [] [] rfl rfl rfl rfl (fun _ h => absurd h (by simp)) (fun _ h => absurd h (by simp)) (fun _ h => absurd h (by simp)) (fun sz => c_X8_done l μ ν a Ad w x1 x2 r0 h D E sz) rfl gw_1279 gw_1 gw_1276 gw_1277 gw_1278 ⟨by decide +kernel, by decide +kernel, by decide +kernel⟩ ⟨rfl, rfl⟩ ⟨Nat.le_of_ble_eq_true rfl, Nat.le_of_ble_eq_true rfl⟩ (rcvT ⟨h0, fun e => absurd e (by decide)⟩ rfl rfl rfl) (Nat.le_of_ble_eq_true rfl) dL_done_5 ⟨by show 0 + (0) ≤ 0; omega, by show 0 + (0) ≤ 0; omega⟩ (fun r u hp hx => ?_)
  obtain ⟨er, rfl⟩ := hp
  rw [er]
  try dsimp only [List.append_nil]
  refine g_widen (k := 0) (n := 0) (by omega) (by omega) ?_
  refine g_i2l C dL_done_8 rfl ?_
  refine g_last C rfl h9 dL_done_9 ?_
  refine g_goto (tgt := 17) C dL_done_10 (by decide) ?_
  refine g_iconst (v := 0) C dL_done_17 (by decide) ?_
  exact g_iret C hr rfl hz ⟨rfl, rfl, fun _ => rfl, fun _ => rfl⟩ ⟨rfl, rfl⟩ (fun j x h => by simp at h) dL_done_18
set_option maxHeartbeats 4000000 in
set_option maxRecDepth 100000 in
theorem e1_L_done (l : Launch) (hl : l.stackTraces = false) (B : Nat × (Nat → Nat)) (μ : MP) (ν : NC) (a : AS) (Ad : Nat → Nat → Nat) (w : Nat) (x1 : Int32) (x2 : Int32) (r0 : Int32) (h : f_X8_done w μ ν x1 x2 = some (1, r0)) (h0 : 0 < ν.2 0) (h9 : 0 < ν.2 90 ∧ ν.1 90 0 = 1) : ∀ D E sz, vx_Met l yL_done gwL_done ({ frames := 8, cells := 1, slots := 6, locals := 147 } : Room) (cPh D E sz B (zS μ ν a Ad) [.ref (Ad 0 0), .int x1, .int x2, .ref (Ad 90 0)]) (cQ D E sz (zS μ ν a Ad) [] (pI (fun r u => r = 1 ∧ u = (zS μ ν a Ad, [])))) (fun _ _ _ => False) (1) (6) (Aof (zS μ ν a Ad) [] sz) := by
  intro D E sz
  refine g_ofH (cc := cL_done) (maxL := 5) (ret := some .int) (hh := [(0, 10, 13, 23)]) (own := "TradeLineLaw") (by decide) rfl rfl (Nat.le_of_ble_eq_true rfl) ?_
  intro p e s m args below meth c C hr hT hz hEv hN
  refine g_lv (lv' := [(0, .ref (Ad 0 0)), (1, .int x1), (2, .int x2), (3, .ref (Ad 90 0))]) [0, 1, 2, 3] rfl ?_
  refine g_aload_n C dL_done_0 rfl 3 rfl ?_
  refine g_iconst (v := 0) C dL_done_1 (by decide) ?_
  refine g_aload_n C dL_done_2 rfl 0 rfl ?_
  refine g_iload_n C dL_done_3 rfl 1 rfl ?_
  refine g_iload_n C dL_done_4 rfl 2 rfl ?_
  refine g_hc (n := 1) (index := 2) C hEv ⟨rfl, rfl⟩ hN [_, _] _ rfl rfl (fun sz => x_X8_done l hl B μ ν a Ad w x1 x2 0 r0 h D E sz) rfl gw_1279 gw_1 gw_1276 gw_1277 gw_1278 ⟨by decide +kernel, by decide +kernel, by decide +kernel⟩ ⟨rfl, rfl⟩ ⟨Nat.le_of_ble_eq_true rfl, Nat.le_of_ble_eq_true rfl⟩ (rcvT ⟨h0, fun e => absurd e (by decide)⟩ rfl rfl rfl) (Nat.le_of_ble_eq_true rfl) dL_done_5 ⟨by decide, by decide⟩ [] ⟨0, 10, 13, 23⟩ [] hT (fun z hz => absurd hz (by simp)) (by decide) (by decide) gw_499 (by decide) rfl (fun q9 => ?_)
  refine g_astore (lv' := [(4, .ref q9), (0, .ref (Ad 0 0)), (1, .int x1), (2, .int x2), (3, .ref (Ad 90 0))]) C dL_done_13 (by decide) rfl ?_
  refine g_iconst (v := 1) C dL_done_15 (by decide) ?_
  refine g_vx ?_
  exact g_iret C hr rfl hz ⟨rfl, rfl, fun _ => rfl, fun _ => rfl⟩ ⟨rfl, rfl⟩ (fun j x h => by simp at h) dL_done_16
set_option maxHeartbeats 4000000 in
set_option maxRecDepth 100000 in
theorem r_L_doneByLog (l : Launch) (B : Nat × (Nat → Nat)) (μ : MP) (ν : NC) (a : AS) (Ad : Nat → Nat → Nat) (w : Nat) (x1 : Int32) (x2 : Int32) (r0 : Int32) (h : f_X8_doneByLog w μ ν x1 x2 = some (0, r0)) (h0 : 0 < ν.2 0) (h9 : 0 < ν.2 90 ∧ ν.1 90 0 = 1) : ∀ D E sz, vx_Met l yL_doneByLog gwL_doneByLog ({ frames := 6, cells := 0, slots := 0, locals := 150 } : Room) (cPh D E sz B (zS μ ν a Ad) [.ref (Ad 0 0), .int x1, .int x2, .ref (Ad 90 0)]) (cQ D E sz (zS μ ν a Ad) [] (pI (fun r u => r = 0 ∧ u = (zS (up3 μ.1 90 0 0 r0, μ.2) ν a Ad, [])))) (fun _ _ _ => False) (0) (0) (Aof (zS μ ν a Ad) [] sz) := by
  intro D E sz
  refine g_ofH (cc := cL_doneByLog) (maxL := 5) (ret := some .int) (hh := [(0, 10, 13, 23)]) (own := "TradeLineLaw") (by decide) rfl rfl (Nat.le_of_ble_eq_true rfl) ?_
  intro p e s m args below meth c C hr hT hz hEv hN
  refine g_vx ?_
  refine g_lv (lv' := [(0, .ref (Ad 0 0)), (1, .int x1), (2, .int x2), (3, .ref (Ad 90 0))]) [0, 1, 2, 3] rfl ?_
  refine g_aload_n C dL_doneByLog_0 rfl 3 rfl ?_
  refine g_iconst (v := 0) C dL_doneByLog_1 (by decide) ?_
  refine g_aload_n C dL_doneByLog_2 rfl 0 rfl ?_
  refine g_iload_n C dL_doneByLog_3 rfl 1 rfl ?_
  refine g_iload_n C dL_doneByLog_4 rfl 2 rfl ?_
  refine g_cVi (n := 2) (exc := []) (exr := []) C [_, _] _ rfl rfl [] [] rfl rfl rfl rfl (fun _ h => absurd h (by simp)) (fun _ h => absurd h (by simp)) (fun _ h => absurd h (by simp)) (fun sz => c_X8_doneByLog l μ ν a Ad w x1 x2 r0 h D E sz) rfl gw_1287 gw_1 gw_1284 gw_1285 gw_1286 ⟨by decide +kernel, by decide +kernel, by decide +kernel⟩ ⟨rfl, rfl⟩ ⟨Nat.le_of_ble_eq_true rfl, Nat.le_of_ble_eq_true rfl⟩ (rcvT ⟨h0, fun e => absurd e (by decide)⟩ rfl rfl rfl) (Nat.le_of_ble_eq_true rfl) dL_doneByLog_5 ⟨by show 0 + (0) ≤ 0; omega, by show 0 + (0) ≤ 0; omega⟩ (fun r u hp hx => ?_)
  obtain ⟨er, rfl⟩ := hp
  rw [er]
  try dsimp only [List.append_nil]
  refine g_widen (k := 0) (n := 0) (by omega) (by omega) ?_
  refine g_i2l C dL_doneByLog_8 rfl ?_
  refine g_last C rfl h9 dL_doneByLog_9 ?_
  refine g_goto (tgt := 17) C dL_doneByLog_10 (by decide) ?_
  refine g_iconst (v := 0) C dL_doneByLog_17 (by decide) ?_
  exact g_iret C hr rfl hz ⟨rfl, rfl, fun _ => rfl, fun _ => rfl⟩ ⟨rfl, rfl⟩ (fun j x h => by simp at h) dL_doneByLog_18
set_option maxHeartbeats 4000000 in
set_option maxRecDepth 100000 in
theorem e1_L_doneByLog (l : Launch) (hl : l.stackTraces = false) (B : Nat × (Nat → Nat)) (μ : MP) (ν : NC) (a : AS) (Ad : Nat → Nat → Nat) (w : Nat) (x1 : Int32) (x2 : Int32) (r0 : Int32) (h : f_X8_doneByLog w μ ν x1 x2 = some (1, r0)) (h0 : 0 < ν.2 0) (h9 : 0 < ν.2 90 ∧ ν.1 90 0 = 1) : ∀ D E sz, vx_Met l yL_doneByLog gwL_doneByLog ({ frames := 8, cells := 1, slots := 6, locals := 150 } : Room) (cPh D E sz B (zS μ ν a Ad) [.ref (Ad 0 0), .int x1, .int x2, .ref (Ad 90 0)]) (cQ D E sz (zS μ ν a Ad) [] (pI (fun r u => r = 1 ∧ u = (zS μ ν a Ad, [])))) (fun _ _ _ => False) (1) (6) (Aof (zS μ ν a Ad) [] sz) := by
  intro D E sz
  refine g_ofH (cc := cL_doneByLog) (maxL := 5) (ret := some .int) (hh := [(0, 10, 13, 23)]) (own := "TradeLineLaw") (by decide) rfl rfl (Nat.le_of_ble_eq_true rfl) ?_
  intro p e s m args below meth c C hr hT hz hEv hN
  refine g_lv (lv' := [(0, .ref (Ad 0 0)), (1, .int x1), (2, .int x2), (3, .ref (Ad 90 0))]) [0, 1, 2, 3] rfl ?_
  refine g_aload_n C dL_doneByLog_0 rfl 3 rfl ?_
  refine g_iconst (v := 0) C dL_doneByLog_1 (by decide) ?_
  refine g_aload_n C dL_doneByLog_2 rfl 0 rfl ?_
  refine g_iload_n C dL_doneByLog_3 rfl 1 rfl ?_
  refine g_iload_n C dL_doneByLog_4 rfl 2 rfl ?_
  refine g_hc (n := 1) (index := 2) C hEv ⟨rfl, rfl⟩ hN [_, _] _ rfl rfl (fun sz => x_X8_doneByLog l hl B μ ν a Ad w x1 x2 0 r0 h D E sz) rfl gw_1287 gw_1 gw_1284 gw_1285 gw_1286 ⟨by decide +kernel, by decide +kernel, by decide +kernel⟩ ⟨rfl, rfl⟩ ⟨Nat.le_of_ble_eq_true rfl, Nat.le_of_ble_eq_true rfl⟩ (rcvT ⟨h0, fun e => absurd e (by decide)⟩ rfl rfl rfl) (Nat.le_of_ble_eq_true rfl) dL_doneByLog_5 ⟨by decide, by decide⟩ [] ⟨0, 10, 13, 23⟩ [] hT (fun z hz => absurd hz (by simp)) (by decide) (by decide) gw_499 (by decide) rfl (fun q9 => ?_)
  refine g_astore (lv' := [(4, .ref q9), (0, .ref (Ad 0 0)), (1, .int x1), (2, .int x2), (3, .ref (Ad 90 0))]) C dL_doneByLog_13 (by decide) rfl ?_
  refine g_iconst (v := 1) C dL_doneByLog_15 (by decide) ?_
  refine g_vx ?_
  exact g_iret C hr rfl hz ⟨rfl, rfl, fun _ => rfl, fun _ => rfl⟩ ⟨rfl, rfl⟩ (fun j x h => by simp at h) dL_doneByLog_16
set_option maxHeartbeats 4000000 in
set_option maxRecDepth 100000 in
theorem r_L_out (l : Launch) (B : Nat × (Nat → Nat)) (μ : MP) (ν : NC) (a : AS) (Ad : Nat → Nat → Nat) (w : Nat) (x1 : Int32) (x2 : Int32) (r0 : Int32) (h : f_X8_out w μ ν x1 x2 = some (0, r0)) (h0 : 0 < ν.2 0) (h9 : 0 < ν.2 90 ∧ ν.1 90 0 = 1) : ∀ D E sz, vx_Met l yL_out gwL_out ({ frames := 6, cells := 0, slots := 0, locals := 147 } : Room) (cPh D E sz B (zS μ ν a Ad) [.ref (Ad 0 0), .int x1, .int x2, .ref (Ad 90 0)]) (cQ D E sz (zS μ ν a Ad) [] (pI (fun r u => r = 0 ∧ u = (zS (up3 μ.1 90 0 0 r0, μ.2) ν a Ad, [])))) (fun _ _ _ => False) (0) (0) (Aof (zS μ ν a Ad) [] sz) := by
  intro D E sz
  refine g_ofH (cc := cL_out) (maxL := 5) (ret := some .int) (hh := [(0, 10, 13, 23)]) (own := "TradeLineLaw") (by decide) rfl rfl (Nat.le_of_ble_eq_true rfl) ?_
  intro p e s m args below meth c C hr hT hz hEv hN
  refine g_vx ?_
  refine g_lv (lv' := [(0, .ref (Ad 0 0)), (1, .int x1), (2, .int x2), (3, .ref (Ad 90 0))]) [0, 1, 2, 3] rfl ?_
  refine g_aload_n C dL_out_0 rfl 3 rfl ?_
  refine g_iconst (v := 0) C dL_out_1 (by decide) ?_
  refine g_aload_n C dL_out_2 rfl 0 rfl ?_
  refine g_iload_n C dL_out_3 rfl 1 rfl ?_
  refine g_iload_n C dL_out_4 rfl 2 rfl ?_
  refine g_cVi (n := 2) (exc := []) (exr := []) C [_, _] _ rfl rfl [] [] rfl rfl rfl rfl (fun _ h => absurd h (by simp)) (fun _ h => absurd h (by simp)) (fun _ h => absurd h (by simp)) (fun sz => c_X8_out l μ ν a Ad w x1 x2 r0 h D E sz) rfl gw_1298 gw_1 gw_1295 gw_1296 gw_1297 ⟨by decide +kernel, by decide +kernel, by decide +kernel⟩ ⟨rfl, rfl⟩ ⟨Nat.le_of_ble_eq_true rfl, Nat.le_of_ble_eq_true rfl⟩ (rcvT ⟨h0, fun e => absurd e (by decide)⟩ rfl rfl rfl) (Nat.le_of_ble_eq_true rfl) dL_out_5 ⟨by show 0 + (0) ≤ 0; omega, by show 0 + (0) ≤ 0; omega⟩ (fun r u hp hx => ?_)
  obtain ⟨er, rfl⟩ := hp
  rw [er]
  try dsimp only [List.append_nil]
  refine g_widen (k := 0) (n := 0) (by omega) (by omega) ?_
  refine g_i2l C dL_out_8 rfl ?_
  refine g_last C rfl h9 dL_out_9 ?_
  refine g_goto (tgt := 17) C dL_out_10 (by decide) ?_
  refine g_iconst (v := 0) C dL_out_17 (by decide) ?_
  exact g_iret C hr rfl hz ⟨rfl, rfl, fun _ => rfl, fun _ => rfl⟩ ⟨rfl, rfl⟩ (fun j x h => by simp at h) dL_out_18
set_option maxHeartbeats 4000000 in
set_option maxRecDepth 100000 in
theorem e1_L_out (l : Launch) (hl : l.stackTraces = false) (B : Nat × (Nat → Nat)) (μ : MP) (ν : NC) (a : AS) (Ad : Nat → Nat → Nat) (w : Nat) (x1 : Int32) (x2 : Int32) (r0 : Int32) (h : f_X8_out w μ ν x1 x2 = some (1, r0)) (h0 : 0 < ν.2 0) (h9 : 0 < ν.2 90 ∧ ν.1 90 0 = 1) : ∀ D E sz, vx_Met l yL_out gwL_out ({ frames := 8, cells := 1, slots := 6, locals := 147 } : Room) (cPh D E sz B (zS μ ν a Ad) [.ref (Ad 0 0), .int x1, .int x2, .ref (Ad 90 0)]) (cQ D E sz (zS μ ν a Ad) [] (pI (fun r u => r = 1 ∧ u = (zS μ ν a Ad, [])))) (fun _ _ _ => False) (1) (6) (Aof (zS μ ν a Ad) [] sz) := by
  intro D E sz
  refine g_ofH (cc := cL_out) (maxL := 5) (ret := some .int) (hh := [(0, 10, 13, 23)]) (own := "TradeLineLaw") (by decide) rfl rfl (Nat.le_of_ble_eq_true rfl) ?_
  intro p e s m args below meth c C hr hT hz hEv hN
  refine g_lv (lv' := [(0, .ref (Ad 0 0)), (1, .int x1), (2, .int x2), (3, .ref (Ad 90 0))]) [0, 1, 2, 3] rfl ?_
  refine g_aload_n C dL_out_0 rfl 3 rfl ?_
  refine g_iconst (v := 0) C dL_out_1 (by decide) ?_
  refine g_aload_n C dL_out_2 rfl 0 rfl ?_
  refine g_iload_n C dL_out_3 rfl 1 rfl ?_
  refine g_iload_n C dL_out_4 rfl 2 rfl ?_
  refine g_hc (n := 1) (index := 2) C hEv ⟨rfl, rfl⟩ hN [_, _] _ rfl rfl (fun sz => x_X8_out l hl B μ ν a Ad w x1 x2 0 r0 h D E sz) rfl gw_1298 gw_1 gw_1295 gw_1296 gw_1297 ⟨by decide +kernel, by decide +kernel, by decide +kernel⟩ ⟨rfl, rfl⟩ ⟨Nat.le_of_ble_eq_true rfl, Nat.le_of_ble_eq_true rfl⟩ (rcvT ⟨h0, fun e => absurd e (by decide)⟩ rfl rfl rfl) (Nat.le_of_ble_eq_true rfl) dL_out_5 ⟨by decide, by decide⟩ [] ⟨0, 10, 13, 23⟩ [] hT (fun z hz => absurd hz (by simp)) (by decide) (by decide) gw_499 (by decide) rfl (fun q9 => ?_)
  refine g_astore (lv' := [(4, .ref q9), (0, .ref (Ad 0 0)), (1, .int x1), (2, .int x2), (3, .ref (Ad 90 0))]) C dL_out_13 (by decide) rfl ?_
  refine g_iconst (v := 1) C dL_out_15 (by decide) ?_
  refine g_vx ?_
  exact g_iret C hr rfl hz ⟨rfl, rfl, fun _ => rfl, fun _ => rfl⟩ ⟨rfl, rfl⟩ (fun j x h => by simp at h) dL_out_16
set_option maxHeartbeats 4000000 in
set_option maxRecDepth 100000 in
theorem r_L_venues (l : Launch) (B : Nat × (Nat → Nat)) (μ : MP) (ν : NC) (a : AS) (Ad : Nat → Nat → Nat) (w : Nat) (x1 : Int32) (r0 : Int32) (h : f_X8_venues w μ ν x1 = some (0, r0)) (h0 : 0 < ν.2 0) (h9 : 0 < ν.2 90 ∧ ν.1 90 0 = 1) : ∀ D E sz, vx_Met l yL_venues gwL_venues ({ frames := 6, cells := 0, slots := 0, locals := 148 } : Room) (cPh D E sz B (zS μ ν a Ad) [.ref (Ad 0 0), .int x1, .ref (Ad 90 0)]) (cQ D E sz (zS μ ν a Ad) [] (pI (fun r u => r = 0 ∧ u = (zS (up3 μ.1 90 0 0 r0, μ.2) ν a Ad, [])))) (fun _ _ _ => False) (0) (0) (Aof (zS μ ν a Ad) [] sz) := by
  intro D E sz
  refine g_ofH (cc := cL_venues) (maxL := 4) (ret := some .int) (hh := [(0, 9, 12, 23)]) (own := "TradeLineLaw") (by decide) rfl rfl (Nat.le_of_ble_eq_true rfl) ?_
  intro p e s m args below meth c C hr hT hz hEv hN
  refine g_vx ?_
  refine g_lv (lv' := [(0, .ref (Ad 0 0)), (1, .int x1), (2, .ref (Ad 90 0))]) [0, 1, 2] rfl ?_
  refine g_aload_n C dL_venues_0 rfl 2 rfl ?_
  refine g_iconst (v := 0) C dL_venues_1 (by decide) ?_
  refine g_aload_n C dL_venues_2 rfl 0 rfl ?_
  refine g_iload_n C dL_venues_3 rfl 1 rfl ?_
  refine g_cVi (n := 1) (exc := []) (exr := []) C [_] _ rfl rfl [] [] rfl rfl rfl rfl (fun _ h => absurd h (by simp)) (fun _ h => absurd h (by simp)) (fun _ h => absurd h (by simp)) (fun sz => c_X8_venues l μ ν a Ad w x1 r0 h D E sz) rfl gw_1305 gw_1 gw_1302 gw_1303 gw_1304 ⟨by decide +kernel, by decide +kernel, by decide +kernel⟩ ⟨rfl, rfl⟩ ⟨Nat.le_of_ble_eq_true rfl, Nat.le_of_ble_eq_true rfl⟩ (rcvT ⟨h0, fun e => absurd e (by decide)⟩ rfl rfl rfl) (Nat.le_of_ble_eq_true rfl) dL_venues_4 ⟨by show 0 + (0) ≤ 0; omega, by show 0 + (0) ≤ 0; omega⟩ (fun r u hp hx => ?_)
  obtain ⟨er, rfl⟩ := hp
  rw [er]
  try dsimp only [List.append_nil]
  refine g_widen (k := 0) (n := 0) (by omega) (by omega) ?_
  refine g_i2l C dL_venues_7 rfl ?_
  refine g_last C rfl h9 dL_venues_8 ?_
  refine g_goto (tgt := 15) C dL_venues_9 (by decide) ?_
  refine g_iconst (v := 0) C dL_venues_15 (by decide) ?_
  exact g_iret C hr rfl hz ⟨rfl, rfl, fun _ => rfl, fun _ => rfl⟩ ⟨rfl, rfl⟩ (fun j x h => by simp at h) dL_venues_16
set_option maxHeartbeats 4000000 in
set_option maxRecDepth 100000 in
theorem e1_L_venues (l : Launch) (hl : l.stackTraces = false) (B : Nat × (Nat → Nat)) (μ : MP) (ν : NC) (a : AS) (Ad : Nat → Nat → Nat) (w : Nat) (x1 : Int32) (r0 : Int32) (h : f_X8_venues w μ ν x1 = some (1, r0)) (h0 : 0 < ν.2 0) (h9 : 0 < ν.2 90 ∧ ν.1 90 0 = 1) : ∀ D E sz, vx_Met l yL_venues gwL_venues ({ frames := 8, cells := 1, slots := 6, locals := 148 } : Room) (cPh D E sz B (zS μ ν a Ad) [.ref (Ad 0 0), .int x1, .ref (Ad 90 0)]) (cQ D E sz (zS μ ν a Ad) [] (pI (fun r u => r = 1 ∧ u = (zS μ ν a Ad, [])))) (fun _ _ _ => False) (1) (6) (Aof (zS μ ν a Ad) [] sz) := by
  intro D E sz
  refine g_ofH (cc := cL_venues) (maxL := 4) (ret := some .int) (hh := [(0, 9, 12, 23)]) (own := "TradeLineLaw") (by decide) rfl rfl (Nat.le_of_ble_eq_true rfl) ?_
  intro p e s m args below meth c C hr hT hz hEv hN
  refine g_lv (lv' := [(0, .ref (Ad 0 0)), (1, .int x1), (2, .ref (Ad 90 0))]) [0, 1, 2] rfl ?_
  refine g_aload_n C dL_venues_0 rfl 2 rfl ?_
  refine g_iconst (v := 0) C dL_venues_1 (by decide) ?_
  refine g_aload_n C dL_venues_2 rfl 0 rfl ?_
  refine g_iload_n C dL_venues_3 rfl 1 rfl ?_
  refine g_hc (n := 1) (index := 1) C hEv ⟨rfl, rfl⟩ hN [_] _ rfl rfl (fun sz => x_X8_venues l hl B μ ν a Ad w x1 0 r0 h D E sz) rfl gw_1305 gw_1 gw_1302 gw_1303 gw_1304 ⟨by decide +kernel, by decide +kernel, by decide +kernel⟩ ⟨rfl, rfl⟩ ⟨Nat.le_of_ble_eq_true rfl, Nat.le_of_ble_eq_true rfl⟩ (rcvT ⟨h0, fun e => absurd e (by decide)⟩ rfl rfl rfl) (Nat.le_of_ble_eq_true rfl) dL_venues_4 ⟨by decide, by decide⟩ [] ⟨0, 9, 12, 23⟩ [] hT (fun z hz => absurd hz (by simp)) (by decide) (by decide) gw_499 (by decide) rfl (fun q9 => ?_)
  refine g_astore_n (lv' := [(3, .ref q9), (0, .ref (Ad 0 0)), (1, .int x1), (2, .ref (Ad 90 0))]) C dL_venues_12 rfl (by decide) rfl ?_
  refine g_iconst (v := 1) C dL_venues_13 (by decide) ?_
  refine g_vx ?_
  exact g_iret C hr rfl hz ⟨rfl, rfl, fun _ => rfl, fun _ => rfl⟩ ⟨rfl, rfl⟩ (fun j x h => by simp at h) dL_venues_14
set_option maxHeartbeats 4000000 in
set_option maxRecDepth 100000 in
theorem r_L_total (l : Launch) (B : Nat × (Nat → Nat)) (μ : MP) (ν : NC) (a : AS) (Ad : Nat → Nat → Nat) (w : Nat) (x1 : Int32) (x2 : Int32) (x3 : Int32) (x4 : Int32) (r0 : Int32) (h : f_X8_total w μ ν x1 x2 x3 x4 = some (0, r0)) (h0 : 0 < ν.2 0) (h9 : 0 < ν.2 90 ∧ ν.1 90 0 = 1) : ∀ D E sz, vx_Met l yL_total gwL_total ({ frames := 4, cells := 0, slots := 0, locals := 108 } : Room) (cPh D E sz B (zS μ ν a Ad) [.ref (Ad 0 0), .int x1, .int x2, .int x3, .int x4, .ref (Ad 90 0)]) (cQ D E sz (zS μ ν a Ad) [] (pI (fun r u => r = 0 ∧ u = (zS (up3 μ.1 90 0 0 r0, μ.2) ν a Ad, [])))) (fun _ _ _ => False) (0) (0) (Aof (zS μ ν a Ad) [] sz) := by
  intro D E sz
  refine g_ofH (cc := cL_total) (maxL := 7) (ret := some .int) (hh := [(0, 14, 17, 23), (0, 14, 21, 25)]) (own := "TradeLineLaw") (by decide) rfl rfl (Nat.le_of_ble_eq_true rfl) ?_
  intro p e s m args below meth c C hr hT hz hEv hN
  refine g_vx ?_
  refine g_lv (lv' := [(0, .ref (Ad 0 0)), (1, .int x1), (2, .int x2), (3, .int x3), (4, .int x4), (5, .ref (Ad 90 0))]) [0, 1, 2, 3, 4, 5] rfl ?_
  refine g_aload C dL_total_0 5 rfl ?_
  refine g_iconst (v := 0) C dL_total_2 (by decide) ?_
  refine g_aload_n C dL_total_3 rfl 0 rfl ?_
  refine g_iload_n C dL_total_4 rfl 1 rfl ?_
  refine g_iload_n C dL_total_5 rfl 2 rfl ?_
  refine g_iload_n C dL_total_6 rfl 3 rfl ?_
  refine g_iload C dL_total_7 4 rfl ?_
  refine g_cVi (n := 4) (exc := []) (exr := []) C [_, _, _, _] _ rfl rfl [] [] rfl rfl rfl rfl (fun _ h => absurd h (by simp)) (fun _ h => absurd h (by simp)) (fun _ h => absurd h (by simp)) (fun sz => c_X8_total l μ ν a Ad w x1 x2 x3 x4 r0 h D E sz) rfl gw_1316 gw_1 gw_1313 gw_1314 gw_1315 ⟨by decide +kernel, by decide +kernel, by decide +kernel⟩ ⟨rfl, rfl⟩ ⟨Nat.le_of_ble_eq_true rfl, Nat.le_of_ble_eq_true rfl⟩ (rcvT ⟨h0, fun e => absurd e (by decide)⟩ rfl rfl rfl) (Nat.le_of_ble_eq_true rfl) dL_total_9 ⟨by show 0 + (0) ≤ 0; omega, by show 0 + (0) ≤ 0; omega⟩ (fun r u hp hx => ?_)
  obtain ⟨er, rfl⟩ := hp
  rw [er]
  try dsimp only [List.append_nil]
  refine g_widen (k := 0) (n := 0) (by omega) (by omega) ?_
  refine g_i2l C dL_total_12 rfl ?_
  refine g_last C rfl h9 dL_total_13 ?_
  refine g_goto (tgt := 25) C dL_total_14 (by decide) ?_
  refine g_iconst (v := 0) C dL_total_25 (by decide) ?_
  exact g_iret C hr rfl hz ⟨rfl, rfl, fun _ => rfl, fun _ => rfl⟩ ⟨rfl, rfl⟩ (fun j x h => by simp at h) dL_total_26
set_option maxHeartbeats 4000000 in
set_option maxRecDepth 100000 in
theorem e1_L_total (l : Launch) (hl : l.stackTraces = false) (B : Nat × (Nat → Nat)) (μ : MP) (ν : NC) (a : AS) (Ad : Nat → Nat → Nat) (w : Nat) (x1 : Int32) (x2 : Int32) (x3 : Int32) (x4 : Int32) (r0 : Int32) (h : f_X8_total w μ ν x1 x2 x3 x4 = some (1, r0)) (h0 : 0 < ν.2 0) (h9 : 0 < ν.2 90 ∧ ν.1 90 0 = 1) : ∀ D E sz, vx_Met l yL_total gwL_total ({ frames := 8, cells := 1, slots := 6, locals := 149 } : Room) (cPh D E sz B (zS μ ν a Ad) [.ref (Ad 0 0), .int x1, .int x2, .int x3, .int x4, .ref (Ad 90 0)]) (cQ D E sz (zS μ ν a Ad) [] (pI (fun r u => r = 1 ∧ u = (zS μ ν a Ad, [])))) (fun _ _ _ => False) (1) (6) (Aof (zS μ ν a Ad) [] sz) := by
  intro D E sz
  refine g_ofH (cc := cL_total) (maxL := 7) (ret := some .int) (hh := [(0, 14, 17, 23), (0, 14, 21, 25)]) (own := "TradeLineLaw") (by decide) rfl rfl (Nat.le_of_ble_eq_true rfl) ?_
  intro p e s m args below meth c C hr hT hz hEv hN
  refine g_lv (lv' := [(0, .ref (Ad 0 0)), (1, .int x1), (2, .int x2), (3, .int x3), (4, .int x4), (5, .ref (Ad 90 0))]) [0, 1, 2, 3, 4, 5] rfl ?_
  refine g_aload C dL_total_0 5 rfl ?_
  refine g_iconst (v := 0) C dL_total_2 (by decide) ?_
  refine g_aload_n C dL_total_3 rfl 0 rfl ?_
  refine g_iload_n C dL_total_4 rfl 1 rfl ?_
  refine g_iload_n C dL_total_5 rfl 2 rfl ?_
  refine g_iload_n C dL_total_6 rfl 3 rfl ?_
  refine g_iload C dL_total_7 4 rfl ?_
  refine g_hc (n := 1) (index := 4) C hEv ⟨rfl, rfl⟩ hN [_, _, _, _] _ rfl rfl (fun sz => x_X8_total l hl B μ ν a Ad w x1 x2 x3 x4 0 r0 h D E sz) rfl gw_1316 gw_1 gw_1313 gw_1314 gw_1315 ⟨by decide +kernel, by decide +kernel, by decide +kernel⟩ ⟨rfl, rfl⟩ ⟨Nat.le_of_ble_eq_true rfl, Nat.le_of_ble_eq_true rfl⟩ (rcvT ⟨h0, fun e => absurd e (by decide)⟩ rfl rfl rfl) (Nat.le_of_ble_eq_true rfl) dL_total_9 ⟨by decide, by decide⟩ [] ⟨0, 14, 17, 23⟩ [⟨0, 14, 21, 25⟩] hT (fun z hz => absurd hz (by simp)) (by decide) (by decide) gw_499 (by decide) rfl (fun q9 => ?_)
  refine g_astore (lv' := [(6, .ref q9), (0, .ref (Ad 0 0)), (1, .int x1), (2, .int x2), (3, .int x3), (4, .int x4), (5, .ref (Ad 90 0))]) C dL_total_17 (by decide) rfl ?_
  refine g_iconst (v := 1) C dL_total_19 (by decide) ?_
  refine g_vx ?_
  exact g_iret C hr rfl hz ⟨rfl, rfl, fun _ => rfl, fun _ => rfl⟩ ⟨rfl, rfl⟩ (fun j x h => by simp at h) dL_total_20
set_option maxHeartbeats 4000000 in
set_option maxRecDepth 100000 in
theorem e2_L_total (l : Launch) (hl : l.stackTraces = false) (B : Nat × (Nat → Nat)) (μ : MP) (ν : NC) (a : AS) (Ad : Nat → Nat → Nat) (w : Nat) (x1 : Int32) (x2 : Int32) (x3 : Int32) (x4 : Int32) (r0 : Int32) (h : f_X8_total w μ ν x1 x2 x3 x4 = some (2, r0)) (h0 : 0 < ν.2 0) (h9 : 0 < ν.2 90 ∧ ν.1 90 0 = 1) : ∀ D E sz, vx_Met l yL_total gwL_total ({ frames := 8, cells := 1, slots := 6, locals := 149 } : Room) (cPh D E sz B (zS μ ν a Ad) [.ref (Ad 0 0), .int x1, .int x2, .int x3, .int x4, .ref (Ad 90 0)]) (cQ D E sz (zS μ ν a Ad) [] (pI (fun r u => r = 2 ∧ u = (zS μ ν a Ad, [])))) (fun _ _ _ => False) (1) (6) (Aof (zS μ ν a Ad) [] sz) := by
  intro D E sz
  refine g_ofH (cc := cL_total) (maxL := 7) (ret := some .int) (hh := [(0, 14, 17, 23), (0, 14, 21, 25)]) (own := "TradeLineLaw") (by decide) rfl rfl (Nat.le_of_ble_eq_true rfl) ?_
  intro p e s m args below meth c C hr hT hz hEv hN
  refine g_lv (lv' := [(0, .ref (Ad 0 0)), (1, .int x1), (2, .int x2), (3, .int x3), (4, .int x4), (5, .ref (Ad 90 0))]) [0, 1, 2, 3, 4, 5] rfl ?_
  refine g_aload C dL_total_0 5 rfl ?_
  refine g_iconst (v := 0) C dL_total_2 (by decide) ?_
  refine g_aload_n C dL_total_3 rfl 0 rfl ?_
  refine g_iload_n C dL_total_4 rfl 1 rfl ?_
  refine g_iload_n C dL_total_5 rfl 2 rfl ?_
  refine g_iload_n C dL_total_6 rfl 3 rfl ?_
  refine g_iload C dL_total_7 4 rfl ?_
  refine g_hc (n := 2) (index := 4) C hEv ⟨rfl, rfl⟩ hN [_, _, _, _] _ rfl rfl (fun sz => x_X8_total l hl B μ ν a Ad w x1 x2 x3 x4 1 r0 h D E sz) rfl gw_1316 gw_1 gw_1313 gw_1314 gw_1315 ⟨by decide +kernel, by decide +kernel, by decide +kernel⟩ ⟨rfl, rfl⟩ ⟨Nat.le_of_ble_eq_true rfl, Nat.le_of_ble_eq_true rfl⟩ (rcvT ⟨h0, fun e => absurd e (by decide)⟩ rfl rfl rfl) (Nat.le_of_ble_eq_true rfl) dL_total_9 ⟨by decide, by decide⟩ [⟨0, 14, 17, 23⟩] ⟨0, 14, 21, 25⟩ [] hT (fun z hz => by obtain rfl := List.mem_singleton.mp hz; exact ⟨by decide, exN 1, gw_499, by simp [eN]⟩) (by decide) (by decide) gw_500 (by decide) rfl (fun q9 => ?_)
  refine g_astore (lv' := [(6, .ref q9), (0, .ref (Ad 0 0)), (1, .int x1), (2, .int x2), (3, .int x3), (4, .int x4), (5, .ref (Ad 90 0))]) C dL_total_21 (by decide) rfl ?_
  refine g_iconst (v := 2) C dL_total_23 (by decide) ?_
  refine g_vx ?_
  exact g_iret C hr rfl hz ⟨rfl, rfl, fun _ => rfl, fun _ => rfl⟩ ⟨rfl, rfl⟩ (fun j x h => by simp at h) dL_total_24
