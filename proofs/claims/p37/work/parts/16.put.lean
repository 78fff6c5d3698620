def putW (σ : RS) (t z : Nat) (x y : Int32) (n : Nat) : RS := sM (sM (sM (sM σ 2 t 4 (nI (n + 1))) 10 t z x) 11 t z y) 12 t z 0
theorem grW_WW {σ : RS} {t cap h q1 q2 q3 : Nat} (hw : WW σ t cap h cap) (hc : cap < 1048576) (hc2 : 2 * cap ≤ 1048576) : WW (grW σ t cap h q1 q2 q3) t (2 * cap) 0 cap := by
  obtain ⟨w10, w11, w12, wh, wn, hh, hn, hcap, l2, l10, l11, l12⟩ := hw
  refine ⟨?_, ?_, ?_, ?_, ?_, by omega, by omega, hc2, ?_, ?_, ?_, ?_⟩
  · simp [grW, sW, rMsM, rPsP, rNsN, rAsA, rCsC, rMsR, rMsN, rMsP, rMsC, rMsA, rNsM, rNsP, rNsC, rNsA, rNsR, rPsM, rPsN, rPsC, rPsA, rPsR, rCsM, rCsN, rCsP, rCsA, rCsR, rAsM, rAsN, rAsP, rAsC, rAsR]
  · simp [grW, sW, rMsM, rPsP, rNsN, rAsA, rCsC, rMsR, rMsN, rMsP, rMsC, rMsA, rNsM, rNsP, rNsC, rNsA, rNsR, rPsM, rPsN, rPsC, rPsA, rPsR, rCsM, rCsN, rCsP, rCsA, rCsR, rAsM, rAsN, rAsP, rAsC, rAsR]
  · simp [grW, sW, rMsM, rPsP, rNsN, rAsA, rCsC, rMsR, rMsN, rMsP, rMsC, rMsA, rNsM, rNsP, rNsC, rNsA, rNsR, rPsM, rPsN, rPsC, rPsA, rPsR, rCsM, rCsN, rCsP, rCsA, rCsR, rAsM, rAsN, rAsP, rAsC, rAsR]
  · simp [grW, sW, rMsM, rPsP, rNsN, rAsA, rCsC, rMsR, rMsN, rMsP, rMsC, rMsA, rNsM, rNsP, rNsC, rNsA, rNsR, rPsM, rPsN, rPsC, rPsA, rPsR, rCsM, rCsN, rCsP, rCsA, rCsR, rAsM, rAsN, rAsP, rAsC, rAsR]; rfl
  · simp [grW, sW, rMsM, rPsP, rNsN, rAsA, rCsC, rMsR, rMsN, rMsP, rMsC, rMsA, rNsM, rNsP, rNsC, rNsA, rNsR, rPsM, rPsN, rPsC, rPsA, rPsR, rCsM, rCsN, rCsP, rCsA, rCsR, rAsM, rAsN, rAsP, rAsC, rAsR]; exact wn
  · exact live5 (by decide) rfl l2
  · exact live5 (by decide) rfl l10
  · exact live5 (by decide) rfl l11
  · exact live5 (by decide) rfl l12
set_option maxHeartbeats 4000000 in
set_option maxRecDepth 100000 in
theorem lo_X7_put {p : Program} {l : Launch} {e : Env} {R : Room} {s : State} {m : MethodId} {args : Array Value} {below : List Frame} {meth : Method} {c : Code} {D : va_G} {E : Nat → ClassId} {A : Nat → Prop} {Q : State → Prop} {c0 s0 : Nat} (C : cx p s m args meth c D E A cX7_put 4 "TradeLine$Way") (σ : RS) (t cap h n : Nat) (x y : Int32) (hw : WW σ t cap h n) (hlt : n < cap) (q0 : Nat) (hq0 : rA σ 2 t = q0) (hR1 : 1 ≤ R.frames) (hR2 : 8 + (3 + 11) ≤ R.locals) (hcc : c0 + 0 ≤ R.cells ∧ s0 + 0 ≤ R.slots)
    (k : ∀ z : Int32, G p l e R s m args below meth c D E A 4 Q (putW σ t (sl cap h n) x y n) [] c0 s0 71 [(3, .int z), (0, .ref q0), (1, .int x), (2, .int y)] []) : G p l e R s m args below meth c D E A 4 Q σ [] c0 s0 16 [(0, .ref q0), (1, .int x), (2, .int y)] [] := by
  obtain ⟨w10, w11, w12, wh, wn, hh, hn, hcap, l2, l10, l11, l12⟩ := id hw
  have hz : sl cap h n < cap := sl_lt hh hlt
  have ez : (nI (sl cap h n)).toNatClampNeg = sl cap h n := nI_clamp (by omega)
  have hw2 : WW (sM σ 2 t 4 (nI (n + 1))) t cap h (n + 1) := ⟨w10, w11, w12, by rw [rMsM, if_neg (by omega)]; exact wh, by rw [rMsM, if_pos ⟨rfl, rfl, rfl⟩], hh, hlt, hcap, l2, l10, l11, l12⟩
  refine g_aload_n C dX7_put_16 rfl 0 rfl ?_
  refine g_get (k := 2) (i := t) (ref := "TradeLine$Way") C (by exact hq0) (by exact l2) rfl rfl inGX7 4 (by decide) gw_82 (fun _ h => h) rfl dX7_put_17 ?_
  refine g_aload_n C dX7_put_20 rfl 0 rfl ?_
  refine g_get (k := 2) (i := t) (ref := "TradeLine$Way") C (by exact hq0) (by exact l2) rfl rfl inGX7 0 (by decide) gw_78 (fun _ h => h) rfl dX7_put_21 ?_
  refine g_topr (fun qq1 eqq1 => ?_)
  refine g_alen (k := 10) (i := t) C (by exact eqq1) (by exact l10) (by decide) rfl dX7_put_24 ?_
  refine g_icmp_lt (tgt := 29) C dX7_put_25 (by decide) (fun c25 => ?_) (fun c25 => ?_)
  · skip
    refine g_aload_n C dX7_put_29 rfl 0 rfl ?_
    refine g_dup C dX7_put_30 rfl ?_
    refine g_get (k := 2) (i := t) (ref := "TradeLine$Way") C (by exact hq0) (by exact l2) rfl rfl inGX7 4 (by decide) gw_82 (fun _ h => h) rfl dX7_put_31 ?_
    refine g_iconst (v := 1) C dX7_put_34 (by decide) ?_
    refine g_iadd C dX7_put_35 ?_
    rw [wn, nI_1]
    refine g_put (k := 2) (i := t) (ref := "TradeLine$Way") C (by exact hq0) (by exact l2) rfl rfl inGX7 tyX7 tyX7_ok nmX7 4 (by decide) gw_82 (fun _ h => h) rfl (tyX7_ok 4 (by decide)) rfl rfl (by simp [fvs]) (by simp [fvs, up1]) dX7_put_36 ?_
    refine g_aload_n C dX7_put_39 rfl 0 rfl ?_
    refine g_aload_n C dX7_put_40 rfl 0 rfl ?_
    refine g_get (k := 2) (i := t) (ref := "TradeLine$Way") C (by exact hq0) (by exact l2) rfl rfl inGX7 4 (by decide) gw_82 (fun _ h => h) rfl dX7_put_41 ?_
    refine g_iconst (v := 1) C dX7_put_44 (by decide) ?_
    refine g_isub C dX7_put_45 ?_
    have e46 : rM (sM σ 2 t 4 (nI (n + 1))) 2 t 4 - 1 = nI n := by rw [rMsM, if_pos ⟨rfl, rfl, rfl⟩]; exact nI_pred n
    rw [e46]
    refine g_cVi (n := 1) (exc := []) (exr := []) C [_] _ rfl rfl [] [] rfl rfl rfl rfl (fun _ h => absurd h (by simp)) (fun _ h => absurd h (by simp)) (fun _ h => absurd h (by simp)) (fun sz => hq0 ▸ k_X7_slotOf l (sM σ 2 t 4 (nI (n + 1))) t cap h (n + 1) hw2 n (by omega) D E sz) rfl gw_422 gw_6 gw_419 gw_421 gs_7 ⟨by decide +kernel, by decide +kernel, by decide +kernel⟩ ⟨rfl, rfl⟩ ⟨by exact hR1, by exact hR2⟩ (rcvT (k := 2) (i := t) (by exact l2) (by exact hq0) rfl rfl) (Nat.le_of_ble_eq_true rfl) dX7_put_46 hcc (fun r u hp hx => ?_)
    obtain ⟨rfl, rfl⟩ := hp
    rw [slx_in (show n < n + 1 by omega)]
    try dsimp only [List.append_nil]
    refine g_istore_n (lv' := [(3, .int (nI (sl cap h n))), (0, .ref q0), (1, .int x), (2, .int y)]) C dX7_put_49 rfl (by decide) rfl ?_
    refine g_aload_n C dX7_put_50 rfl 1 rfl ?_
    refine g_get (k := 2) (i := t) (ref := "TradeLine$Way") C (by exact hq0) (by exact l2) rfl rfl inGX7 0 (by decide) gw_78 (fun _ h => h) rfl dX7_put_51 ?_
    refine g_topr (fun qq2 eqq2 => ?_)
    refine g_iload_n C dX7_put_54 rfl 0 rfl ?_
    refine g_iload_n C dX7_put_55 rfl 2 rfl ?_
    refine g_iast (k := 10) (i := t) C (by exact eqq2) (by exact l10) (by decide) rfl (by exact (by show vp_in _ (rN σ 10 t); rw [w10]; exact vp_in_nI hz (by omega))) dX7_put_56 ?_
    refine g_aload_n C dX7_put_57 rfl 1 rfl ?_
    refine g_get (k := 2) (i := t) (ref := "TradeLine$Way") C (by exact hq0) (by exact l2) rfl rfl inGX7 1 (by decide) gw_79 (fun _ h => h) rfl dX7_put_58 ?_
    refine g_topr (fun qq3 eqq3 => ?_)
    refine g_iload_n C dX7_put_61 rfl 0 rfl ?_
    refine g_iload_n C dX7_put_62 rfl 3 rfl ?_
    refine g_iast (k := 11) (i := t) C (by exact eqq3) (by exact l11) (by decide) rfl (by exact (by show vp_in _ (rN σ 11 t); rw [w11]; exact vp_in_nI hz (by omega))) dX7_put_63 ?_
    refine g_aload_n C dX7_put_64 rfl 1 rfl ?_
    refine g_get (k := 2) (i := t) (ref := "TradeLine$Way") C (by exact hq0) (by exact l2) rfl rfl inGX7 2 (by decide) gw_80 (fun _ h => h) rfl dX7_put_65 ?_
    refine g_topr (fun qq4 eqq4 => ?_)
    refine g_iload_n C dX7_put_68 rfl 0 rfl ?_
    refine g_iconst (v := 0) C dX7_put_69 (by decide) ?_
    refine g_zast (k := 12) (i := t) C (by exact eqq4) (by exact l12) (by decide) rfl (by exact (by show vp_in _ (rN σ 12 t); rw [w12]; exact vp_in_nI hz (by omega))) dX7_put_70 ?_
    rw [ez]
    exact k _
  · exact absurd c25 (fun q => q (by rw [wn, w10]; exact nI_lt hlt (by omega)))
set_option maxHeartbeats 4000000 in
set_option maxRecDepth 100000 in
theorem k_X7_put (l : Launch) (σ : RS) (t cap h n : Nat) (x y : Int32) (hw : WW σ t cap h n) (hlt : n < cap) : ∀ D E sz, Met l yX7_put gwX7_put ({ frames := 1, cells := 0, slots := 0, locals := 26 } : Room) (cP D E sz σ [] [.ref (rA σ 2 t), .int x, .int y]) (cQ D E sz σ [] (pV (fun u => u = (putW σ t (sl cap h n) x y n, [])))) (0) (0) (Aof σ [] sz) := by
  obtain ⟨w10, w11, w12, wh, wn, hh, hn, hcap, l2, l10, l11, l12⟩ := id hw
  intro D E sz
  refine g_of (cc := cX7_put) (maxL := 4) (ret := none) (own := "TradeLine$Way") (by decide) rfl rfl (Nat.le_of_ble_eq_true rfl) ?_
  intro p e s m args below meth c C hr hin hz ha hwr
  refine g_aload_n C dX7_put_0 rfl 0 rfl ?_
  refine g_get (k := 2) (i := t) (ref := "TradeLine$Way") C (by exact rfl) (by exact l2) rfl rfl inGX7 4 (by decide) gw_82 (fun _ h => h) rfl dX7_put_1 ?_
  refine g_aload_n C dX7_put_4 rfl 0 rfl ?_
  refine g_get (k := 2) (i := t) (ref := "TradeLine$Way") C (by exact rfl) (by exact l2) rfl rfl inGX7 0 (by decide) gw_78 (fun _ h => h) rfl dX7_put_5 ?_
  refine g_topr (fun qq1 eqq1 => ?_)
  refine g_alen (k := 10) (i := t) C (by exact eqq1) (by exact l10) (by decide) rfl dX7_put_8 ?_
  refine g_icmp_lt (tgt := 16) C dX7_put_9 (by decide) (fun c9 => ?_) (fun c9 => ?_)
  · skip
    refine lo_X7_put C σ t cap h n x y hw hlt _ (by exact rfl) (Nat.le_of_ble_eq_true rfl) (Nat.le_of_ble_eq_true rfl) ⟨Nat.le_refl _, Nat.le_refl _⟩ (fun z => ?_)
    exact g_vret C hr hz ⟨rfl, rfl, fun _ => rfl, fun _ => rfl⟩ (rfl) (fun j x h => by simp at h) dX7_put_71
  · exact absurd c9 (fun q => q (by rw [wn, w10]; exact nI_lt hlt (by omega)))
set_option maxHeartbeats 4000000 in
set_option maxRecDepth 100000 in
theorem k_X7_put_g (l : Launch) (σ : RS) (t cap h : Nat) (x y : Int32) (hw : WW σ t cap h cap) (hb : ∀ j, rM σ 12 t j = 0 ∨ rM σ 12 t j = 1) (hc : 2 * cap ≤ 1048576) : ∀ D E sz, Met l yX7_put gwX7_put ({ frames := 1, cells := 3, slots := 6 * cap, locals := 26 } : Room) (cP D E sz σ [] [.ref (rA σ 2 t), .int x, .int y]) (cQ D E sz σ [] (pV (fun u => ∃ q1 q2 q3, u = (putW (grW σ t cap h q1 q2 q3) t (sl (2 * cap) 0 cap) x y cap, [])))) (3) (6 * cap) (Aof σ [] sz) := by
  obtain ⟨w10, w11, w12, wh, wn, hh, hn, hcap, l2, l10, l11, l12⟩ := id hw
  intro D E sz
  refine g_of (cc := cX7_put) (maxL := 4) (ret := none) (own := "TradeLine$Way") (by decide) rfl rfl (Nat.le_of_ble_eq_true rfl) ?_
  intro p e s m args below meth c C hr hin hz ha hwr
  refine g_aload_n C dX7_put_0 rfl 0 rfl ?_
  refine g_get (k := 2) (i := t) (ref := "TradeLine$Way") C (by exact rfl) (by exact l2) rfl rfl inGX7 4 (by decide) gw_82 (fun _ h => h) rfl dX7_put_1 ?_
  refine g_aload_n C dX7_put_4 rfl 0 rfl ?_
  refine g_get (k := 2) (i := t) (ref := "TradeLine$Way") C (by exact rfl) (by exact l2) rfl rfl inGX7 0 (by decide) gw_78 (fun _ h => h) rfl dX7_put_5 ?_
  refine g_topr (fun qq1 eqq1 => ?_)
  refine g_alen (k := 10) (i := t) C (by exact eqq1) (by exact l10) (by decide) rfl dX7_put_8 ?_
  refine g_icmp_lt (tgt := 16) C dX7_put_9 (by decide) (fun c9 => ?_) (fun c9 => ?_)
  · exact absurd c9 (by rw [wn, w10]; exact nI_nlt (Nat.le_refl _) (by omega))
  · skip
    refine g_aload_n C dX7_put_12 rfl 0 rfl ?_
    refine g_cVv (n := 0) (exc := []) (exr := []) C [] _ rfl rfl [] [] rfl rfl rfl rfl (fun _ h => absurd h (by simp)) (fun _ h => absurd h (by simp)) (fun _ h => absurd h (by simp)) (fun sz => k_X7_grow l σ t cap h cap hw hb (by omega) D E sz) rfl gw_417 gw_6 gw_414 gw_416 gs_6 ⟨by decide +kernel, by decide +kernel, by decide +kernel⟩ ⟨rfl, rfl⟩ ⟨Nat.le_of_ble_eq_true rfl, Nat.le_of_ble_eq_true rfl⟩ (rcvT (k := 2) (i := t) (by exact l2) (by exact rfl) rfl rfl) (Nat.le_of_ble_eq_true rfl) dX7_put_13 ⟨Nat.le_refl _, (by show 0 + 6 * cap ≤ 6 * cap; omega)⟩ (fun u hp hx => ?_)
    obtain ⟨q1, q2, q3, rfl⟩ := hp
    try dsimp only [List.append_nil]
    have hw2 := grW_WW (q1 := q1) (q2 := q2) (q3 := q3) hw (by omega) (by omega)
    refine lo_X7_put C (grW σ t cap h q1 q2 q3) t (2 * cap) 0 cap x y hw2 (by omega) _ (by exact rfl) (Nat.le_of_ble_eq_true rfl) (Nat.le_of_ble_eq_true rfl) ⟨(by show 0 + 3 + 0 ≤ 3; omega), (by show 0 + 6 * cap + 0 ≤ 6 * cap; omega)⟩ (fun z => ?_)
    refine g_widen (k := 3) (n := 6 * cap) (by omega) (by omega) ?_
    exact g_vret C hr hz ⟨rfl, rfl, fun _ => rfl, fun _ => rfl⟩ (⟨q1, q2, q3, rfl⟩) (fun j x h => by simp at h) dX7_put_71
