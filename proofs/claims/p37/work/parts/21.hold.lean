/-- the number k is held back as x -/
def hdS (σ : RS) (t k : Nat) (x : Int32) : RS := sM (if rM σ 13 t k = 0 then sM σ 3 t 1 (rM σ 3 t 1 + 1) else σ) 13 t k x
set_option maxHeartbeats 4000000 in
set_option maxRecDepth 100000 in
theorem lo_hold {p : Program} {l : Launch} {e : Env} {R : Room} {s : State} {m : MethodId} {args : Array Value} {below : List Frame} {meth : Method} {c : Code} {D : va_G} {E : Nat → ClassId} {A : Nat → Prop} {Q : State → Prop} {c0 s0 : Nat} (C : cx p s m args meth c D E A cX0_hold 3 "TradeLine$Back") (σ : RS) (t k q0 : Nat) (x : Int32) (hq0 : rA σ 3 t = q0) (l3 : live σ 3 t) (l13 : live σ 13 t) (hk : k < 2 ^ 30) (hkN : k < rN σ 13 t) (hN : rN σ 13 t < 2 ^ 30) (kk : G p l e R s m args below meth c D E A 3 Q (hdS σ t k x) [] c0 s0 60 [(0, .ref q0), (1, .int (nI k)), (2, .int x)] []) : G p l e R s m args below meth c D E A 3 Q σ [] c0 s0 34 [(0, .ref q0), (1, .int (nI k)), (2, .int x)] [] := by
  have ek : (nI k).toNatClampNeg = k := nI_clamp (by omega)
  have hin : vp_in (nI k) (rN σ 13 t) := vp_in_nI hkN (by omega)
  unfold hdS at kk
  refine g_aload_n C dX0_hold_34 rfl 0 rfl ?_
  refine g_get (k := 3) (i := t) (ref := "TradeLine$Back") C (by exact hq0) (by exact l3) rfl rfl inGX0 0 (by decide) gw_103 (fun _ h => h) rfl dX0_hold_35 ?_
  refine g_topr (fun qq1 eqq1 => ?_)
  refine g_iload_n C dX0_hold_38 rfl 1 rfl ?_
  refine g_iald (k := 13) (i := t) C (by exact eqq1) (by exact l13) rfl (by exact hin) dX0_hold_39 ?_
  refine g_if_ne (tgt := 53) C dX0_hold_40 (by decide) (fun c40 => ?_) (fun c40 => ?_)
  · skip
    refine g_aload_n C dX0_hold_53 rfl 0 rfl ?_
    refine g_get (k := 3) (i := t) (ref := "TradeLine$Back") C (by exact hq0) (by exact l3) rfl rfl inGX0 0 (by decide) gw_103 (fun _ h => h) rfl dX0_hold_54 ?_
    refine g_topr (fun qq2 eqq2 => ?_)
    refine g_iload_n C dX0_hold_57 rfl 1 rfl ?_
    refine g_iload_n C dX0_hold_58 rfl 2 rfl ?_
    refine g_iast (k := 13) (i := t) C (by exact eqq2) (by exact l13) (by decide) rfl (by exact hin) dX0_hold_59 ?_
    rw [ek] at c40 ⊢
    first | (rw [if_neg c40] at kk; exact kk) | (rw [if_pos c40] at kk; exact kk)
  · skip
    refine g_aload_n C dX0_hold_43 rfl 0 rfl ?_
    refine g_dup C dX0_hold_44 rfl ?_
    refine g_get (k := 3) (i := t) (ref := "TradeLine$Back") C (by exact hq0) (by exact l3) rfl rfl inGX0 1 (by decide) gw_104 (fun _ h => h) rfl dX0_hold_45 ?_
    refine g_iconst (v := 1) C dX0_hold_48 (by decide) ?_
    refine g_iadd C dX0_hold_49 ?_
    refine g_put (k := 3) (i := t) (ref := "TradeLine$Back") C (by exact hq0) (by exact l3) rfl rfl inGX0 tyX0 tyX0_ok nmX0 1 (by decide) gw_104 (fun _ h => h) rfl (tyX0_ok 1 (by decide)) rfl rfl (by simp [fvs]) (by simp [fvs, up1]) dX0_hold_50 ?_
    refine g_aload_n C dX0_hold_53 rfl 0 rfl ?_
    refine g_get (k := 3) (i := t) (ref := "TradeLine$Back") C (by exact hq0) (by exact l3) rfl rfl inGX0 0 (by decide) gw_103 (fun _ h => h) rfl dX0_hold_54 ?_
    refine g_topr (fun qq3 eqq3 => ?_)
    refine g_iload_n C dX0_hold_57 rfl 1 rfl ?_
    refine g_iload_n C dX0_hold_58 rfl 2 rfl ?_
    refine g_iast (k := 13) (i := t) C (by exact eqq3) (by exact l13) (by decide) rfl (by exact hin) dX0_hold_59 ?_
    rw [ek] at c40 ⊢
    first | (rw [if_neg c40] at kk; exact kk) | (rw [if_pos c40] at kk; exact kk)
set_option maxHeartbeats 4000000 in
set_option maxRecDepth 100000 in
theorem k_X0_hold (l : Launch) (σ : RS) (t k : Nat) (x : Int32) (l3 : live σ 3 t) (l13 : live σ 13 t) (hk : k ≤ 1048576) (hkN : k < rN σ 13 t) (hN : rN σ 13 t < 2 ^ 30) : ∀ D E sz, Met l yX0_hold gwX0_hold ({ frames := 0, cells := 0, slots := 0, locals := 0 } : Room) (cP D E sz σ [] [.ref (rA σ 3 t), .int (nI k), .int x]) (cQ D E sz σ [] (pV (fun u => u = (hdS σ t k x, [])))) (0) (0) (Aof σ [] sz) := by
  intro D E sz
  refine g_of (cc := cX0_hold) (maxL := 3) (ret := none) (own := "TradeLine$Back") (by decide) rfl rfl (Nat.le_of_ble_eq_true rfl) ?_
  intro p e s m args below meth c C hr hin hz ha hwr
  refine g_iload_n C dX0_hold_0 rfl 1 rfl ?_
  refine g_if_lt (tgt := 10) C dX0_hold_1 (by decide) (fun c1 => ?_) (fun c1 => ?_)
  · exact absurd c1 (nI_pos (by omega))
  · skip
    refine g_iload_n C dX0_hold_4 rfl 1 rfl ?_
    refine g_ldc (v := 1048576) C gw_582 dX0_hold_5 ?_
    refine g_icmp_le (tgt := 11) C dX0_hold_7 (by decide) (fun c7 => ?_) (fun c7 => ?_)
    · skip
      refine g_iload_n C dX0_hold_11 rfl 1 rfl ?_
      refine g_aload_n C dX0_hold_12 rfl 0 rfl ?_
      refine g_get (k := 3) (i := t) (ref := "TradeLine$Back") C (by exact rfl) (by exact l3) rfl rfl inGX0 0 (by decide) gw_103 (fun _ h => h) rfl dX0_hold_13 ?_
      refine g_topr (fun qq1 eqq1 => ?_)
      refine g_alen (k := 13) (i := t) C (by exact eqq1) (by exact l13) (by decide) rfl dX0_hold_16 ?_
      refine g_icmp_lt (tgt := 34) C dX0_hold_17 (by decide) (fun c17 => ?_) (fun c17 => ?_)
      · skip
        refine lo_hold C σ t k _ x (by exact rfl) l3 l13 (by omega) hkN hN ?_
        exact g_vret C hr hz (by unfold hdS; split <;> exact ⟨rfl, rfl, fun _ => rfl, fun _ => rfl⟩) rfl (fun j x h => by simp at h) dX0_hold_60
      · exact absurd c17 (fun q => q (nI_lt hkN (by omega)))
    · exact absurd c7 (fun q => q (by rw [show (1048576 : Int32) = nI 1048576 from by decide +kernel]; exact nI_le hk (by omega)))
set_option maxHeartbeats 4000000 in
set_option maxRecDepth 100000 in
theorem k_X0_hold_g (l : Launch) (σ : RS) (t k : Nat) (x : Int32) (l3 : live σ 3 t) (l13 : live σ 13 t) (hk : k ≤ 1048576) (hkN : rN σ 13 t ≤ k) (hk0 : 0 < k) : ∀ D E sz, Met l yX0_hold gwX0_hold ({ frames := 2, cells := 1, slots := 2 * k, locals := 40 } : Room) (cP D E sz σ [] [.ref (rA σ 3 t), .int (nI k), .int x]) (cQ D E sz σ [] (pV (fun u => ∃ q, u = (hdS (sW σ 13 t (va_cpy (rM σ 13 t) (fun _ => 0) 0 0 (rN σ 13 t)) (2 * k) q) t k x, [])))) (1) (2 * k) (Aof σ [] sz) := by
  intro D E sz
  refine g_of (cc := cX0_hold) (maxL := 3) (ret := none) (own := "TradeLine$Back") (by decide) rfl rfl (Nat.le_of_ble_eq_true rfl) ?_
  intro p e s m args below meth c C hr hin hz ha hwr
  refine g_iload_n C dX0_hold_0 rfl 1 rfl ?_
  refine g_if_lt (tgt := 10) C dX0_hold_1 (by decide) (fun c1 => ?_) (fun c1 => ?_)
  · exact absurd c1 (nI_pos (by omega))
  · skip
    refine g_iload_n C dX0_hold_4 rfl 1 rfl ?_
    refine g_ldc (v := 1048576) C gw_582 dX0_hold_5 ?_
    refine g_icmp_le (tgt := 11) C dX0_hold_7 (by decide) (fun c7 => ?_) (fun c7 => ?_)
    · skip
      refine g_iload_n C dX0_hold_11 rfl 1 rfl ?_
      refine g_aload_n C dX0_hold_12 rfl 0 rfl ?_
      refine g_get (k := 3) (i := t) (ref := "TradeLine$Back") C (by exact rfl) (by exact l3) rfl rfl inGX0 0 (by decide) gw_103 (fun _ h => h) rfl dX0_hold_13 ?_
      refine g_topr (fun qq1 eqq1 => ?_)
      refine g_alen (k := 13) (i := t) C (by exact eqq1) (by exact l13) (by decide) rfl dX0_hold_16 ?_
      refine g_icmp_lt (tgt := 34) C dX0_hold_17 (by decide) (fun c17 => ?_) (fun c17 => ?_)
      · exact absurd c17 (nI_nlt hkN (by omega))
      · skip
        refine g_aload_n C dX0_hold_20 rfl 0 rfl ?_
        refine g_aload_n C dX0_hold_21 rfl 0 rfl ?_
        refine g_get (k := 3) (i := t) (ref := "TradeLine$Back") C (by exact rfl) (by exact l3) rfl rfl inGX0 0 (by decide) gw_103 (fun _ h => h) rfl dX0_hold_22 ?_
        refine g_topr (fun qq2 eqq2 => ?_)
        refine g_iconst (v := 2) C dX0_hold_25 (by decide) ?_
        refine g_iload_n C dX0_hold_26 rfl 1 rfl ?_
        refine g_imul C dX0_hold_27 ?_
        rw [two_nI]
        refine g_cSq (n := 2) (exc := []) (exr := []) C [_, _] _ rfl rfl [] [] rfl rfl rfl rfl (fun _ h => absurd h (by simp)) (fun _ h => absurd h (by simp)) (fun _ h => absurd h (by simp)) (fun sz => eqq2 ▸ k_copyOf_13 l σ t (rN σ 13 t) (2 * k) rfl l13 (by omega) (by omega) D E sz) rfl gw_318 gw_17 gw_583 gw_317 ⟨by decide +kernel, by decide +kernel, by decide +kernel⟩ ⟨rfl, rfl⟩ ⟨Nat.le_of_ble_eq_true rfl, Nat.le_of_ble_eq_true rfl⟩ (Nat.le_of_ble_eq_true rfl) dX0_hold_28 ⟨Nat.le_refl _, (by show 0 + 2 * k ≤ 2 * k; omega)⟩ (fun r u hp hx => ?_)
        obtain ⟨q1, rfl, rfl⟩ := hp
        try dsimp only [List.append_nil]
        refine g_putA (kt := 13) (ko := 3) (t := t) (q := q1) (N := 2 * k) (f := va_cpy (rM σ 13 t) (fun _ => 0) 0 0 (rN σ 13 t)) (cA := E 0) (ref := "TradeLine$Back") (ex' := []) C (Or.inr (Or.inr (Or.inr rfl))) (Or.inr rfl) ⟨fun _ => rfl, fun h => absurd rfl h⟩ (by exact rfl) (by exact l3) (by exact l13) 0 rfl (hx 0 _ rfl).1 (ct_sW_i _ rfl _ _ _ _) [] rfl rfl (by decide) rfl inGX0 tyX0 tyX0_ok nmX0 0 (by decide) gw_103 (fun _ h => h) rfl (tyX0_ok 0 (by decide)) rfl rfl (by simp [fvs]) (by simp [fvs, sW, rMsM, rPsP, rNsN, rAsA, rCsC, rMsR, rMsN, rMsP, rMsC, rMsA, rNsM, rNsP, rNsC, rNsA, rNsR, rPsM, rPsN, rPsC, rPsA, rPsR, rCsM, rCsN, rCsP, rCsA, rCsR, rAsM, rAsN, rAsP, rAsC, rAsR]) dX0_hold_31 ?_
        refine lo_hold C (sW σ 13 t (va_cpy (rM σ 13 t) (fun _ => 0) 0 0 (rN σ 13 t)) (2 * k) q1) t k _ x (by exact rfl) (live5 (by decide) rfl l3) (live5 (by decide) rfl l13) (by omega) (by show k < up2 (rN σ) 13 t (2 * k) 13 t; rw [up2_s]; omega) (by show up2 (rN σ) 13 t (2 * k) 13 t < _; rw [up2_s]; omega) ?_
        refine g_widen (k := 1) (n := 2 * k) (by omega) (by omega) ?_
        exact g_vret C hr hz (by unfold hdS; split <;> exact ⟨rfl, rfl, fun _ => rfl, fun _ => rfl⟩) ⟨q1, rfl⟩ (fun j x h => by simp at h) dX0_hold_60
    · exact absurd c7 (fun q => q (by rw [show (1048576 : Int32) = nI 1048576 from by decide +kernel]; exact nI_le hk (by omega)))
