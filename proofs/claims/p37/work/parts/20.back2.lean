theorem tkS_C (σ : RS) (t k : Nat) : (tkS σ t k).2 = σ.2 := by unfold tkS; split <;> rfl
/-- what stays of what is held back when n numbers from a on are dropped -/
def drS (t : Nat) : Nat → Nat → RS → RS
  | 0, _, σ => σ
  | n + 1, a, σ => if 0 < rM σ 3 t 1 then drS t n (a + 1) (tkS σ t a) else σ
theorem drS_C (t : Nat) : ∀ (n a : Nat) (σ : RS), (drS t n a σ).2 = σ.2
  | 0, _, _ => rfl
  | n + 1, a, σ => by
    unfold drS
    split
    · rw [drS_C t n (a + 1) (tkS σ t a), tkS_C]
    · rfl
theorem live_2 {σ σ' : RS} (h : σ'.2 = σ.2) {k i : Nat} (hl : live σ k i) : live σ' k i := by
  unfold live rC rN at *
  rw [h]; exact hl
theorem stq_2 {σ σ' : RS} (h : σ'.2 = σ.2) : stq σ σ' := by
  unfold stq rC rA
  rw [h]; exact ⟨rfl, rfl, fun _ => rfl, fun _ => rfl⟩
set_option maxHeartbeats 4000000 in
set_option maxRecDepth 100000 in
theorem lo_dropB {p : Program} {l : Launch} {e : Env} {R : Room} {s : State} {m : MethodId} {args : Array Value} {below : List Frame} {meth : Method} {c : Code} {D : va_G} {E : Nat → ClassId} {A : Nat → Prop} {Q : State → Prop} {c0 s0 : Nat} (C : cx p s m args meth c D E A cX0_dropBetween 4 "TradeLine$Back") (t b q0 : Nat) (x1 : Int32) (hb : b < 2 ^ 30) (hR1 : 1 ≤ R.frames) (hR2 : 8 + (3 + 11) ≤ R.locals) (hcc : c0 + 0 ≤ R.cells ∧ s0 + 0 ≤ R.slots) (τ : RS) (k : ∀ x : Int32, G p l e R s m args below meth c D E A 4 Q τ [] c0 s0 26 [(3, .int x), (0, .ref q0), (1, .int x1), (2, .int (nI b))] []) : ∀ (n a : Nat) (σ : RS), a + n = b ∨ (b ≤ a ∧ n = 0) → drS t n a σ = τ → rA σ 3 t = q0 → live σ 3 t → live σ 13 t → rN σ 13 t < 2 ^ 30 → a < 2 ^ 30 → G p l e R s m args below meth c D E A 4 Q σ [] c0 s0 2 [(3, .int (nI a)), (0, .ref q0), (1, .int x1), (2, .int (nI b))] [] := by
  intro n
  induction n with
  | zero =>
    intro a σ hab hd hq0 l3 l13 hN ha
    have hba : b ≤ a := by omega
    have hst : σ = τ := hd
    subst hst
    refine g_iload_n C dX0_dropBetween_2 rfl 0 rfl ?_
    refine g_iload_n C dX0_dropBetween_3 rfl 3 rfl ?_
    refine g_icmp_ge (tgt := 26) C dX0_dropBetween_4 (by decide) (fun c4 => ?_) (fun c4 => ?_)
    · skip
      exact k _
    · exact absurd c4 (fun q => q (nI_le hba (by omega)))
  | succ n ih =>
    intro a σ hab hd hq0 l3 l13 hN ha
    have hba : a < b := by omega
    unfold drS at hd
    refine g_iload_n C dX0_dropBetween_2 rfl 0 rfl ?_
    refine g_iload_n C dX0_dropBetween_3 rfl 3 rfl ?_
    refine g_icmp_ge (tgt := 26) C dX0_dropBetween_4 (by decide) (fun c4 => ?_) (fun c4 => ?_)
    · exact absurd c4 (nI_ge hba (by omega))
    · skip
      refine g_aload_n C dX0_dropBetween_7 rfl 1 rfl ?_
      refine g_get (k := 3) (i := t) (ref := "TradeLine$Back") C (by exact hq0) (by exact l3) rfl rfl inGX0 1 (by decide) gw_104 (fun _ h => h) rfl dX0_dropBetween_8 ?_
      refine g_if_le (tgt := 26) C dX0_dropBetween_11 (by decide) (fun c11 => ?_) (fun c11 => ?_)
      · skip
        rw [if_neg (Int32.not_lt.mpr c11)] at hd
        subst hd
        exact k _
      · skip
        refine g_aload_n C dX0_dropBetween_14 rfl 1 rfl ?_
        refine g_iload_n C dX0_dropBetween_15 rfl 0 rfl ?_
        rw [if_pos (Int32.not_le.mp c11)] at hd
        refine g_cVi (n := 1) (exc := []) (exr := []) C [_] _ rfl rfl [] [] rfl rfl rfl rfl (fun _ h => absurd h (by simp)) (fun _ h => absurd h (by simp)) (fun _ h => absurd h (by simp)) (fun sz => hq0 ▸ k_X0_take l σ t l3 l13 hN a ha D E sz) rfl gw_991 gw_7 gw_988 gw_989 gw_990 ⟨by decide +kernel, by decide +kernel, by decide +kernel⟩ ⟨rfl, rfl⟩ ⟨by exact hR1, by exact hR2⟩ (rcvT (k := 3) (i := t) (by exact l3) (by exact hq0) rfl rfl) (Nat.le_of_ble_eq_true rfl) dX0_dropBetween_16 hcc (fun r u hp hx => ?_)
        obtain ⟨-, rfl⟩ := hp
        try dsimp only [List.append_nil]
        refine g_pop C dX0_dropBetween_19 rfl ?_
        obtain ⟨xx1, exx1⟩ : ∃ y : Int32, y = (nI a) + 1 := ⟨_, rfl⟩
        refine g_iinc (v := xx1) (lv' := [(3, .int xx1), (0, .ref q0), (1, .int x1), (2, .int (nI b))]) C dX0_dropBetween_20 0 rfl (by rw [exx1]; rfl) (by decide) rfl ?_
        refine g_goto (tgt := 2) C dX0_dropBetween_23 (by decide) ?_
        have e3 : xx1 = nI (a + 1) := by rw [exx1, nI_1]
        rw [e3]
        have e2 := tkS_C σ t a
        exact ih (a + 1) (tkS σ t a) (by omega) hd (by unfold rA; rw [e2]; exact hq0) (live_2 e2 l3) (live_2 e2 l13) (by unfold rN; rw [e2]; exact hN) (by omega)
set_option maxHeartbeats 4000000 in
set_option maxRecDepth 100000 in
theorem k_X0_dropBetween (l : Launch) (σ : RS) (t : Nat) (l3 : live σ 3 t) (l13 : live σ 13 t) (hN : rN σ 13 t < 2 ^ 30) (a b : Nat) (ha0 : a < 2 ^ 30) (hb : b < 2 ^ 30) : ∀ D E sz, Met l yX0_dropBetween gwX0_dropBetween ({ frames := 1, cells := 0, slots := 0, locals := 22 } : Room) (cP D E sz σ [] [.ref (rA σ 3 t), .int (nI a), .int (nI b)]) (cQ D E sz σ [] (pV (fun u => u = (drS t (b - a) a σ, [])))) (0) (0) (Aof σ [] sz) := by
  intro D E sz
  refine g_of (cc := cX0_dropBetween) (maxL := 4) (ret := none) (own := "TradeLine$Back") (by decide) rfl rfl (Nat.le_of_ble_eq_true rfl) ?_
  intro p e s m args below meth c C hr hin hz ha hwr
  refine g_iload_n C dX0_dropBetween_0 rfl 1 rfl ?_
  refine g_istore_n (lv' := [(3, .int (nI a)), (0, .ref (rA σ 3 t)), (1, .int (nI a)), (2, .int (nI b))]) C dX0_dropBetween_1 rfl (by decide) rfl ?_
  refine lo_dropB C t b _ _ hb (Nat.le_of_ble_eq_true rfl) (Nat.le_of_ble_eq_true rfl) ⟨Nat.le_refl _, Nat.le_refl _⟩ _ (fun x => ?_) (b - a) a σ (by omega) rfl rfl l3 l13 hN (by omega)
  exact g_vret C hr hz (stq_2 (drS_C t (b - a) a σ)) rfl (fun j x h => by simp at h) dX0_dropBetween_26
set_option maxHeartbeats 4000000 in
set_option maxRecDepth 100000 in
theorem k_X0_clear (l : Launch) (σ : RS) (t : Nat) (l3 : live σ 3 t) (l13 : live σ 13 t) (hN : rN σ 13 t < 2 ^ 30) : ∀ D E sz, Met l yX0_clear gwX0_clear ({ frames := 1, cells := 0, slots := 0, locals := 23 } : Room) (cP D E sz σ [] [.ref (rA σ 3 t)]) (cQ D E sz σ [] (pV (fun u => u = (sM (sR σ 13 t (fl (rM σ 13 t) 0 (rN σ 13 t))) 3 t 1 0, [])))) (0) (0) (Aof σ [] sz) := by
  intro D E sz
  refine g_of (cc := cX0_clear) (maxL := 1) (ret := none) (own := "TradeLine$Back") (by decide) rfl rfl (Nat.le_of_ble_eq_true rfl) ?_
  intro p e s m args below meth c C hr hin hz ha hwr
  refine g_aload_n C dX0_clear_0 rfl 0 rfl ?_
  refine g_get (k := 3) (i := t) (ref := "TradeLine$Back") C (by exact rfl) (by exact l3) rfl rfl inGX0 0 (by decide) gw_103 (fun _ h => h) rfl dX0_clear_1 ?_
  refine g_topr (fun qq1 eqq1 => ?_)
  refine g_iconst (v := 0) C dX0_clear_4 (by decide) ?_
  refine g_cSv (n := 2) (exc := []) (exr := []) C [_, _] _ rfl rfl [] [] rfl rfl rfl rfl (fun _ h => absurd h (by simp)) (fun _ h => absurd h (by simp)) (fun _ h => absurd h (by simp)) (fun sz => eqq1 ▸ k_J7_fill_53178 l σ t (rN σ 13 t) 0 rfl hN l13 D E sz) rfl gw_449 gw_17 gw_447 gw_448 ⟨by decide +kernel, by decide +kernel, by decide +kernel⟩ ⟨rfl, rfl⟩ ⟨Nat.le_of_ble_eq_true rfl, Nat.le_of_ble_eq_true rfl⟩ (Nat.le_of_ble_eq_true rfl) dX0_clear_5 ⟨by decide, by decide⟩ (fun u hp hx => ?_)
  obtain rfl := hp
  try dsimp only [List.append_nil]
  refine g_aload_n C dX0_clear_8 rfl 0 rfl ?_
  refine g_iconst (v := 0) C dX0_clear_9 (by decide) ?_
  refine g_put (k := 3) (i := t) (ref := "TradeLine$Back") C (by exact rfl) (by exact (live5 (by decide) rfl l3)) rfl rfl inGX0 tyX0 tyX0_ok nmX0 1 (by decide) gw_104 (fun _ h => h) rfl (tyX0_ok 1 (by decide)) rfl rfl (by simp [fvs]) (by simp [fvs, up1]) dX0_clear_10 ?_
  exact g_vret C hr hz ⟨rfl, rfl, fun _ => rfl, fun _ => rfl⟩ (rfl) (fun j x h => by simp at h) dX0_clear_13
