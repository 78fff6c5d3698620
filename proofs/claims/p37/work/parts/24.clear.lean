theorem up1_1 {α : Type} (f : Nat → α) (k : Nat) (v w : α) : up1 (up1 f k v) k w = up1 f k w := by
  funext a; unfold up1; by_cases h : a = k <;> simp [h]
theorem up1_self {α : Type} (f : Nat → α) (k : Nat) : up1 f k (f k) = f := by
  funext a; unfold up1; by_cases h : a = k
  · rw [if_pos h, h]
  · rw [if_neg h]
theorem up2_2 {α : Type} (f : Nat → Nat → α) (k i : Nat) (v w : α) : up2 (up2 f k i v) k i w = up2 f k i w := by
  unfold up2; rw [up1_s, up1_1, up1_1]
theorem up2_self {α : Type} (f : Nat → Nat → α) (k i : Nat) : up2 f k i (f k i) = f := by
  unfold up2; rw [up1_self, up1_self]
theorem sP_sQ (σ : RS) (k i j v : Nat) (f : Nat → Nat) : sP (sQ σ k i f) k i j v = sQ σ k i (up1 f j v) := by
  show (σ.1, σ.2.1, up2 (up2 (rP σ) k i f) k i (up1 ((up2 (rP σ) k i f) k i) j v), σ.2.2.2) = (σ.1, σ.2.1, up2 (rP σ) k i (up1 f j v), σ.2.2.2)
  rw [up2_2, up2_s]
theorem sQ_sQ (σ : RS) (k i : Nat) (f g : Nat → Nat) : sQ (sQ σ k i f) k i g = sQ σ k i g := by
  show (σ.1, σ.2.1, up2 (up2 (rP σ) k i f) k i g, σ.2.2.2) = (σ.1, σ.2.1, up2 (rP σ) k i g, σ.2.2.2)
  rw [up2_2]
theorem sQ_self (σ : RS) (k i : Nat) : sQ σ k i (rP σ k i) = σ := by
  show (σ.1, σ.2.1, up2 (rP σ) k i (rP σ k i), σ.2.2.2) = σ
  rw [up2_self]
theorem rP_sQ (σ : RS) (k i : Nat) (f : Nat → Nat) : rP (sQ σ k i f) k i = f := up2_s _ _ _ _
/-- the first a places are empty -/
def cl0 (p : Nat → Nat) (a : Nat) : Nat → Nat := fun j => if j < a then 0 else p j
theorem cl0_0 (p : Nat → Nat) : cl0 p 0 = p := rfl
theorem cl0_up (p : Nat → Nat) (a : Nat) : up1 (cl0 p a) a 0 = cl0 p (a + 1) := by
  funext j
  unfold up1 cl0
  by_cases h : j = a
  · rw [if_pos h, if_pos (by omega)]
  · rw [if_neg h]
    by_cases h2 : j < a
    · rw [if_pos h2, if_pos (by omega)]
    · rw [if_neg h2, if_neg (by omega)]
set_option maxHeartbeats 4000000 in
set_option maxRecDepth 100000 in
theorem lo_clear {p : Program} {l : Launch} {e : Env} {R : Room} {s : State} {m : MethodId} {args : Array Value} {below : List Frame} {meth : Method} {c : Code} {D : va_G} {E : Nat → ClassId} {A : Nat → Prop} {Q : State → Prop} {c0 s0 : Nat} (C : cx p s m args meth c D E A cJx4a65c_clear_da8c8 4 "java/util/ArrayList") (i n q5 q0 : Nat) (τ : RS) (hn : n < 2 ^ 30) (hq : 0 < n → rA τ 5 i = q5) (hl5 : 0 < n → live τ 5 i) (hN : n ≤ rN τ 5 i) (hN2 : rN τ 5 i < 2 ^ 30) (kk : G p l e R s m args below meth c D E A 4 Q (sQ τ 5 i (cl0 (rP τ 5 i) n)) [] c0 s0 42 [(3, .int (nI n)), (2, .int (nI n)), (1, .ref q5), (0, .ref q0)] []) : ∀ (d a : Nat), a + d = n → G p l e R s m args below meth c D E A 4 Q (sQ τ 5 i (cl0 (rP τ 5 i) a)) [] c0 s0 27 [(3, .int (nI a)), (2, .int (nI n)), (1, .ref q5), (0, .ref q0)] [] := by
  intro d
  induction d with
  | zero =>
    intro a hab
    have hab2 : a = n := by omega
    subst hab2
    refine g_iload_n C dJx4a65c_clear_da8c8_27 rfl 0 rfl ?_
    refine g_iload_n C dJx4a65c_clear_da8c8_28 rfl 1 rfl ?_
    refine g_icmp_ge (tgt := 42) C dJx4a65c_clear_da8c8_29 (by decide) (fun c29 => ?_) (fun c29 => ?_)
    · skip
      exact kk
    · exact absurd c29 (fun q => q (nI_le (Nat.le_refl _) (by omega)))
  | succ d ih =>
    intro a hab
    have l5 : live τ 5 i := hl5 (by omega)
    have hq5 : rA τ 5 i = q5 := hq (by omega)
    refine g_iload_n C dJx4a65c_clear_da8c8_27 rfl 0 rfl ?_
    refine g_iload_n C dJx4a65c_clear_da8c8_28 rfl 1 rfl ?_
    refine g_icmp_ge (tgt := 42) C dJx4a65c_clear_da8c8_29 (by decide) (fun c29 => ?_) (fun c29 => ?_)
    · exact absurd c29 (nI_ge (show a < n by omega) (by omega))
    · skip
      refine g_aload_n C dJx4a65c_clear_da8c8_32 rfl 2 rfl ?_
      refine g_iload_n C dJx4a65c_clear_da8c8_33 rfl 0 rfl ?_
      refine g_null C dJx4a65c_clear_da8c8_34 ?_
      refine g_aastN (k := 5) (i := i) C 2 (Or.inl rfl) (by exact hq5) (by exact l5) (by decide) rfl (by exact vp_in_nI (show a < rN τ 5 i by omega) (show rN τ 5 i < 2 ^ 31 by omega)) dJx4a65c_clear_da8c8_35 ?_
      rw [nI_clamp (by omega), sP_sQ, cl0_up]
      obtain ⟨xx1, exx1⟩ : ∃ y : Int32, y = (nI a) + 1 := ⟨_, rfl⟩
      refine g_iinc (v := xx1) (lv' := [(3, .int xx1), (2, .int (nI n)), (1, .ref q5), (0, .ref q0)]) C dJx4a65c_clear_da8c8_36 0 rfl (by rw [exx1]; rfl) (by decide) rfl ?_
      refine g_goto (tgt := 27) C dJx4a65c_clear_da8c8_39 (by decide) ?_
      have e3 : xx1 = nI (a + 1) := by rw [exx1, nI_1]
      rw [e3]
      exact ih (a + 1) (by omega)
theorem lo_clear0 {p : Program} {l : Launch} {e : Env} {R : Room} {s : State} {m : MethodId} {args : Array Value} {below : List Frame} {meth : Method} {c : Code} {D : va_G} {E : Nat → ClassId} {A : Nat → Prop} {Q : State → Prop} {c0 s0 : Nat} (C : cx p s m args meth c D E A cJx4a65c_clear_da8c8 4 "java/util/ArrayList") (i n q5 q0 : Nat) (τ : RS) (hn : n < 2 ^ 30) (hq : 0 < n → rA τ 5 i = q5) (hl5 : 0 < n → live τ 5 i) (hN : n ≤ rN τ 5 i) (hN2 : rN τ 5 i < 2 ^ 30) (kk : G p l e R s m args below meth c D E A 4 Q (sQ τ 5 i (cl0 (rP τ 5 i) n)) [] c0 s0 42 [(3, .int (nI n)), (2, .int (nI n)), (1, .ref q5), (0, .ref q0)] []) : G p l e R s m args below meth c D E A 4 Q τ [] c0 s0 27 [(3, .int 0), (2, .int (nI n)), (1, .ref q5), (0, .ref q0)] [] := by
  have hl := lo_clear C i n q5 q0 τ hn hq hl5 hN hN2 kk n 0 (by omega)
  rw [nI_0, cl0_0, sQ_self] at hl
  exact hl
set_option maxHeartbeats 4000000 in
set_option maxRecDepth 100000 in
theorem k_Jx4a65c_clear_da8c8 (l : Launch) (σ : RS) (i n : Nat) (l4 : live σ 4 i) (hs2 : rM σ 4 i 2 = nI n) (hn : n < 2 ^ 30) (hne : 0 < n → rN σ 5 i ≠ 0) (l5 : 0 < n → live σ 5 i) (hnN : n ≤ rN σ 5 i) (hN : rN σ 5 i < 2 ^ 30) : ∀ D E sz, Met l yJx4a65c_clear_da8c8 gwJx4a65c_clear_da8c8 ({ frames := 0, cells := 0, slots := 0, locals := 0 } : Room) (cP D E sz σ [] [.ref (rA σ 4 i)]) (cQ D E sz σ [] (pV (fun u => u = (sQ (sM (sM σ 4 i 0 (rM σ 4 i 0 + 1)) 4 i 2 0) 5 i (cl0 (rP σ 5 i) n), [])))) (0) (0) (Aof σ [] sz) := by
  intro D E sz
  refine g_of (cc := cJx4a65c_clear_da8c8) (maxL := 4) (ret := none) (own := "java/util/ArrayList") (by decide) rfl rfl (Nat.le_of_ble_eq_true rfl) ?_
  intro p e s m args below meth c C hr hin hz ha hwr
  refine g_aload_n C dJx4a65c_clear_da8c8_0 rfl 0 rfl ?_
  refine g_dup C dJx4a65c_clear_da8c8_1 rfl ?_
  refine g_get (k := 4) (i := i) (ref := "java/util/ArrayList") C (by exact rfl) (by exact l4) rfl rfl inGJx4a65c 0 (by decide) gw_63 (u_same (C.2.2.2.1 _ gw_64)) rfl dJx4a65c_clear_da8c8_2 ?_
  refine g_iconst (v := 1) C dJx4a65c_clear_da8c8_5 (by decide) ?_
  refine g_iadd C dJx4a65c_clear_da8c8_6 ?_
  refine g_put (k := 4) (i := i) (ref := "java/util/ArrayList") C (by exact rfl) (by exact l4) rfl rfl inGJx4a65c tyJx4a65c tyJx4a65c_ok nmJx4a65c 0 (by decide) gw_63 (u_same (C.2.2.2.1 _ gw_64)) rfl (tyJx4a65c_ok 0 (by decide)) rfl rfl (by simp [fvs]) (by simp [fvs, up1]) dJx4a65c_clear_da8c8_7 ?_
  refine g_aload_n C dJx4a65c_clear_da8c8_10 rfl 0 rfl ?_
  refine g_get (k := 4) (i := i) (ref := "java/util/ArrayList") C (by exact rfl) (by exact l4) rfl rfl inGJx4a65c 1 (by decide) gw_60 (fun _ h => h) rfl dJx4a65c_clear_da8c8_11 ?_
  refine g_topr (fun qq1 eqq1 => ?_)
  refine g_astore_n (lv' := [(1, .ref qq1), (0, .ref (rA σ 4 i))]) C dJx4a65c_clear_da8c8_14 rfl (by decide) rfl ?_
  refine g_aload_n C dJx4a65c_clear_da8c8_15 rfl 1 rfl ?_
  refine g_get (k := 4) (i := i) (ref := "java/util/ArrayList") C (by exact rfl) (by exact l4) rfl rfl inGJx4a65c 2 (by decide) gw_61 (fun _ h => h) rfl dJx4a65c_clear_da8c8_16 ?_
  rw [show rM (sM σ 4 i 0 (rM σ 4 i 0 + 1)) 4 i 2 = nI n by simp [rMsM, hs2]]
  refine g_istore_n (lv' := [(2, .int (nI n)), (1, .ref qq1), (0, .ref (rA σ 4 i))]) C dJx4a65c_clear_da8c8_19 rfl (by decide) rfl ?_
  refine g_aload_n C dJx4a65c_clear_da8c8_20 rfl 2 rfl ?_
  refine g_iconst (v := 0) C dJx4a65c_clear_da8c8_21 (by decide) ?_
  refine g_dup_x1 C dJx4a65c_clear_da8c8_22 rfl rfl ?_
  refine g_put (k := 4) (i := i) (ref := "java/util/ArrayList") C (by exact rfl) (by exact l4) rfl rfl inGJx4a65c tyJx4a65c tyJx4a65c_ok nmJx4a65c 2 (by decide) gw_61 (fun _ h => h) rfl (tyJx4a65c_ok 2 (by decide)) rfl rfl (by simp [fvs]) (by simp [fvs, up1]) dJx4a65c_clear_da8c8_23 ?_
  refine g_istore_n (lv' := [(3, .int 0), (2, .int (nI n)), (1, .ref qq1), (0, .ref (rA σ 4 i))]) C dJx4a65c_clear_da8c8_26 rfl (by decide) rfl ?_
  refine lo_clear0 C i n _ _ _ hn (fun h => (if_neg (hne h)).symm.trans eqq1) (fun h => l5 h) hnN hN ?_
  exact g_vret C hr hz ⟨rfl, rfl, fun _ => rfl, fun _ => rfl⟩ rfl (fun j x h => by simp at h) dJx4a65c_clear_da8c8_42
set_option maxHeartbeats 4000000 in
set_option maxRecDepth 100000 in
theorem k_J8_newLength_cabcc (l : Launch) (σ : RS) (a b b2 k : Nat) (hb : b < 2 ^ 30) (hb2 : b2 < 2 ^ 30) (hk : k = if b < b2 then b2 else b) (h0 : 0 < a + k) (hak : a + k < 2 ^ 30) : ∀ D E sz, Met l yJ8_newLength_cabcc gwJ8_newLength_cabcc ({ frames := 1, cells := 0, slots := 0, locals := 30 } : Room) (cP D E sz σ [] [.int (nI a), .int (nI b), .int (nI b2)]) (cQ D E sz σ [] (pI (fun r u => r = nI (a + k) ∧ u = (σ, [])))) (0) (0) (Aof σ [] sz) := by
  have e1 : (if nI b < nI b2 then nI b2 else nI b) = nI k := by
    by_cases h : b < b2
    · rw [hk, if_pos h, if_pos (nI_lt h (by omega))]
    · rw [hk, if_neg h, if_neg (nI_nlt (by omega) (by omega))]
  have e2 : (2147483639 : Int32).toInt = 2147483639 := by decide +kernel
  intro D E sz
  refine g_of (cc := cJ8_newLength_cabcc) (maxL := 4) (ret := (some .int)) (own := "jdk/internal/util/ArraysSupport") (by decide) rfl rfl (Nat.le_of_ble_eq_true rfl) ?_
  intro p e s m args below meth c C hr hin hz ha hwr
  refine g_iload_n C dJ8_newLength_cabcc_0 rfl 0 rfl ?_
  refine g_iload_n C dJ8_newLength_cabcc_1 rfl 1 rfl ?_
  refine g_iload_n C dJ8_newLength_cabcc_2 rfl 2 rfl ?_
  refine g_mmax C gw_370 gw_371 gw_19 gw_372 (Nat.le_of_ble_eq_true rfl) (Nat.le_of_ble_eq_true rfl) (Nat.le_of_ble_eq_true rfl) (Nat.le_of_ble_eq_true rfl) dJ8_newLength_cabcc_3 ?_
  rw [e1]
  refine g_iadd C dJ8_newLength_cabcc_6 ?_
  rw [nI_add]
  refine g_istore_n (lv' := [(3, .int (nI (a + k))), (0, .int (nI a)), (1, .int (nI b)), (2, .int (nI b2))]) C dJ8_newLength_cabcc_7 rfl (by decide) rfl ?_
  refine g_iconst (v := 0) C dJ8_newLength_cabcc_8 (by decide) ?_
  refine g_iload_n C dJ8_newLength_cabcc_9 rfl 0 rfl ?_
  refine g_icmp_ge (tgt := 21) C dJ8_newLength_cabcc_10 (by decide) (fun c10 => ?_) (fun c10 => ?_)
  · exact absurd c10 (nI_nle h0 (by omega))
  · skip
    refine g_iload_n C dJ8_newLength_cabcc_13 rfl 0 rfl ?_
    refine g_ldc (v := 2147483639) C gw_373 dJ8_newLength_cabcc_14 ?_
    refine g_icmp_gt (tgt := 21) C dJ8_newLength_cabcc_16 (by decide) (fun c16 => ?_) (fun c16 => ?_)
    · exact absurd c16 (Int32.not_lt.mpr (Int32.le_iff_toInt_le.mpr (by rw [nI_toInt (by omega), e2]; omega)))
    · skip
      refine g_iload_n C dJ8_newLength_cabcc_19 rfl 0 rfl ?_
      exact g_iret C hr rfl hz (stq_rfl _) (⟨rfl, rfl⟩) (fun j x h => by simp at h) dJ8_newLength_cabcc_20
