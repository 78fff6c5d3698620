theorem up2_up2 {α : Type} (f : Nat → Nat → α) (k i : Nat) (a b : α) : up2 (up2 f k i a) k i b = up2 f k i b := by
  funext k1 i1
  unfold up2 up1
  by_cases h1 : k1 = k
  · by_cases h2 : i1 = i <;> simp [h1, h2]
  · simp [h1]
theorem sM_sR (σ : RS) (k i j : Nat) (f : Nat → Int32) (v : Int32) : sM (sR σ k i f) k i j v = sR σ k i (up1 f j v) := by
  unfold sM sR up3
  show (up2 (up2 (rM σ) k i f) k i (up1 (up2 (rM σ) k i f k i) j v), _) = _
  rw [up2_s, up2_up2]
theorem sR_self (σ : RS) (k i : Nat) : sR σ k i (rM σ k i) = σ := by
  unfold sR
  rw [show up2 (rM σ) k i (rM σ k i) = rM σ from by
    funext k1 i1
    unfold up2 up1
    by_cases h1 : k1 = k
    · by_cases h2 : i1 = i <;> simp [h1, h2]
    · simp [h1]]
/-- the first i places hold v -/
def fl (r : Nat → Int32) (v : Int32) (i : Nat) : Nat → Int32 := fun j => if j < i then v else r j
theorem fl_up (r : Nat → Int32) (v : Int32) (i : Nat) : up1 (fl r v i) i v = fl r v (i + 1) := by
  funext j
  unfold up1 fl
  by_cases h1 : j = i
  · rw [if_pos h1, if_pos (by omega)]
  · rw [if_neg h1]
    by_cases h2 : j < i
    · rw [if_pos h2, if_pos (by omega)]
    · rw [if_neg h2, if_neg (by omega)]
theorem fl_0 (r : Nat → Int32) (v : Int32) : fl r v 0 = r := by funext j; unfold fl; rw [if_neg (by omega)]
set_option maxHeartbeats 4000000 in
set_option maxRecDepth 100000 in
theorem lo_fill {p : Program} {l : Launch} {e : Env} {R : Room} {s : State} {m : MethodId} {args : Array Value} {below : List Frame} {meth : Method} {c : Code} {D : va_G} {E : Nat → ClassId} {A : Nat → Prop} {Q : State → Prop} (C : cx p s m args meth c D E A cJ7_fill_53178 4 "java/util/Arrays") (σ : RS) (t N : Nat) (v : Int32) (hN : rN σ 13 t = N) (hN2 : N < 2 ^ 30) (l13 : live σ 13 t) (k : G p l e R s m args below meth c D E A 4 Q (sR σ 13 t (fl (rM σ 13 t) v N)) [] 0 0 20 [(2, .int (nI N)), (3, .int (nI N)), (0, .ref (rA σ 13 t)), (1, .int v)] []) : ∀ (m1 i : Nat), i + m1 = N → G p l e R s m args below meth c D E A 4 Q (sR σ 13 t (fl (rM σ 13 t) v i)) [] 0 0 5 [(2, .int (nI i)), (3, .int (nI N)), (0, .ref (rA σ 13 t)), (1, .int v)] [] := by
  intro m1
  induction m1 with
  | zero =>
    intro i hi
    have hi2 : i = N := by omega
    subst hi2
    refine g_iload_n C dJ7_fill_53178_5 rfl 0 rfl ?_
    refine g_iload_n C dJ7_fill_53178_6 rfl 1 rfl ?_
    refine g_icmp_ge (tgt := 20) C dJ7_fill_53178_7 (by decide) (fun c7 => ?_) (fun c7 => ?_)
    · skip
      exact k
    · exact absurd c7 (fun q => q (nI_le (Nat.le_refl _) (by omega)))
  | succ m1 ih =>
    intro i hi
    have hic : i < N := by omega
    refine g_iload_n C dJ7_fill_53178_5 rfl 0 rfl ?_
    refine g_iload_n C dJ7_fill_53178_6 rfl 1 rfl ?_
    refine g_icmp_ge (tgt := 20) C dJ7_fill_53178_7 (by decide) (fun c7 => ?_) (fun c7 => ?_)
    · exact absurd c7 (nI_ge hic (by omega))
    · skip
      refine g_aload_n C dJ7_fill_53178_10 rfl 2 rfl ?_
      refine g_iload_n C dJ7_fill_53178_11 rfl 0 rfl ?_
      refine g_iload_n C dJ7_fill_53178_12 rfl 3 rfl ?_
      refine g_iast (k := 13) (i := t) C (by exact rfl) (by exact (live5 (by decide) rfl l13)) (by decide) rfl (by exact (by show vp_in _ (rN σ 13 t); rw [hN]; exact vp_in_nI hic (by omega))) dJ7_fill_53178_13 ?_
      rw [nI_clamp (by omega), sM_sR, fl_up]
      obtain ⟨x1, ex1⟩ : ∃ y : Int32, y = (nI i) + 1 := ⟨_, rfl⟩
      refine g_iinc (v := x1) (lv' := [(2, .int x1), (3, .int (nI N)), (0, .ref (rA σ 13 t)), (1, .int v)]) C dJ7_fill_53178_14 0 rfl (by rw [ex1]; rfl) (by decide) rfl ?_
      refine g_goto (tgt := 5) C dJ7_fill_53178_17 (by decide) ?_
      have e2 : x1 = nI (i + 1) := by rw [ex1, nI_1]
      rw [e2]
      exact ih (i + 1) (by omega)
set_option maxHeartbeats 4000000 in
set_option maxRecDepth 100000 in
theorem k_J7_fill_53178 (l : Launch) (σ : RS) (t N : Nat) (v : Int32) (hN : rN σ 13 t = N) (hN2 : N < 2 ^ 30) (l13 : live σ 13 t) : ∀ D E sz, Met l yJ7_fill_53178 gwJ7_fill_53178 ({ frames := 0, cells := 0, slots := 0, locals := 0 } : Room) (cP D E sz σ [] [.ref (rA σ 13 t), .int v]) (cQ D E sz σ [] (pV (fun u => u = (sR σ 13 t (fl (rM σ 13 t) v N), [])))) (0) (0) (Aof σ [] sz) := by
  intro D E sz
  refine g_of (cc := cJ7_fill_53178) (maxL := 4) (ret := none) (own := "java/util/Arrays") (by decide) rfl rfl (Nat.le_of_ble_eq_true rfl) ?_
  intro p e s m args below meth c C hr hin hz ha hwr
  refine g_iconst (v := 0) C dJ7_fill_53178_0 (by decide) ?_
  refine g_istore_n (lv' := [(2, .int 0), (0, .ref (rA σ 13 t)), (1, .int v)]) C dJ7_fill_53178_1 rfl (by decide) rfl ?_
  refine g_aload_n C dJ7_fill_53178_2 rfl 1 rfl ?_
  refine g_alen (k := 13) (i := t) C (by exact rfl) (by exact l13) (by decide) rfl dJ7_fill_53178_3 ?_
  refine g_topi (fun x1 ex1 => ?_)
  refine g_istore_n (lv' := [(3, .int x1), (2, .int 0), (0, .ref (rA σ 13 t)), (1, .int v)]) C dJ7_fill_53178_4 rfl (by decide) rfl ?_
  rw [hN] at ex1
  subst ex1
  refine g_lv [1, 0, 2, 3] rfl ?_
  refine g_σ (σ' := sR σ 13 t (fl (rM σ 13 t) v 0)) (by rw [fl_0, sR_self]) ?_
  refine lo_fill C σ t N v hN hN2 l13 ?_ N 0 (by omega)
  exact g_vret C hr hz ⟨rfl, rfl, fun _ => rfl, fun _ => rfl⟩ rfl (fun j x h => by simp at h) dJ7_fill_53178_20
/-- what is taken from what is held back under a number, and what stays -/
def tkR (σ : RS) (t k : Nat) : Int32 := if k < rN σ 13 t then rM σ 13 t k else 0
def tkS (σ : RS) (t k : Nat) : RS := if k < rN σ 13 t ∧ rM σ 13 t k ≠ 0 then sM (sM σ 13 t k 0) 3 t 1 (rM σ 3 t 1 - 1) else σ
set_option maxHeartbeats 4000000 in
set_option maxRecDepth 100000 in
theorem k_X0_take (l : Launch) (σ : RS) (t : Nat) (l3 : live σ 3 t) (l13 : live σ 13 t) (hN : rN σ 13 t < 2 ^ 30) (k : Nat) (hk : k < 2 ^ 30) : ∀ D E sz, Met l yX0_take gwX0_take ({ frames := 0, cells := 0, slots := 0, locals := 0 } : Room) (cP D E sz σ [] [.ref (rA σ 3 t), .int (nI k)]) (cQ D E sz σ [] (pI (fun r u => r = tkR σ t k ∧ u = (tkS σ t k, [])))) (0) (0) (Aof σ [] sz) := by
  intro D E sz
  refine g_of (cc := cX0_take) (maxL := 3) (ret := (some .int)) (own := "TradeLine$Back") (by decide) rfl rfl (Nat.le_of_ble_eq_true rfl) ?_
  intro p e s m args below meth c C hr hin hz ha hwr
  refine g_iload_n C dX0_take_0 rfl 1 rfl ?_
  refine g_if_lt (tgt := 22) C dX0_take_1 (by decide) (fun c1 => ?_) (fun c1 => ?_)
  · exact absurd c1 (nI_pos (by omega))
  · skip
    refine g_iload_n C dX0_take_4 rfl 1 rfl ?_
    refine g_aload_n C dX0_take_5 rfl 0 rfl ?_
    refine g_get (k := 3) (i := t) (ref := "TradeLine$Back") C (by exact rfl) (by exact l3) rfl rfl inGX0 0 (by decide) gw_103 (fun _ h => h) rfl dX0_take_6 ?_
    refine g_topr (fun qq1 eqq1 => ?_)
    refine g_alen (k := 13) (i := t) C (by exact eqq1) (by exact l13) (by decide) rfl dX0_take_9 ?_
    refine g_icmp_ge (tgt := 22) C dX0_take_10 (by decide) (fun c10 => ?_) (fun c10 => ?_)
    · skip
      refine g_iconst (v := 0) C dX0_take_22 (by decide) ?_
      exact g_iret C hr rfl hz (stq_rfl _) (by first | (rw [nI_clamp (by omega)] at c19; exact ⟨by unfold tkR; rw [if_pos hkN, Classical.not_not.mp (fun q => q c19)], by unfold tkS; rw [if_neg (fun q => q.2 c19)]⟩) | (have hkN : ¬ k < rN σ 13 t := fun q => nI_ge q (by omega) c10; exact ⟨by unfold tkR; rw [if_neg hkN], by unfold tkS; rw [if_neg (fun q => hkN q.1)]⟩)) (fun j x h => by simp at h) dX0_take_23
    · skip
      have hkN : k < rN σ 13 t := Nat.lt_of_not_le fun q => c10 (nI_le q (by omega))
      refine g_aload_n C dX0_take_13 rfl 0 rfl ?_
      refine g_get (k := 3) (i := t) (ref := "TradeLine$Back") C (by exact rfl) (by exact l3) rfl rfl inGX0 0 (by decide) gw_103 (fun _ h => h) rfl dX0_take_14 ?_
      refine g_topr (fun qq2 eqq2 => ?_)
      refine g_iload_n C dX0_take_17 rfl 1 rfl ?_
      refine g_iald (k := 13) (i := t) C (by exact eqq2) (by exact l13) rfl (by exact (by exact vp_in_nI hkN (by omega))) dX0_take_18 ?_
      refine g_if_ne (tgt := 24) C dX0_take_19 (by decide) (fun c19 => ?_) (fun c19 => ?_)
      · skip
        refine g_aload_n C dX0_take_24 rfl 0 rfl ?_
        refine g_get (k := 3) (i := t) (ref := "TradeLine$Back") C (by exact rfl) (by exact l3) rfl rfl inGX0 0 (by decide) gw_103 (fun _ h => h) rfl dX0_take_25 ?_
        refine g_topr (fun qq3 eqq3 => ?_)
        refine g_iload_n C dX0_take_28 rfl 1 rfl ?_
        refine g_iald (k := 13) (i := t) C (by exact eqq3) (by exact l13) rfl (by exact (by exact vp_in_nI hkN (by omega))) dX0_take_29 ?_
        refine g_topi (fun x4 ex4 => ?_)
        refine g_istore_n (lv' := [(2, .int x4), (0, .ref (rA σ 3 t)), (1, .int (nI k))]) C dX0_take_30 rfl (by decide) rfl ?_
        refine g_aload_n C dX0_take_31 rfl 1 rfl ?_
        refine g_get (k := 3) (i := t) (ref := "TradeLine$Back") C (by exact rfl) (by exact l3) rfl rfl inGX0 0 (by decide) gw_103 (fun _ h => h) rfl dX0_take_32 ?_
        refine g_topr (fun qq5 eqq5 => ?_)
        refine g_iload_n C dX0_take_35 rfl 2 rfl ?_
        refine g_iconst (v := 0) C dX0_take_36 (by decide) ?_
        refine g_iast (k := 13) (i := t) C (by exact eqq5) (by exact l13) (by decide) rfl (by exact (by exact vp_in_nI hkN (by omega))) dX0_take_37 ?_
        refine g_aload_n C dX0_take_38 rfl 1 rfl ?_
        refine g_dup C dX0_take_39 rfl ?_
        refine g_get (k := 3) (i := t) (ref := "TradeLine$Back") C (by exact rfl) (by exact l3) rfl rfl inGX0 1 (by decide) gw_104 (fun _ h => h) rfl dX0_take_40 ?_
        refine g_iconst (v := 1) C dX0_take_43 (by decide) ?_
        refine g_isub C dX0_take_44 ?_
        refine g_put (k := 3) (i := t) (ref := "TradeLine$Back") C (by exact rfl) (by exact l3) rfl rfl inGX0 tyX0 tyX0_ok nmX0 1 (by decide) gw_104 (fun _ h => h) rfl (tyX0_ok 1 (by decide)) rfl rfl (by simp [fvs]) (by simp [fvs, up1]) dX0_take_45 ?_
        refine g_iload_n C dX0_take_48 rfl 0 rfl ?_
        exact g_iret C hr rfl hz (stq_rfl _) (by rw [nI_clamp (by omega)] at *; exact ⟨by unfold tkR; rw [if_pos hkN]; assumption, by unfold tkS; rw [if_pos ⟨hkN, c19⟩]; simp [rMsM]⟩) (fun j x h => by simp at h) dX0_take_49
      · skip
        refine g_iconst (v := 0) C dX0_take_22 (by decide) ?_
        exact g_iret C hr rfl hz (stq_rfl _) (by first | (rw [nI_clamp (by omega)] at c19; exact ⟨by unfold tkR; rw [if_pos hkN, Classical.not_not.mp (fun q => q c19)], by unfold tkS; rw [if_neg (fun q => q.2 c19)]⟩) | (have hkN : ¬ k < rN σ 13 t := fun q => nI_ge q (by omega) c10; exact ⟨by unfold tkR; rw [if_neg hkN], by unfold tkS; rw [if_neg (fun q => hkN q.1)]⟩)) (fun j x h => by simp at h) dX0_take_23
