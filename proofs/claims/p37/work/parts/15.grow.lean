/-- the first i elements of a ring, behind each other; zeros behind them -/
def fa (r : Nat → Int32) (cap h i : Nat) : Nat → Int32 := fun j => if j < i then r (sl cap h j) else 0
theorem fa_up (r : Nat → Int32) (cap h i : Nat) : up1 (fa r cap h i) i (r (sl cap h i)) = fa r cap h (i + 1) := by
  funext j
  unfold up1 fa
  by_cases h1 : j = i
  · subst h1; rw [if_pos rfl, if_pos (by omega)]
  · rw [if_neg h1]
    by_cases h2 : j < i
    · rw [if_pos h2, if_pos (by omega)]
    · rw [if_neg h2, if_neg (by omega)]
theorem sl_succ {cap h i : Nat} (hh : h < cap) (hi : i < cap) : sl cap h (i + 1) = if sl cap h i + 1 < cap then sl cap h i + 1 else 0 := by
  unfold sl
  split <;> split <;> split <;> omega
theorem fa_0 (r : Nat → Int32) (cap h : Nat) : fa r cap h 0 = fun _ => 0 := by
  funext j; unfold fa; rw [if_neg (by omega)]
theorem zb {x : Int32} (h : x = 0 ∨ x = 1) : vp_nar .boolean x = x := by rcases h with rfl | rfl <;> rfl
set_option maxHeartbeats 4000000 in
set_option maxRecDepth 100000 in
theorem lo_X7_grow {p : Program} {l : Launch} {e : Env} {R : Room} {s : State} {m : MethodId} {args : Array Value} {below : List Frame} {meth : Method} {c : Code} {D : va_G} {E : Nat → ClassId} {A : Nat → Prop} {Q : State → Prop} {c0 s0 : Nat} (C : cx p s m args meth c D E A cX7_grow 7 "TradeLine$Way") (σ : RS) (t cap h n : Nat) (hw : WW σ t cap h n) (hb : ∀ j, rM σ 12 t j = 0 ∨ rM σ 12 t j = 1) (q1 q2 q3 : Nat) (hq1 : A q1) (hq2 : A q2) (hq3 : A q3)
    (k : G p l e R s m args below meth c D E A 7 Q σ [(q1, .inl (E 0, (2 * cap), .inl (fa (rM σ 10 t) cap h cap))), (q2, .inl (E 0, (2 * cap), .inl (fa (rM σ 11 t) cap h cap))), (q3, .inl (E 1, (2 * cap), .inl (fa (rM σ 12 t) cap h cap)))] c0 s0 105 [(6, .int (nI cap)), (5, .int (nI (sl cap h cap))), (4, .ref q3), (3, .ref q2), (2, .ref q1), (1, .int (nI cap)), (0, .ref (rA σ 2 t))] []) : ∀ (m1 i : Nat), i + m1 = cap → G p l e R s m args below meth c D E A 7 Q σ [(q1, .inl (E 0, (2 * cap), .inl (fa (rM σ 10 t) cap h i))), (q2, .inl (E 0, (2 * cap), .inl (fa (rM σ 11 t) cap h i))), (q3, .inl (E 1, (2 * cap), .inl (fa (rM σ 12 t) cap h i)))] c0 s0 41 [(6, .int (nI i)), (5, .int (nI (sl cap h i))), (4, .ref q3), (3, .ref q2), (2, .ref q1), (1, .int (nI cap)), (0, .ref (rA σ 2 t))] [] := by
  obtain ⟨w10, w11, w12, wh, wn, hh, hn, hcap, l2, l10, l11, l12⟩ := id hw
  intro m1
  induction m1 with
  | zero =>
    intro i hi
    have hi2 : i = cap := by omega
    subst hi2
    refine g_iload C dX7_grow_41 0 rfl ?_
    refine g_iload_n C dX7_grow_43 rfl 5 rfl ?_
    refine g_icmp_ge (tgt := 105) C dX7_grow_44 (by decide) (fun c44 => ?_) (fun c44 => ?_)
    · skip
      exact k
    · exact absurd c44 (fun q => q (nI_le (Nat.le_refl _) (by omega)))
  | succ m1 ih =>
    intro i hi
    have hic : i < cap := by omega
    have hsl : sl cap h i < cap := sl_lt hh hic
    have z1 : vp_in (nI i) (2 * cap) := vp_in_nI (by omega) (by omega)
    have z10 : vp_in (nI (sl cap h i)) (rN σ 10 t) := by rw [w10]; exact vp_in_nI hsl (by omega)
    have z11 : vp_in (nI (sl cap h i)) (rN σ 11 t) := by rw [w11]; exact vp_in_nI hsl (by omega)
    have z12 : vp_in (nI (sl cap h i)) (rN σ 12 t) := by rw [w12]; exact vp_in_nI hsl (by omega)
    have ei : (nI i).toNatClampNeg = i := nI_clamp (by omega)
    have es : (nI (sl cap h i)).toNatClampNeg = sl cap h i := nI_clamp (by omega)
    refine g_iload C dX7_grow_41 0 rfl ?_
    refine g_iload_n C dX7_grow_43 rfl 5 rfl ?_
    refine g_icmp_ge (tgt := 105) C dX7_grow_44 (by decide) (fun c44 => ?_) (fun c44 => ?_)
    · exact absurd c44 (nI_ge hic (by omega))
    · skip
      refine g_aload_n C dX7_grow_47 rfl 4 rfl ?_
      refine g_iload C dX7_grow_48 0 rfl ?_
      refine g_aload_n C dX7_grow_50 rfl 6 rfl ?_
      refine g_get (k := 2) (i := t) (ref := "TradeLine$Way") C (by exact rfl) (by exact l2) rfl rfl inGX7 0 (by decide) gw_78 (fun _ h => h) rfl dX7_grow_51 ?_
      refine g_topr (fun qq1 eqq1 => ?_)
      refine g_iload C dX7_grow_54 1 rfl ?_
      refine g_iald (k := 10) (i := t) C (by exact eqq1) (by exact l10) rfl (by exact z10) dX7_grow_56 ?_
      refine g_iastL C 0 rfl hq1 z1 (ex' := [(q1, .inl (E 0, (2 * cap), .inl (fa (rM σ 10 t) cap h (i + 1)))), (q2, .inl (E 0, (2 * cap), .inl (fa (rM σ 11 t) cap h i))), (q3, .inl (E 1, (2 * cap), .inl (fa (rM σ 12 t) cap h i)))]) (by rw [ei, es, fa_up]; rfl) dX7_grow_57 ?_
      refine g_aload_n C dX7_grow_58 rfl 3 rfl ?_
      refine g_iload C dX7_grow_59 0 rfl ?_
      refine g_aload_n C dX7_grow_61 rfl 6 rfl ?_
      refine g_get (k := 2) (i := t) (ref := "TradeLine$Way") C (by exact rfl) (by exact l2) rfl rfl inGX7 1 (by decide) gw_79 (fun _ h => h) rfl dX7_grow_62 ?_
      refine g_topr (fun qq2 eqq2 => ?_)
      refine g_iload C dX7_grow_65 1 rfl ?_
      refine g_iald (k := 11) (i := t) C (by exact eqq2) (by exact l11) rfl (by exact z11) dX7_grow_67 ?_
      refine g_iastL C 1 rfl hq2 z1 (ex' := [(q1, .inl (E 0, (2 * cap), .inl (fa (rM σ 10 t) cap h (i + 1)))), (q2, .inl (E 0, (2 * cap), .inl (fa (rM σ 11 t) cap h (i + 1)))), (q3, .inl (E 1, (2 * cap), .inl (fa (rM σ 12 t) cap h i)))]) (by rw [ei, es, fa_up]; rfl) dX7_grow_68 ?_
      refine g_aload C dX7_grow_69 2 rfl ?_
      refine g_iload C dX7_grow_71 0 rfl ?_
      refine g_aload_n C dX7_grow_73 rfl 6 rfl ?_
      refine g_get (k := 2) (i := t) (ref := "TradeLine$Way") C (by exact rfl) (by exact l2) rfl rfl inGX7 2 (by decide) gw_80 (fun _ h => h) rfl dX7_grow_74 ?_
      refine g_topr (fun qq3 eqq3 => ?_)
      refine g_iload C dX7_grow_77 1 rfl ?_
      refine g_zald (k := 12) (i := t) C (by exact eqq3) (by exact l12) rfl (by exact z12) dX7_grow_79 ?_
      refine g_zastL C 2 rfl hq3 z1 (ex' := [(q1, .inl (E 0, (2 * cap), .inl (fa (rM σ 10 t) cap h (i + 1)))), (q2, .inl (E 0, (2 * cap), .inl (fa (rM σ 11 t) cap h (i + 1)))), (q3, .inl (E 1, (2 * cap), .inl (fa (rM σ 12 t) cap h (i + 1))))]) (by rw [ei, es, zb (hb _), fa_up]; rfl) dX7_grow_80 ?_
      refine g_iload C dX7_grow_81 1 rfl ?_
      refine g_iconst (v := 1) C dX7_grow_83 (by decide) ?_
      refine g_iadd C dX7_grow_84 ?_
      refine g_iload_n C dX7_grow_85 rfl 5 rfl ?_
      refine g_icmp_ge (tgt := 96) C dX7_grow_86 (by decide) (fun c86 => ?_) (fun c86 => ?_)
      · skip
        refine g_iconst (v := 0) C dX7_grow_96 (by decide) ?_
        refine g_istore (lv' := [(5, .int 0), (6, .int (nI i)), (4, .ref q3), (3, .ref q2), (2, .ref q1), (1, .int (nI cap)), (0, .ref (rA σ 2 t))]) C dX7_grow_97 (by decide) rfl ?_
        obtain ⟨x4, ex4⟩ : ∃ y : Int32, y = (nI i) + 1 := ⟨_, rfl⟩
        refine g_iinc (v := x4) (lv' := [(6, .int x4), (5, .int 0), (4, .ref q3), (3, .ref q2), (2, .ref q1), (1, .int (nI cap)), (0, .ref (rA σ 2 t))]) C dX7_grow_99 1 rfl (by rw [ex4]; rfl) (by decide) rfl ?_
        refine g_goto (tgt := 41) C dX7_grow_102 (by decide) ?_
        have e6 : x4 = nI (i + 1) := by rw [ex4, nI_1]
        have e5 : (0 : Int32) = nI (sl cap h (i + 1)) := by rw [nI_1] at c86; rw [sl_succ hh hic, if_neg (fun q => nI_ge q (by omega) c86)]; rfl
        rw [e6, e5]
        refine g_lv [0, 1, 2, 3, 4, 5, 6] rfl ?_
        exact ih (i + 1) (by omega)
      · skip
        refine g_iload C dX7_grow_89 1 rfl ?_
        refine g_iconst (v := 1) C dX7_grow_91 (by decide) ?_
        refine g_iadd C dX7_grow_92 ?_
        refine g_goto (tgt := 97) C dX7_grow_93 (by decide) ?_
        refine g_topi (fun x5 ex5 => ?_)
        refine g_istore (lv' := [(5, .int x5), (6, .int (nI i)), (4, .ref q3), (3, .ref q2), (2, .ref q1), (1, .int (nI cap)), (0, .ref (rA σ 2 t))]) C dX7_grow_97 (by decide) rfl ?_
        obtain ⟨x6, ex6⟩ : ∃ y : Int32, y = (nI i) + 1 := ⟨_, rfl⟩
        refine g_iinc (v := x6) (lv' := [(6, .int x6), (5, .int x5), (4, .ref q3), (3, .ref q2), (2, .ref q1), (1, .int (nI cap)), (0, .ref (rA σ 2 t))]) C dX7_grow_99 1 rfl (by rw [ex6]; rfl) (by decide) rfl ?_
        refine g_goto (tgt := 41) C dX7_grow_102 (by decide) ?_
        have e6 : x6 = nI (i + 1) := by rw [ex6, nI_1]
        have e5 : x5 = nI (sl cap h (i + 1)) := by rw [nI_1] at c86; rw [ex5, nI_1, sl_succ hh hic, if_pos (Nat.lt_of_not_le (fun q => c86 (nI_le q (by omega))))]
        rw [e6, e5]
        refine g_lv [0, 1, 2, 3, 4, 5, 6] rfl ?_
        exact ih (i + 1) (by omega)
/-- the ring twice as long, its first message in its first slot -/
def grW (σ : RS) (t cap h q1 q2 q3 : Nat) : RS := sM (sW (sW (sW σ 10 t (fa (rM σ 10 t) cap h cap) (2 * cap) q1) 11 t (fa (rM σ 11 t) cap h cap) (2 * cap) q2) 12 t (fa (rM σ 12 t) cap h cap) (2 * cap) q3) 2 t 3 0
set_option maxHeartbeats 4000000 in
set_option maxRecDepth 100000 in
theorem k_X7_grow (l : Launch) (σ : RS) (t cap h n : Nat) (hw : WW σ t cap h n) (hb : ∀ j, rM σ 12 t j = 0 ∨ rM σ 12 t j = 1) (hc : cap < 1048576) : ∀ D E sz, Met l yX7_grow gwX7_grow ({ frames := 0, cells := 3, slots := 6 * cap, locals := 0 } : Room) (cP D E sz σ [] [.ref (rA σ 2 t)]) (cQ D E sz σ [] (pV (fun u => ∃ q1 q2 q3, u = (grW σ t cap h q1 q2 q3, [])))) (3) (6 * cap) (Aof σ [] sz) := by
  obtain ⟨w10, w11, w12, wh, wn, hh, hn, hcap, l2, l10, l11, l12⟩ := id hw
  intro D E sz
  refine g_of (cc := cX7_grow) (maxL := 7) (ret := none) (own := "TradeLine$Way") (by decide) rfl rfl (Nat.le_of_ble_eq_true rfl) ?_
  intro p e s m args below meth c C hr hin hz ha hwr
  refine g_aload_n C dX7_grow_0 rfl 0 rfl ?_
  refine g_get (k := 2) (i := t) (ref := "TradeLine$Way") C (by exact rfl) (by exact l2) rfl rfl inGX7 0 (by decide) gw_78 (fun _ h => h) rfl dX7_grow_1 ?_
  refine g_topr (fun qq1 eqq1 => ?_)
  refine g_alen (k := 10) (i := t) C (by exact eqq1) (by exact l10) (by decide) rfl dX7_grow_4 ?_
  refine g_topi (fun x2 ex2 => ?_)
  refine g_istore_n (lv' := [(1, .int x2), (0, .ref (rA σ 2 t))]) C dX7_grow_5 rfl (by decide) rfl ?_
  rw [w10] at ex2
  subst ex2
  refine g_iload_n C dX7_grow_6 rfl 0 rfl ?_
  refine g_ldc (v := 1048576) C gw_418 dX7_grow_7 ?_
  refine g_icmp_lt (tgt := 13) C dX7_grow_9 (by decide) (fun c9 => ?_) (fun c9 => ?_)
  · skip
    refine g_iconst (v := 2) C dX7_grow_13 (by decide) ?_
    refine g_iload_n C dX7_grow_14 rfl 0 rfl ?_
    refine g_imul C dX7_grow_15 ?_
    refine g_newa (atype := .int) (ty := .int) (t := 0) (N' := 2 * cap) (a0 := (2 * cap, .inl (fa (rM σ 10 t) cap h 0))) C gw_95 rfl rfl (fun _ h => by cases h) (fun cA => by rw [fa_0]; rfl) (by rw [two_nI]; exact nI_pos (by omega)) (by rw [two_nI]; exact nI_clamp (by omega)) (by show 2 * cap * 4 ≤ _; omega) (Nat.le_of_ble_eq_true rfl) (by show _ ≤ 6 * cap; omega) dX7_grow_16 (fun q1 hq1 _ => ?_)
    refine g_astore_n (lv' := [(2, .ref q1), (1, .int (nI cap)), (0, .ref (rA σ 2 t))]) C dX7_grow_18 rfl (by decide) rfl ?_
    refine g_iconst (v := 2) C dX7_grow_19 (by decide) ?_
    refine g_iload_n C dX7_grow_20 rfl 1 rfl ?_
    refine g_imul C dX7_grow_21 ?_
    refine g_newa (atype := .int) (ty := .int) (t := 0) (N' := 2 * cap) (a0 := (2 * cap, .inl (fa (rM σ 11 t) cap h 0))) C gw_95 rfl rfl (fun _ h => by cases h) (fun cA => by rw [fa_0]; rfl) (by rw [two_nI]; exact nI_pos (by omega)) (by rw [two_nI]; exact nI_clamp (by omega)) (by show 2 * cap * 4 ≤ _; omega) (Nat.le_of_ble_eq_true rfl) (by show _ ≤ 6 * cap; omega) dX7_grow_22 (fun q2 hq2 _ => ?_)
    refine g_astore_n (lv' := [(3, .ref q2), (2, .ref q1), (1, .int (nI cap)), (0, .ref (rA σ 2 t))]) C dX7_grow_24 rfl (by decide) rfl ?_
    refine g_iconst (v := 2) C dX7_grow_25 (by decide) ?_
    refine g_iload_n C dX7_grow_26 rfl 2 rfl ?_
    refine g_imul C dX7_grow_27 ?_
    refine g_newa (atype := .boolean) (ty := .boolean) (t := 1) (N' := 2 * cap) (a0 := (2 * cap, .inl (fa (rM σ 12 t) cap h 0))) C gw_96 rfl rfl (fun _ h => by cases h) (fun cA => by rw [fa_0]; rfl) (by rw [two_nI]; exact nI_pos (by omega)) (by rw [two_nI]; exact nI_clamp (by omega)) (by show 2 * cap * 1 ≤ _; omega) (Nat.le_of_ble_eq_true rfl) (by show _ ≤ 6 * cap; omega) dX7_grow_28 (fun q3 hq3 _ => ?_)
    refine g_astore (lv' := [(4, .ref q3), (3, .ref q2), (2, .ref q1), (1, .int (nI cap)), (0, .ref (rA σ 2 t))]) C dX7_grow_30 (by decide) rfl ?_
    refine g_aload_n C dX7_grow_32 rfl 4 rfl ?_
    refine g_get (k := 2) (i := t) (ref := "TradeLine$Way") C (by exact rfl) (by exact l2) rfl rfl inGX7 3 (by decide) gw_81 (fun _ h => h) rfl dX7_grow_33 ?_
    refine g_topi (fun x3 ex3 => ?_)
    refine g_istore (lv' := [(5, .int x3), (4, .ref q3), (3, .ref q2), (2, .ref q1), (1, .int (nI cap)), (0, .ref (rA σ 2 t))]) C dX7_grow_36 (by decide) rfl ?_
    refine g_iconst (v := 0) C dX7_grow_38 (by decide) ?_
    refine g_istore (lv' := [(6, .int 0), (5, .int x3), (4, .ref q3), (3, .ref q2), (2, .ref q1), (1, .int (nI cap)), (0, .ref (rA σ 2 t))]) C dX7_grow_39 (by decide) rfl ?_
    have e5 : x3 = nI (sl cap h 0) := by rw [ex3, wh, sl, if_pos (by omega)]; rfl
    rw [e5]
    refine g_lv [0, 1, 2, 3, 4, 5, 6] rfl ?_
    refine lo_X7_grow C σ t cap h n hw hb q1 q2 q3 hq1 hq2 hq3 ?_ cap 0 (by omega)
    refine g_aload_n C dX7_grow_105 rfl 6 rfl ?_
    refine g_aload_n C dX7_grow_106 rfl 4 rfl ?_
    refine g_putA (kt := 10) (ko := 2) (t := t) (q := q1) (N := 2 * cap) (f := fa (rM σ 10 t) cap h cap) (cA := (E 0)) (ref := "TradeLine$Way") (ex' := [(q2, .inl (E 0, 2 * cap, .inl (fa (rM σ 11 t) cap h cap))), (q3, .inl (E 1, 2 * cap, .inl (fa (rM σ 12 t) cap h cap)))]) C (Or.inl rfl) (Or.inl rfl) ⟨fun h => absurd h (by decide), fun _ => rfl⟩ (by exact rfl) (by exact (live5 (by decide) rfl l2)) (by exact (live5 (by decide) rfl l10)) 0 rfl hq1 (ct_sW_i _ rfl _ _ _ _) [1, 2] rfl rfl (by decide) rfl inGX7 tyX7 tyX7_ok nmX7 0 (by decide) gw_78 (fun _ h => h) rfl (tyX7_ok 0 (by decide)) rfl rfl (by simp [fvs]) (by simp [fvs, sW, rMsM, rPsP, rNsN, rAsA, rCsC, rMsR, rMsN, rMsP, rMsC, rMsA, rNsM, rNsP, rNsC, rNsA, rNsR, rPsM, rPsN, rPsC, rPsA, rPsR, rCsM, rCsN, rCsP, rCsA, rCsR, rAsM, rAsN, rAsP, rAsC, rAsR]) dX7_grow_107 ?_
    refine g_aload_n C dX7_grow_110 rfl 6 rfl ?_
    refine g_aload_n C dX7_grow_111 rfl 3 rfl ?_
    refine g_putA (kt := 11) (ko := 2) (t := t) (q := q2) (N := 2 * cap) (f := fa (rM σ 11 t) cap h cap) (cA := (E 0)) (ref := "TradeLine$Way") (ex' := [(q3, .inl (E 1, 2 * cap, .inl (fa (rM σ 12 t) cap h cap)))]) C (Or.inr (Or.inl rfl)) (Or.inl rfl) ⟨fun h => absurd h (by decide), fun _ => rfl⟩ (by exact rfl) (by exact (live5 (by decide) rfl l2)) (by exact (live5 (by decide) rfl l11)) 0 rfl hq2 (ct_sW_i _ rfl _ _ _ _) [1] rfl rfl (by decide) rfl inGX7 tyX7 tyX7_ok nmX7 1 (by decide) gw_79 (fun _ h => h) rfl (tyX7_ok 1 (by decide)) rfl rfl (by simp [fvs]) (by simp [fvs, sW, rMsM, rPsP, rNsN, rAsA, rCsC, rMsR, rMsN, rMsP, rMsC, rMsA, rNsM, rNsP, rNsC, rNsA, rNsR, rPsM, rPsN, rPsC, rPsA, rPsR, rCsM, rCsN, rCsP, rCsA, rCsR, rAsM, rAsN, rAsP, rAsC, rAsR]) dX7_grow_112 ?_
    refine g_aload_n C dX7_grow_115 rfl 6 rfl ?_
    refine g_aload C dX7_grow_116 2 rfl ?_
    refine g_putA (kt := 12) (ko := 2) (t := t) (q := q3) (N := 2 * cap) (f := fa (rM σ 12 t) cap h cap) (cA := (E 1)) (ref := "TradeLine$Way") (ex' := []) C (Or.inr (Or.inr (Or.inl rfl))) (Or.inl rfl) ⟨fun h => absurd h (by decide), fun _ => rfl⟩ (by exact rfl) (by exact (live5 (by decide) rfl l2)) (by exact (live5 (by decide) rfl l12)) 0 rfl hq3 (ct_sW_z _ rfl _ _ _ _) [] rfl rfl (by decide) rfl inGX7 tyX7 tyX7_ok nmX7 2 (by decide) gw_80 (fun _ h => h) rfl (tyX7_ok 2 (by decide)) rfl rfl (by simp [fvs]) (by simp [fvs, sW, rMsM, rPsP, rNsN, rAsA, rCsC, rMsR, rMsN, rMsP, rMsC, rMsA, rNsM, rNsP, rNsC, rNsA, rNsR, rPsM, rPsN, rPsC, rPsA, rPsR, rCsM, rCsN, rCsP, rCsA, rCsR, rAsM, rAsN, rAsP, rAsC, rAsR]) dX7_grow_118 ?_
    refine g_aload_n C dX7_grow_121 rfl 6 rfl ?_
    refine g_iconst (v := 0) C dX7_grow_122 (by decide) ?_
    refine g_put (k := 2) (i := t) (ref := "TradeLine$Way") C (by exact rfl) (by exact (live5 (by decide) rfl l2)) rfl rfl inGX7 tyX7 tyX7_ok nmX7 3 (by decide) gw_81 (fun _ h => h) rfl (tyX7_ok 3 (by decide)) rfl rfl (by simp [fvs]) (by simp [fvs, up1]) dX7_grow_123 ?_
    refine g_widen (k := 3) (n := 6 * cap) (by omega) (by omega) ?_
    exact g_vret C hr hz ⟨rfl, rfl, fun _ => rfl, fun _ => rfl⟩ (⟨q1, q2, q3, rfl⟩) (fun j x h => by simp at h) dX7_grow_126
  · exact absurd c9 (fun q => q (nI_lt hc (by decide)))
