/-! trades: orders -/
variable {Hh Hg : Nat → Nat}
theorem up2_c0 {f : AS} {k i j : Nat} {x v : Int32} (hk : k ≠ 0) : up2 (up2 f 0 i v) k j x = up2 (up2 f k j x) 0 i v := by
  funext k' i'
  by_cases c1 : k' = k ∧ i' = j
  · obtain ⟨rfl, rfl⟩ := c1
    rw [up2_s, up2_n _ _ (by omega), up2_s]
  · rw [up2_n _ _ c1]
    by_cases c2 : k' = 0 ∧ i' = i
    · obtain ⟨rfl, rfl⟩ := c2
      rw [up2_s, up2_s]
    · rw [up2_n _ _ c2, up2_n _ _ c2, up2_n _ _ c1]
theorem gSnd_022 (A : AS) (v : Int32) (s : Nat) (kd o1 o2 o3 o4 : Int32) : gSends (up2 A 0 22 v) s kd o1 o2 o3 o4 = up2 (gSends A s kd o1 o2 o3 o4) 0 22 v := by
  have hk : gKeep (up2 A 0 22 v) s kd o1 o2 o3 o4 = up2 (gKeep A s kd o1 o2 o3 o4) 0 22 v := by
    unfold gKeep
    rw [show up2 A 0 22 v 4 s = A 4 s from up2_n _ _ (by omega), show up2 A 0 22 v 0 1 = A 0 1 from up2_n _ _ (by omega), up2_c0 (by decide), up2_c0 (by decide), up2_c0 (by decide), up2_c0 (by decide), up2_c0 (by decide), up2_c0 (by decide), up2_c0 (by decide), up2_c0 (by decide)]
  unfold gSends
  rw [show up2 A 0 22 v 0 2 = A 0 2 from up2_n _ _ (by omega), show up2 A 0 22 v 4 s = A 4 s from up2_n _ _ (by omega), hk]
  split
  · rfl
  · generalize gKeep A s kd o1 o2 o3 o4 = G
    unfold gGoes pl
    rw [show up2 G 0 22 v 20 (1 - s) = G 20 (1 - s) from up2_n _ _ (by omega), show up2 G 0 22 v 19 (1 - s) = G 19 (1 - s) from up2_n _ _ (by omega), show up2 G 0 22 v 0 1 = G 0 1 from up2_n _ _ (by omega), up2_c0 (by decide), up2_c0 (by decide), up2_c0 (by decide)]
/-- ahead of an order's number -/
def gPreO (a : AS) (k : Nat) (x1 x2 x3 : Int32) : AS := up2 (up2 (up2 (up2 a 0 0 (nI 0)) 23 k x1) 25 k x2) 26 k x3
theorem gOrder_e (a : AS) (k : Nat) (x1 x2 x3 : Int32) : gOrder a k x1 x2 x3 = up2 (gSends (gPreO a k x1 x2 x3) 0 (nI 5) (nI k) x1 x2 x3) 0 22 (nI (k + 1)) := by
  rw [← gSnd_022]
  rfl
theorem lr_preO {b a : AS} {K d x y : Nat} (h : LR Hh b a) (eK : a 0 22 = nI K) (hK : K < 10) (hx : x ≤ 100) (hy : y ≤ 100) : LR Hh (up2 (up2 (up2 b 12 K (nI d)) 8 K (nI x)) 9 K (nI y)) (gPreO a K (nI d) (nI x) (nI y)) := by
  obtain ⟨l0, l1, l2, l3, l4, l5, l6, l7, l8⟩ := lr_00 (v := nI 0) h
  have e22 : up2 a 0 0 (nI 0) 0 22 = nI K := (up2_n _ _ (by omega)).trans eK
  have p5 := L5_z (z := 0) hK hy (L5_p (z := 0) hK hx l5)
  rw [Nat.zero_add] at p5
  unfold gPreO
  generalize up2 a 0 0 (nI 0) = a' at *
  refine lr_m ⟨l0, l1, l2, l3, l4, l5, l6, l7, l8⟩ (fun k k1 k2 => by rw [up2_k _ _ (by omega), up2_k _ _ (by omega), up2_k _ _ (by omega)]) (fun k hk => by rw [up2_k _ _ (by omega), up2_k _ _ (by omega), up2_k _ _ (by omega)]) l0 l1 p5 ?_ l7 l8
  obtain ⟨K', e, hK', hk, hz⟩ := l6
  have eKK : K' = K := (nI_eq (by omega) (by omega)).mp (e.symm.trans e22)
  subst eKK
  refine ⟨K', e, hK', fun o ho => ?_, hz⟩
  obtain ⟨se, kn, ha, le, un, rk, g1, g2, g3, g4, g5, g6, g7, g8, g9⟩ := hk o ho
  exact ⟨se, kn, ha, le, un, rk, g1, g2, g3, g4, g5, g6, (up1_n _ _ (by omega)).trans g7, (up1_n _ _ (by omega)).trans g8, g9⟩
theorem lr_newO {b a : AS} {K d : Nat} (h : LR Hh b a) (eK : a 0 22 = nI K) (hK : K < 10) (hd : d < 2) (e12 : b 12 K = nI d) (e23 : a 23 K = nI d) (e24 : a 24 K = nI 0) (e24' : a 24 (40 + K) = nI 0) (e29 : a 29 K = nI 0) (e30 : a 30 K = nI 0) : LR Hh (up2 b 1 18 (nI (K + 1))) (up2 a 0 22 (nI (K + 1))) := by
  obtain ⟨l0, l1, l2, l3, l4, l5, l6, l7, l8⟩ := h
  refine lr_m ⟨l0, l1, l2, l3, l4, l5, l6, l7, l8⟩ (fun k k1 k2 => up2_k _ _ (by omega)) (fun k hk => up2_k _ _ (by omega)) l0 (L1_set l1 (Or.inl ⟨rfl, rfl⟩)) l5 ?_ l7 l8
  obtain ⟨K', e, hK', hk, hz⟩ := l6
  have eKK : K' = K := (nI_eq (by omega) (by omega)).mp (e.symm.trans eK)
  subst eKK
  refine ⟨K' + 1, up2_s _ _ _ _, by omega, fun o ho => ?_, fun o h1 h2 => hz o (by omega) h2⟩
  by_cases c : o = K'
  · subst c
    exact ⟨d, 0, 0, 0, 0, 0, hd, by decide, by decide, by decide, by decide, by decide, e12, e23, e24, e24', e29, e30, hz o (Nat.le_refl _) hK⟩
  · exact hk o (by omega)
/-- what trades answers -/
def trR (N T D : Nat) (x : Option (((MP × NC) × AS) × Int32)) : Prop := ∃ (μ' : MP) (ν' : NC) (b' a' : AS), x = some (((μ', ν'), b'), (1 : Int32)) ∧ JC N T μ' ν' a' ∧ LR Zh b' a' ∧ tn (a' 0 44) ≤ D
theorem rgX_0 : rgX (0 : Int32) 1 100 := Or.inl (by decide)
theorem rgX_101 : rgX (101 : Int32) 1 100 := Or.inr (by decide)
theorem tr_order {w N T d x y : Nat} {μ : MP} {ν : NC} {b a : AS} (hN : N + 1 ≤ 512) (hd : d < 2) (hx1 : 1 ≤ x) (hx : x ≤ 100) (hy1 : 1 ≤ y) (hy : y ≤ 100) (hJ : JC N T μ ν a) (h : LR Zh b a) (h4 : ∀ t, t < 2 → tn (a 4 t) ≤ 19) (h20 : ∀ t, t < 2 → tn (a 20 t) ≤ 90) : lnR (N + 1) (T + 5) ((f_L_order w μ ν (nI d) (0 : Int32) (nI y)).bind (fun v77 => b_L_trades_85 w v77.1.1 v77.1.2 b (nI x) (nI y) (nI d) v77.2)) := by
  have J1 := JC_thr hJ
  have J2 := JC_thr J1
  have J3 := JC_thr J2
  have J4 := JC_thr J3
  have rx := jc_rg hx1 hx
  have ry := jc_rg hy1 hy
  rw [jc_orderX (v := 2) hJ (by unfold orWhy; rw [if_pos rgX_0]) (Or.inl rfl), Option.bind_some]
  unfold b_L_trades_85
  rw [if_pos (show (if (2 : Nat) = 2 then (-7200 : Int32) else (-7300 : Int32)) = (-7200 : Int32) from rfl), jc_orderX (v := 2) J1 (by unfold orWhy; rw [if_pos rgX_101]) (Or.inl rfl), Option.bind_some]
  unfold b_L_trades_101
  rw [if_pos (show (if (2 : Nat) = 2 then (-7200 : Int32) else (-7300 : Int32)) = (-7200 : Int32) from rfl), jc_orderX (v := 2) J2 (by unfold orWhy; rw [if_neg rx, if_pos rgX_0]) (Or.inl rfl), Option.bind_some]
  unfold b_L_trades_116
  rw [if_pos (show (if (2 : Nat) = 2 then (-7200 : Int32) else (-7300 : Int32)) = (-7200 : Int32) from rfl), jc_orderX (v := 2) J3 (by unfold orWhy; rw [if_neg rx, if_pos rgX_101]) (Or.inl rfl), Option.bind_some]
  obtain ⟨r0, r2, -⟩ := LR_1 h (show 0 < 2 by decide)
  obtain ⟨K, eK, hK⟩ := LR_O h
  have r18 : b 1 18 = nI K := h.2.1.2.2.1.trans eK
  unfold b_L_trades_132
  rw [if_pos (show (if (2 : Nat) = 2 then (-7200 : Int32) else (-7300 : Int32)) = (-7200 : Int32) from rfl), show ixB (2 : Int32) 22 = true from rfl, show (2 : Int32).toNatClampNeg = 2 from rfl, show b 1 2 = a 3 0 from r2]
  simp only [cond_true]
  by_cases c3 : a 3 0 = (0 : Int32)
  · rw [if_pos c3, jc_orderX (v := 3) J4 (by unfold orWhy; rw [if_neg rx, if_neg ry, if_pos (show a 3 0 = nI 0 from c3)]) (Or.inr rfl), Option.bind_some]
    unfold b_L_trades_157
    rw [if_pos (show (if (3 : Nat) = 2 then (-7200 : Int32) else (-7300 : Int32)) = (-7300 : Int32) from rfl)]
    exact ⟨_, _, b, a, rfl, JC_le (JC_thr J4) (Nat.le_succ _) (Nat.le_refl _), h⟩
  rw [if_neg c3, show ixB (18 : Int32) 22 = true from rfl, show (18 : Int32).toNatClampNeg = 18 from rfl, r18]
  simp only [cond_true]
  by_cases cK : K = 10
  · rw [if_pos (show nI K = (10 : Int32) by rw [cK]; rfl)]
    have hR := JC_RR J4
    have z4 := hR.1.2.2.2.2.1
    have eo : f_X8_orders w μ (chg (chg (chg (chg ν 1 6) 1 6) 1 6) 1 6) = some (a 0 22) := by
      unfold f_X8_orders
      rw [ltt hR.1.1, ltt (show 2 < _ by omega), hR.2.2.2.2.2.2.2.1.1]
      rfl
    rw [eo, Option.bind_some, eK, cK, if_pos (show nI 10 = (10 : Int32) from rfl)]
    exact ⟨_, _, b, a, rfl, JC_le J4 (Nat.le_succ _) (Nat.le_succ _), h⟩
  rw [if_neg (show ¬ nI K = (10 : Int32) from Ieq (b := 10) (by omega) (by decide) cK)]
  have hK10 : K < 10 := by omega
  have hv := JC_sv hJ
  have eKt : tn (a 0 22) = K := by rw [eK, tnI (by omega)]
  have hP := lr_preO (d := d) (x := x) (y := y) h eK hK10 hx hy
  have rP : ∀ k i, k ≠ 23 → k ≠ 25 → k ≠ 26 → ¬ (k = 0 ∧ i = 0) → gPreO a K (nI d) (nI x) (nI y) k i = a k i := fun k i k1 k2 k3 k4 => by unfold gPreO; rw [up2_n _ _ (by omega), up2_n _ _ (by omega), up2_n _ _ (by omega), up2_n _ _ k4]
  obtain ⟨b4, s1, s2, s3⟩ := lk_sendF (w := w) (s := 0) (kd := 5) (o1 := K) (o2 := d) (o3 := x) (o4 := y) hP (by decide) (by rw [rP 0 2 (by decide) (by decide) (by decide) (by decide)]; exact hv.2.1) (by rw [rP 4 0 (by decide) (by decide) (by decide) (by decide)]; have := h4 0 (by decide); omega) (by rw [rP 20 _ (by decide) (by decide) (by decide) (by decide)]; have := h20 1 (by decide); show tn (a 20 1) + 1 ≤ 240; omega) (by decide) (by omega) (by omega) hx hy
  have hfo : frO a := by obtain ⟨K', O, E, R, -, m⟩ := JC_MI (by omega) hJ; exact MI_frO m
  obtain ⟨q24, q24', q29, q30, -⟩ := hfo K (by rw [eKt]; exact Nat.le_refl _) (by omega)
  have rS : ∀ k i, (22 ≤ k ∨ k = 0) → gSends (gPreO a K (nI d) (nI x) (nI y)) 0 (nI 5) (nI K) (nI d) (nI x) (nI y) k i = gPreO a K (nI d) (nI x) (nI y) k i := fun k i hk => gSends_k _ _ _ _ _ _ _ _ _ (by omega) (by omega) (by omega) (by omega) (by omega)
  have b18 : b4 1 18 = nI K := by
    have : gSends (gPreO a K (nI d) (nI x) (nI y)) 0 (nI 5) (nI K) (nI d) (nI x) (nI y) 0 22 = nI K := by rw [rS 0 22 (Or.inr rfl), rP 0 22 (by decide) (by decide) (by decide) (by decide)]; exact eK
    exact s2.2.1.2.2.1.trans this
  have hO := lr_newO (b := b4) s2 (by rw [rS 0 22 (Or.inr rfl), rP 0 22 (by decide) (by decide) (by decide) (by decide)]; exact eK) hK10 hd (by rw [s3 12 (by decide), up2_n _ _ (by omega), up2_n _ _ (by omega), up2_s]) (by
    rw [rS 23 _ (Or.inl (by decide))]
    unfold gPreO
    rw [up2_n _ _ (by omega), up2_n _ _ (by omega), up2_s]) (by rw [rS 24 _ (Or.inl (by decide)), rP 24 _ (by decide) (by decide) (by decide) (by omega)]; exact q24) (by rw [rS 24 _ (Or.inl (by decide)), rP 24 _ (by decide) (by decide) (by decide) (by omega)]; exact q24') (by rw [rS 29 _ (Or.inl (by decide)), rP 29 _ (by decide) (by decide) (by decide) (by omega)]; exact q29) (by rw [rS 30 _ (Or.inl (by decide)), rP 30 _ (by decide) (by decide) (by decide) (by omega)]; exact q30)
  rw [← gOrder_e] at hO
  obtain ⟨μ', ν', o1, o2⟩ := jc_order (w := w) (d := d) (x := x) (y := y) hN J4 hd hx1 hx hy1 hy c3 (by rw [eKt]; omega)
  rw [eKt] at o1 o2
  have key : ∀ s0 : Int32, s0 = nI d → b_L_trades_211 w μ (chg (chg (chg (chg ν 1 6) 1 6) 1 6) 1 6) b (nI x) (nI y) (nI d) s0 (nI K) = some (((μ', ν'), up2 b4 1 18 (nI (K + 1))), (1 : Int32)) := fun s0 es => by
    subst es
    have i10 : ixB (nI K) 10 = true := ixn hK10 (by decide)
    have i20 : ixB (nI K) 20 = true := ixn (by omega) (by decide)
    have cK' : (nI K).toNatClampNeg = K := nI_clamp (by omega)
    have w18 : ∀ (f : AS) (k i : Nat) (z : Int32), k ≠ 1 → up2 f k i z 1 18 = f 1 18 := fun f k i z hk => up2_n _ _ (by omega)
    have k259 : b_L_trades_259 w μ (chg (chg (chg (chg ν 1 6) 1 6) 1 6) 1 6) (up2 (up2 (up2 b 12 K (nI d)) 8 K (nI x)) 9 K (nI y)) (nI x) (nI y) (nI d) (nI d) (nI K) (5 : Int32) (0 : Int32) = some (((μ', ν'), up2 b4 1 18 (nI (K + 1))), (1 : Int32)) := by
      unfold b_L_trades_259
      rw [show f_L_send w (up2 (up2 (up2 b 12 K (nI d)) 8 K (nI x)) 9 K (nI y)) (0 : Int32) (5 : Int32) (nI K) (nI d) (nI x) (nI y) = some (b4, 0) from s1, Option.bind_some]
      dsimp only
      rw [show ixB (18 : Int32) 22 = true from rfl, show (18 : Int32).toNatClampNeg = 18 from rfl, b18, show nI K + (1 : Int32) = nI (K + 1) from nI_add K 1, o1]
      simp only [cond_true, yl, Option.bind_some]
      unfold b_L_trades_285
      rw [show ixB (18 : Int32) 22 = true from rfl, show (18 : Int32).toNatClampNeg = 18 from rfl, up2_s, show nI (K + 1) - (1 : Int32) = nI K from by rw [show (1 : Int32) = nI 1 from rfl, pk_sub (by omega)]; rfl, if_pos rfl]
      rfl
    unfold b_L_trades_211
    rw [i10, cK', show ixB (18 : Int32) 22 = true from rfl, show (18 : Int32).toNatClampNeg = 18 from rfl]
    simp only [cond_true, yl]
    rw [w18 b 12 K _ (by decide), r18, i20, cK']
    simp only [cond_true]
    rw [w18 _ 8 K _ (by decide), w18 b 12 K _ (by decide), r18, i20, cK']
    simp only [cond_true]
    rw [w18 _ 9 K _ (by decide), w18 _ 8 K _ (by decide), w18 b 12 K _ (by decide), r18]
    rcases (show d = 0 ∨ d = 1 by omega) with rfl | rfl
    · rw [if_pos (show nI 0 = (0 : Int32) from rfl)]; exact k259
    · rw [if_neg (show ¬ nI 1 = (0 : Int32) by decide)]; exact k259
  refine ⟨μ', ν', _, _, ?_, JC_le o2 (Nat.le_refl _) (Nat.le_succ _), hO⟩
  rcases (show d = 0 ∨ d = 1 by omega) with rfl | rfl
  · rw [if_pos (show nI 0 = (0 : Int32) from rfl)]; exact key 0 rfl
  · rw [if_neg (show ¬ nI 1 = (0 : Int32) by decide)]; exact key 1 rfl
