/-! trades: busts and corrections -/
variable {Hh Hg : Nat → Nat}
theorem tr_1104 {w N T e : Nat} {μ : MP} {ν : NC} {b a : AS} (hJ : JC N T μ ν a) (h : LR Zh b a) (he : a 0 35 = nI e) : lnR (N + 1) (T + 3) ((f_L_bust w μ ν (nI e)).bind (fun v28 => b_L_trades_1080 w v28.1.1 v28.1.2 b (nI e) v28.2)) := by
  have J1 := JC_thr hJ
  have J2 := JC_thr J1
  have hle : a 0 35 ≤ nI e := by rw [he]; exact Int32.le_refl _
  rw [jc_bustY hJ (Or.inr hle), Option.bind_some]
  unfold b_L_trades_1080
  rw [if_pos rfl, jc_correctY J1 (Or.inr hle), Option.bind_some]
  unfold b_L_trades_1093
  rw [if_pos rfl, jc_bustY J2 (Or.inl (by decide)), Option.bind_some]
  unfold b_L_trades_1104
  rw [if_pos rfl]
  exact ⟨_, _, b, a, rfl, JC_le (JC_thr J2) (Nat.le_succ _) (Nat.le_refl _), h⟩
theorem tr_exec {w N T act x : Nat} {v3 : Int32} {μ : MP} {ν : NC} {b a : AS} (hN : N + 1 ≤ 512) (hact : act = 9 ∨ act = 10) (hx1 : 1 ≤ x) (hx : x ≤ 100) (hJ : JC N T μ ν a) (h : LR Zh b a) (h4 : ∀ t, t < 2 → tn (a 4 t) ≤ 19) (h20 : ∀ t, t < 2 → tn (a 20 t) ≤ 90) : lnR (N + 1) (T + 3) (bif ixB (19 : Int32) 22 then (f_L_low w b v3 ((b 1 (19 : Int32).toNatClampNeg) + (1 : Int32))).bind (fun v6 => (if v6 = (b 1 (19 : Int32).toNatClampNeg) then ((f_L_bust w μ ν v6).bind (fun v28 => b_L_trades_1080 w v28.1.1 v28.1.2 b v6 v28.2)) else (bif ixB v6 60 then (if (lcv (((lgA b 13 v6.toNatClampNeg) >>> (Int32.toInt64 (43 : Int32) &&& 63)) &&& (1 : Int64)) (1 : Int64)) = (0 : Int32) then (b_L_trades_1136 w μ ν b (nI act) (nI x) v6 (1 : Int32)) else (b_L_trades_1136 w μ ν b (nI act) (nI x) v6 (0 : Int32))) else none))) else none) := by
  have J1 := JC_thr hJ
  have J2 := JC_thr J1
  have hv := JC_sv hJ
  obtain ⟨E, eE, hE⟩ := LR_E h
  have r19 : b 1 19 = nI E := h.2.1.2.2.2.1.trans eE
  have eEt : tn (a 0 35) = E := by rw [eE, tnI (by omega)]
  obtain ⟨e, he, el⟩ := lk_low w b v3 (show 1 ≤ E + 1 by omega) (show E + 1 < 2 ^ 31 by omega)
  rw [show ixB (19 : Int32) 22 = true from rfl, show (19 : Int32).toNatClampNeg = 19 from rfl, r19, show nI E + (1 : Int32) = nI (E + 1) from nI_add E 1, el, Option.bind_some]
  simp only [cond_true]
  by_cases cE : e = E
  · rw [if_pos (show nI e = nI E by rw [cE])]
    subst cE
    exact tr_1104 hJ h eE
  rw [if_neg (show ¬ nI e = nI E from Ieq (by omega) (by omega) cE)]
  have heE : e < tn (a 0 35) := by rw [eEt]; omega
  obtain ⟨he60, o, v, dy, sz, mp, hp, tp, kn, hb, tb, hX⟩ := LR_ex h heE
  obtain ⟨⟨⟨i1, i2, i3, i4, i5, i6, i7, i8, i9, i10⟩, x1, x2, x3, x4, x5, x6, x7, x8, x9, x10⟩, eL⟩ := id hX
  have eb := ec_bits i1 i2 i3 i4 i5 i6 i7 i8 i9 i10
  have hC := ec_lt i1 i2 i3 i4 i5 i6 i7 i8 i9 i10
  have b43 : (nL (ecode o v dy sz mp hp tp kn hb tb) >>> (Int32.toInt64 (43 : Int32) &&& 63)) &&& (1 : Int64) = nL hb := by
    have := L_bits (ecode o v dy sz mp hp tp kn hb tb) 43 1 hC (by decide) (by decide)
    rw [show (43 : Int32) = nI 43 from rfl, show (1 : Int64) = nL (2 ^ 1 - 1) from rfl, this]
    congr 1
    exact eb.2.2.2.2.2.2.2.2.1
  have b15 : Int64.toInt32 (nL (ecode o v dy sz mp hp tp kn hb tb) &&& (15 : Int64)) = nI o := by
    rw [show (15 : Int64) = nL (2 ^ 4 - 1) from rfl, nL_and _ _ (by omega) (by decide), nL_I]
    congr 1
    exact eb.1
  have ie : ixB (nI e) 60 = true := ixn he60 (by decide)
  have ce : (nI e).toNatClampNeg = e := nI_clamp (by omega)
  have hb1 : lcv (nL hb) (1 : Int64) = (0 : Int32) ↔ hb = 1 := by
    rw [lcv_0, show (1 : Int64) = nL 1 from rfl, nL_inj (by omega) (by decide)]
  have k43 : a 43 (100 + e) = nI 0 ↔ hb = 0 := by rw [x9]; exact nI_eq (by omega) (by decide)
  have e36 : tn (a 36 e) = o := by rw [x1, tnI (by omega)]
  have hO := LR_tnO h
  rw [ie, ce, eL, b43]
  simp only [cond_true]
  have e10 : (10 : Int32) + nI o = nI (10 + o) := nI_add 10 o
  have i20 : ixB (nI (10 + o)) 20 = true := ixn (by omega) (by decide)
  have c10 : (nI (10 + o)).toNatClampNeg = 10 + o := nI_clamp (by omega)
  have h00 := lr_00 (v := nI 0) h
  have sN : ∀ c : AS, c 4 1 = a 4 1 → tn (c 4 1) + 1 ≤ 63 := fun c hc => by rw [hc]; have := h4 1 (by decide); omega
  have sC : ∀ c : AS, c 20 0 = a 20 0 → tn (c 20 (1 - 1)) + 1 ≤ 240 := fun c hc => by show tn (c 20 0) + 1 ≤ 240; rw [hc]; have := h20 0 (by decide); omega
  by_cases cb : hb = 1
  · -- busted before
    rw [if_pos (hb1.mpr cb)]
    have hne : ¬ a 43 (100 + e) = nI 0 := fun z => by have := k43.mp z; omega
    unfold b_L_trades_1136
    rw [ie, ce, eL, b15]
    simp only [cond_true, yl]
    rcases hact with rfl | rfl
    · rw [if_pos (show nI 9 = (9 : Int32) from rfl), if_neg (show ¬ (1 : Int32) = 0 by decide), jc_bustX hJ heE hne, Option.bind_some]
      unfold b_L_trades_1167
      rw [if_pos rfl]
      exact ⟨_, _, b, a, rfl, JC_le J1 (Nat.le_succ _) (Nat.add_le_add_left (show 1 ≤ 3 by decide) T), h⟩
    · rw [if_neg (show ¬ nI 10 = (9 : Int32) by decide), jc_correctX (v := 2) hJ heE (by unfold coWhy; rw [if_pos rgX_0]) (Or.inl rfl), Option.bind_some]
      unfold b_L_trades_1280
      rw [if_pos (show (if (2 : Nat) = 2 then (-7200 : Int32) else (-7300 : Int32)) = (-7200 : Int32) from rfl), jc_correctX (v := 2) J1 heE (by unfold coWhy; rw [if_pos rgX_101]) (Or.inl rfl), Option.bind_some]
      unfold b_L_trades_1294
      rw [if_pos (show (if (2 : Nat) = 2 then (-7200 : Int32) else (-7300 : Int32)) = (-7200 : Int32) from rfl), if_neg (show ¬ (1 : Int32) = 0 by decide), jc_correctX (v := 3) J2 heE (by unfold coWhy; rw [if_neg (jc_rg hx1 hx), if_neg hne]) (Or.inr rfl), Option.bind_some]
      unfold b_L_trades_1315
      rw [if_pos (show (if (3 : Nat) = 2 then (-7200 : Int32) else (-7300 : Int32)) = (-7300 : Int32) from rfl)]
      exact ⟨_, _, b, a, rfl, JC_le (JC_thr J2) (Nat.le_succ _) (Nat.le_refl _), h⟩
  · rw [if_neg (fun z => cb (hb1.mp z))]
    have h43 : a 43 (100 + e) = nI 0 := k43.mpr (by omega)
    unfold b_L_trades_1136
    rw [ie, ce, eL, b15]
    simp only [cond_true, yl]
    rcases hact with rfl | rfl
    · -- a bust
      rw [if_pos (show nI 9 = (9 : Int32) from rfl), if_pos trivial, e10, i20, c10]
      simp only [cond_true]
      have l1 := lr_hb (e := e) (o := o) (v := v) (dy := dy) (sz := sz) (mp := mp) (hp := hp) (tp := tp) (kn := kn) (hb := hb) (tb := tb) h00 he60 ⟨⟨⟨i1, i2, i3, i4, i5, i6, i7, i8, i9, i10⟩, x1, x2, x3, x4, x5, x6, x7, x8, x9, x10⟩, eL⟩
      have l2 := lr_dn (z := 1) (o := o) (v := a 27 (40 + o) - a 39 e) l1 i1
      have l3 := lr_out (z := 1) (o := o) (v := a 28 (40 + o) + a 39 e) l2 i1
      have eG : up2 (up2 (up2 (up2 a 0 0 (nI 0)) 43 (100 + e) (nI 1)) 27 (40 * 1 + o) (a 27 (40 + o) - a 39 e)) 28 (40 * 1 + o) (a 28 (40 + o) + a 39 e) = gBust0 a e o := rfl
      rw [eG] at l3
      have rB : ∀ k i, k ≠ 43 → k ≠ 27 → k ≠ 28 → ¬ (k = 0 ∧ i = 0) → gBust0 a e o k i = a k i := fun k i k1 k2 k3 k4 => by unfold gBust0; rw [up2_n _ _ (by omega), up2_n _ _ (by omega), up2_n _ _ (by omega), up2_n _ _ k4]
      obtain ⟨b4, s1, s2⟩ := lk_send (w := w) (s := 1) (kd := 8) (o1 := 5) (o2 := o) (o3 := e) (o4 := 0) l3 (by decide) (by rw [rB 0 2 (by decide) (by decide) (by decide) (by decide)]; exact hv.2.1) (sN _ (rB 4 1 (by decide) (by decide) (by decide) (by decide))) (sC _ (rB 20 0 (by decide) (by decide) (by decide) (by decide))) (by decide) (by decide) (by omega) (by omega) (by decide)
      have s2' : LR Zh b4 (gBust a e) := by unfold gBust; rw [e36]; exact s2
      obtain ⟨μ', ν', c1, c2⟩ := jc_bust (w := w) hN hJ heE h43
      rw [e36] at c1
      obtain ⟨-, -, g3, -⟩ := h.2.2.2.2.2.1 1 o (by decide) i1
      obtain ⟨-, -, -, g4, -⟩ := h.2.2.2.2.2.1 1 o (by decide) i1
      have g3' : b 10 (10 + o) = a 27 (40 + o) := g3
      have g4' : b 11 (10 + o) = a 28 (40 + o) := g4
      have ehb := ec_hb i1 i2 i3 i4 i5 i6 i7 i8 i9 i10
      have w13 : ∀ V : Int64, lgA (wLg b 13 e V) 13 e = V := fun V => lgA_s _ _ _ _
      have i9' : (1 : Nat) < 2 := by decide
      have hC' := ec_lt (hb := 1) i1 i2 i3 i4 i5 i6 i7 i8 i9' i10
      have eb' := ec_bits (hb := 1) i1 i2 i3 i4 i5 i6 i7 i8 i9' i10
      have w10 : ∀ V : Int64, wLg b 13 e V 10 (10 + o) = a 27 (40 + o) := fun V => (wLg_n _ _ _ _ (by decide) _).trans g3'
      have w13' : ∀ (V : Int64) (z : Int32), lgA (up2 (wLg b 13 e V) 10 (10 + o) z) 13 e = V := fun V z => (lgA_up _ 10 _ _ (by decide) e).trans (lgA_s _ _ _ _)
      have w11 : ∀ (V : Int64) (z : Int32), up2 (wLg b 13 e V) 10 (10 + o) z 11 (10 + o) = a 28 (40 + o) := fun V z => (up2_n _ _ (by omega)).trans ((wLg_n _ _ _ _ (by decide) _).trans g4')
      rw [ehb, w13, f_size w _ hC', eb'.2.2.2.1, Option.bind_some, w10, w13', f_size w _ hC', eb'.2.2.2.1, Option.bind_some, w11, ← x4]
      rw [show f_L_send w (up2 (up2 (wLg b 13 e (nL (ecode o v dy sz mp hp tp kn 1 tb))) 10 (10 + o) (a 27 (40 + o) - a 39 e)) 11 (10 + o) (a 28 (40 + o) + a 39 e)) (1 : Int32) (8 : Int32) (5 : Int32) (nI o) (nI e) (0 : Int32) = some (b4, 0) from s1, Option.bind_some, c1, Option.bind_some]
      unfold b_L_trades_1256
      have f10 : b4 10 (10 + o) = a 27 (40 + o) - a 39 e := by
        obtain ⟨-, -, q3, -⟩ := s2'.2.2.2.2.2.1 1 o (by decide) i1
        have q3' : b4 10 (10 + o) = gBust a e 27 (40 + o) := q3
        rw [q3']
        unfold gBust
        rw [e36, gRep_r _ _ _ _ _ 27 (by decide) (by decide) (by decide) (by decide) (by decide)]
        unfold gBust0
        rw [up2_n _ _ (by omega), up2_s]
      rw [e10, i20, c10]
      dsimp only
      rw [if_pos (show a 27 (40 + o) - a 39 e = b4 10 (10 + o) from f10.symm)]
      simp only [cond_true]
      exact ⟨μ', ν', b4, _, rfl, JC_le c2 (Nat.le_refl _) (by omega), s2'⟩
    · -- a correction
      rw [if_neg (show ¬ nI 10 = (9 : Int32) by decide), jc_correctX (v := 2) hJ heE (by unfold coWhy; rw [if_pos rgX_0]) (Or.inl rfl), Option.bind_some]
      unfold b_L_trades_1280
      rw [if_pos (show (if (2 : Nat) = 2 then (-7200 : Int32) else (-7300 : Int32)) = (-7200 : Int32) from rfl), jc_correctX (v := 2) J1 heE (by unfold coWhy; rw [if_pos rgX_101]) (Or.inl rfl), Option.bind_some]
      unfold b_L_trades_1294
      rw [if_pos (show (if (2 : Nat) = 2 then (-7200 : Int32) else (-7300 : Int32)) = (-7200 : Int32) from rfl), if_pos rfl, ie, ce, eL, show (28 : Int32) = nI 28 from rfl, f_price w b hC (by decide), Option.bind_some, show nI 28 = (28 : Int32) from rfl, ec_hp i1 i2 i3 i4 i5 i6 i7 i8 i9 i10 (show x < 128 by omega)]
      simp only [cond_true, yl]
      have l1 := lr_hp (e := e) (o := o) (v := v) (dy := dy) (sz := sz) (mp := mp) (hp := hp) (tp := tp) (kn := kn) (hb := hb) (tb := tb) (y := x) h00 he60 ⟨⟨⟨i1, i2, i3, i4, i5, i6, i7, i8, i9, i10⟩, x1, x2, x3, x4, x5, x6, x7, x8, x9, x10⟩, eL⟩ (by omega)
      have rB : ∀ k i, k ≠ 41 → ¬ (k = 0 ∧ i = 0) → up2 (up2 a 0 0 (nI 0)) 41 (100 + e) (nI x) k i = a k i := fun k i k1 k4 => by rw [up2_n _ _ (by omega), up2_n _ _ k4]
      obtain ⟨b4, s1, s2⟩ := lk_send (w := w) (s := 1) (kd := 8) (o1 := 6) (o2 := o) (o3 := e) (o4 := x) l1 (by decide) (by rw [rB 0 2 (by decide) (by decide)]; exact hv.2.1) (sN _ (rB 4 1 (by decide) (by decide))) (sC _ (rB 20 0 (by decide) (by decide))) (by decide) (by decide) (by omega) (by omega) hx
      have s2' : LR Zh b4 (gCorr a e (nI x)) := by unfold gCorr; rw [e36]; exact s2
      obtain ⟨μ', ν', c1, c2⟩ := jc_correct (w := w) hN J2 heE hx1 hx h43
      rw [show f_L_send w (wLg b 13 e (nL (ecode o v dy sz mp x tp kn hb tb))) (1 : Int32) (8 : Int32) (6 : Int32) (nI o) (nI e) (nI x) = some (b4, 0) from s1, Option.bind_some, c1, Option.bind_some]
      unfold b_L_trades_1392
      rw [x6, eb.2.2.2.2.2.1, if_pos rfl]
      exact ⟨μ', ν', b4, _, rfl, JC_le c2 (Nat.le_refl _) (Nat.le_succ _), s2'⟩
