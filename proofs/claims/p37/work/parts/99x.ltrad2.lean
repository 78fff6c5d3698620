/-! trader, all sorts -/
variable {Hh : Nat → Nat}
theorem lk_trader {w O E R σ o x y q wg t : Nat} {b a : AS} (h : LR Hh b a) (hw : 100 < w) (hM : mb1 a O E R) (hσ : σ ≤ 6) (ho : o < O) (h14 : a 14 q = nI σ) (h15 : a 15 q = nI o) (h16 : a 16 q = nI x) (h17 : a 17 q = nI y) (m2 : wg < 2) (m5 : x ≤ 100) (m6 : y ≤ 100) (m7 : t ≤ 100000) (hF : σ = 1 → x + y ≤ E) (hX : 5 ≤ σ → x < E) : ∃ b', f_L_trader w b (nL (mcode 8 wg σ o x y t)) = some (b', 0) ∧ LR Hh b' (gLearns a q) := by
  have h10 := LR_tnO h
  obtain ⟨hO, hO40, hE, hE100, -⟩ := hM
  have hoT : o < tn (a 0 22) := by rw [hO, tnI (by omega)]; exact ho
  have ho10 : o < 10 := by omega
  have m1 : (8 : Nat) < 16 := by decide
  have hlt := mc_lt m1 m2 (show σ ≤ 100 by omega) (show o ≤ 100 by omega) m5 m6 m7
  have p5 : ∀ b, f_L_part w b (nL (mcode 8 wg σ o x y t)) (5 : Int32) = some (nI σ) := fun b => by rw [show (5 : Int32) = nI 5 from rfl, f_part w b hlt (by decide), mc_5 m1 m2 (by omega) (by omega) m5 m6]
  have p13 : ∀ b, f_L_part w b (nL (mcode 8 wg σ o x y t)) (13 : Int32) = some (nI o) := fun b => by rw [show (13 : Int32) = nI 13 from rfl, f_part w b hlt (by decide), mc_13 m1 m2 (by omega) (by omega) m5 m6]
  have p21 : ∀ b, f_L_part w b (nL (mcode 8 wg σ o x y t)) (21 : Int32) = some (nI x) := fun b => by rw [show (21 : Int32) = nI 21 from rfl, f_part w b hlt (by decide), mc_21 m1 m2 (by omega) (by omega) m5 m6]
  have p29 : ∀ b, f_L_part w b (nL (mcode 8 wg σ o x y t)) (29 : Int32) = some (nI y) := fun b => by rw [show (29 : Int32) = nI 29 from rfl, f_part w b hlt (by decide), mc_29 m1 m2 (by omega) (by omega) m5 m6]
  have i20 : ixB (nI o) 20 = true := ixn (by omega) (by decide)
  have c1 : (nI o).toNatClampNeg = o := nI_clamp (by omega)
  obtain ⟨t1, t2, t3, t4⟩ := L5_t h ho10
  have eg : gLearns a q = gEndReq (gLrn a σ q o) σ o := by unfold gLearns; rw [h14, h15, tnI (show σ < 2 ^ 31 by omega), tnI (show o < 2 ^ 31 by omega)]
  rw [eg]
  unfold f_L_trader
  rw [p5, p13, p21, p29]
  simp only [Option.bind_some, yl]
  by_cases c0 : σ = 0
  · subst c0
    have hL := lr_know h hoT
    rw [if_pos (show nI 0 = (0 : Int32) from rfl), ixn ho10 (by decide), c1]
    simp only [cond_true]
    rw [tr_49 (by omega) (by decide) (by decide), tr_123 (by decide) (by decide) (by decide), tr_156 (by decide) (by decide), tr_191 (by decide), gEnd_id (by omega)]
    exact ⟨_, rfl, hL⟩
  rw [if_neg (show ¬ nI σ = (0 : Int32) from Ieq (b := 0) (by omega) (by decide) c0)]
  by_cases cc1 : σ = 1
  · subst cc1
    have hxy := hF rfl
    obtain ⟨b', f1, f2⟩ := lk_knows (w := w) (o := o) (f := x) (t := y) ho10 y x w b a rfl (by omega) h (by rw [hE, tnI (by omega)]; exact hxy)
    have f1' : b_L_trader_49 w b (nI 1) (nI o) (nI x) (nI y) = b_L_trader_123 w b' (nI 1) (nI o) (nI x) (nI y) := f1
    have e1 : gLrn a 1 q o = gKnows o y x a := by
      unfold gLrn
      rw [if_neg (by decide), if_pos rfl, h16, h17, tnI (show x < 2 ^ 31 by omega), tnI (show y < 2 ^ 31 by omega)]
    rw [f1', tr_123 (by decide) (by decide) (by decide), tr_156 (by decide) (by decide), tr_191 (by decide), gEnd_id (by omega), e1]
    exact ⟨b', rfl, f2⟩
  rw [tr_49 (by omega) hσ cc1]
  by_cases cc2 : σ = 2
  · subst cc2
    have hL := lr_out0 (v := b 11 o + nI x) h ho10
    have e1 : gLrn a 2 q o = up2 a 28 o (b 11 o + nI x) := by
      unfold gLrn
      rw [if_neg (by decide), if_neg (by decide), if_pos rfl, h16, t4]
    rw [e1]
    unfold b_L_trader_123
    rw [if_pos (show nI 2 = (2 : Int32) from rfl), i20, c1]
    simp only [cond_true, yl]
    unfold b_L_trader_138
    rw [if_neg (show ¬ nI 2 = (3 : Int32) by decide)]
    exact lk_end hL (by decide) hoT
  by_cases cc3 : σ = 3
  · subst cc3
    have hL := lr_pz0 (P := x) (Z := y) h ho10 m5 m6
    have e1 : gLrn a 3 q o = up2 (up2 a 25 o (nI x)) 26 o (nI y) := by
      unfold gLrn
      rw [if_neg (by decide), if_neg (by decide), if_neg (by decide), if_pos rfl, h16, h17]
    rw [e1]
    unfold b_L_trader_123
    rw [if_neg (show ¬ nI 3 = (2 : Int32) by decide)]
    unfold b_L_trader_138
    rw [if_pos (show nI 3 = (3 : Int32) from rfl), i20, c1]
    simp only [cond_true, yl]
    exact lk_end hL (by decide) hoT
  rw [tr_123 hσ cc2 cc3]
  by_cases cc4 : σ = 4
  · subst cc4
    have e1 : gLrn a 4 q o = a := by
      unfold gLrn
      rw [if_neg (by decide), if_neg (by decide), if_neg (by decide), if_neg (by decide), if_neg (by decide), if_neg (by decide)]
    rw [e1]
    exact lk_end h (by decide) hoT
  rw [tr_156 hσ (by omega), gEnd_id (by omega)]
  have hxE := hX (by omega)
  obtain ⟨he, o', v, dy, sz, mp, hp, tp, kn, hb, tb, hx⟩ := LR_ex (e := x) h (by rw [hE, tnI (by omega)]; exact hxE)
  have hx0 := hx
  obtain ⟨⟨⟨i1, i2, i3, i4, i5, i6, i7, i8, i9, i10⟩, x1, x2, x3, x4, x5, x6, x7, x8, x9, x10⟩, eL⟩ := hx0
  have eb := ec_bits i1 i2 i3 i4 i5 i6 i7 i8 i9 i10
  have hC := ec_lt i1 i2 i3 i4 i5 i6 i7 i8 i9 i10
  have b42 : (nL (ecode o' v dy sz mp hp tp kn hb tb) >>> (Int32.toInt64 (42 : Int32) &&& 63)) &&& (1 : Int64) = nL kn := by
    have := L_bits (ecode o' v dy sz mp hp tp kn hb tb) 42 1 hC (by decide) (by decide)
    rw [show (42 : Int32) = nI 42 from rfl, show (1 : Int64) = nL (2 ^ 1 - 1) from rfl, this]
    congr 1
    exact eb.2.2.2.2.2.2.2.1
  unfold b_L_trader_191
  rw [if_neg (show ¬ nI σ < (5 : Int32) from fun e => by have := (nI_ltI (a := σ) (b := 5) (by omega) (by decide)).mp e; omega), ixn he (by decide), nI_clamp (show x < 2 ^ 31 by omega), eL, b42]
  simp only [cond_true]
  have k42 : a 42 x = nI 0 ↔ kn = 0 := by rw [x8]; exact nI_eq (by omega) (by decide)
  by_cases ck : kn = 0
  · rw [if_pos ((lcv_w kn i8).mpr ck)]
    have e1 : gLrn a σ q o = a := by
      unfold gLrn
      rw [if_neg c0, if_neg cc1, if_neg cc2, if_neg cc3, h16, tnI (show x < 2 ^ 31 by omega), if_pos (k42.mpr ck), if_pos (k42.mpr ck)]
      split <;> (try split) <;> rfl
    rw [e1]
    exact ⟨b, rfl, h⟩
  rw [if_neg (fun z => ck ((lcv_w kn i8).mp z))]
  by_cases cc5 : σ = 5
  · subst cc5
    have e1 : gLrn a 5 q o = up2 (up2 (up2 a 43 x (nI 1)) 27 o (a 27 o - a 39 x)) 28 o (a 28 o + a 39 x) := by
      unfold gLrn
      rw [if_neg (by decide), if_neg (by decide), if_neg (by decide), if_neg (by decide), if_pos rfl, h16, tnI (show x < 2 ^ 31 by omega), if_neg (fun z => ck (k42.mp z))]
    have l1 := lr_dn0 (v := a 27 o - a 39 x) h ho10
    have l2 := lr_out0 (v := a 28 o + a 39 x) l1 ho10
    have l3 := lr_tb (e := x) (o := o') (v := v) (dy := dy) (sz := sz) (mp := mp) (hp := hp) (tp := tp) (kn := kn) (hb := hb) (tb := tb) l2 he ⟨⟨⟨i1, i2, i3, i4, i5, i6, i7, i8, i9, i10⟩, x1, x2, x3, x4, x5, x6, x7, x8, x9, x10⟩, (lgA_up _ 11 o _ (by decide) x).trans ((lgA_up _ 10 o _ (by decide) x).trans eL)⟩
    have ea : up2 (up2 (up2 a 27 o (a 27 o - a 39 x)) 28 o (a 28 o + a 39 x)) 43 x (nI 1) = gLrn a 5 q o := by
      rw [e1]
      funext k i
      by_cases d1 : k = 43 ∧ i = x
      · obtain ⟨rfl, rfl⟩ := d1
        rw [up2_s, up2_n _ _ (by omega), up2_n _ _ (by omega), up2_s]
      · rw [up2_n _ _ d1]
        by_cases d2 : k = 28 ∧ i = o
        · obtain ⟨rfl, rfl⟩ := d2
          rw [up2_s, up2_s]
        · rw [up2_n _ _ d2, up2_n _ _ d2]
          by_cases d3 : k = 27 ∧ i = o
          · obtain ⟨rfl, rfl⟩ := d3
            rw [up2_s, up2_s]
          · rw [up2_n _ _ d3, up2_n _ _ d3, up2_n _ _ d1]
    rw [ea] at l3
    rw [if_pos (show nI 5 = (5 : Int32) from rfl)]
    have w11 : ∀ V, up2 b 10 o V 11 o = b 11 o := fun V => up2_n _ _ (by omega)
    have wl1 : ∀ V, lgA (up2 b 10 o V) 13 x = nL (ecode o' v dy sz mp hp tp kn hb tb) := fun V => (lgA_up _ 10 o _ (by decide) x).trans eL
    have wl2 : ∀ V W, lgA (up2 (up2 b 10 o V) 11 o W) 13 x = nL (ecode o' v dy sz mp hp tp kn hb tb) := fun V W => (lgA_up _ 11 o _ (by decide) x).trans (wl1 V)
    simp only [i20, c1, cond_true, yl, f_size w _ hC, Option.bind_some, w11, wl1, wl2, eb.2.2.2.1, ec_tb i1 i2 i3 i4 i5 i6 i7 i8 i9 i10]
    refine ⟨_, rfl, ?_⟩
    rw [t3, t4, ← x4]
    exact l3
  · have cc6 : σ = 6 := by omega
    subst cc6
    have e1 : gLrn a 6 q o = up2 a 41 x (nI y) := by
      unfold gLrn
      rw [if_neg (by decide), if_neg (by decide), if_neg (by decide), if_neg (by decide), if_neg (by decide), if_pos rfl, h16, h17, tnI (show x < 2 ^ 31 by omega), if_neg (fun z => ck (k42.mp z))]
    rw [if_neg (show ¬ nI 6 = (5 : Int32) by decide), ec_tp i1 i2 i3 i4 i5 i6 i7 i8 i9 i10 (show y < 128 by omega), e1]
    exact ⟨_, rfl, lr_tp h he hx (by omega)⟩
theorem phi_learns {a : AS} {q : Nat} (ho : tn (a 14 q) < 40 ∧ tn (a 15 q) < 40) : phi (gLearns a q) = phi a := by
  obtain ⟨-, m1, m2⟩ := mkT_learns (a := a) (q := q) ho
  have e1 : hasQ (gLearns a q) = hasQ a := by unfold hasQ; rw [m2]
  have e2 : hasL (gLearns a q) = hasL a := by
    funext o
    unfold hasL lft
    rw [m1 24 (40 + o) (by omega) (by omega), m1 26 (40 + o) (by omega) (by omega), m1 27 (40 + o) (by omega) (by omega), m1 28 (40 + o) (by omega) (by omega)]
  unfold phi
  rw [e1, e2]
