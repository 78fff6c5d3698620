/-! house -/
variable {Hh : Nat → Nat}
theorem lk_207 {w o n k : Nat} {b a : AS} (h : LR Hh b a) (ho : o < 10) (hu : a 0 2 = nI 0 ∨ a 0 2 = nI 1) (hg : rgo a 1 n k) (hN : n + 1 ≤ 63) (hc : k + 1 ≤ 240) : ∃ b', b_L_house_207 w b (nI o) = some (b', 0) ∧ LR Hh b' (gRep a (nI 4) o (nI 0) (nI 0)) := by
  obtain ⟨b', s1, s2, -⟩ := lk_rep (w := w) (σ := 4) (x := 0) (y := 0) h ho (by decide) (by decide) (by decide) hu hg hN hc
  refine ⟨b', ?_, s2⟩
  unfold b_L_house_207
  rw [show f_L_send w b (1 : Int32) (8 : Int32) (4 : Int32) (nI o) (0 : Int32) (0 : Int32) = some (b', 0) from s1]
  rfl
/-- behind the book's change: the report, then routing -/
theorem lk_newb {w o O K E R n k σ x y : Nat} {b a : AS} (h : LR Hh b a) (hM : MI K O E R a) (hw : 100 < w) (ho : o < O) (h24 : a 24 (40 + o) ≠ nI 0) (hσ : σ = 0 ∨ σ = 3) (hx : x ≤ 100) (hy : y ≤ 100) (hu : a 0 2 = nI 0 ∨ a 0 2 = nI 1) (hg : rgo a 1 n k) (hN : n + 2 ≤ 63) (hc : k + 2 ≤ 240) (hl : lgN a 0 ≤ 8190) (hphi : E + phi a ≤ 60) : ∃ b', (f_L_send w b (1 : Int32) (8 : Int32) (nI σ) (nI o) (nI x) (nI y)).bind (fun v33 => (f_L_route w v33.1 (nI o)).bind (fun v34 => some (v34.1, (0 : Int32)))) = some (b', 0) ∧ LR Hh b' (gRoutes (gRep a (nI σ) o (nI x) (nI y)) o) ∧ tn (gRoutes (gRep a (nI σ) o (nI x) (nI y)) o 0 35) + phi (gRoutes (gRep a (nI σ) o (nI x) (nI y)) o) ≤ 60 := by
  have hO := LR_tnO h
  rw [hM.1.1, tnI (by have := hM.1.2.1; omega)] at hO
  obtain ⟨b1, s1, s2, k', s3, s4⟩ := lk_rep (w := w) (σ := σ) (x := x) (y := y) h (show o < 10 by omega) (by omega) hx hy hu hg (by omega) (by omega)
  have t := MI_rep (S := n) (x := nI x) (y := nI y) hg.1 (by omega) hl (show σ ≤ 6 by omega) ho ⟨x, by omega, rfl⟩ ⟨y, by omega, rfl⟩ (fun c => by omega) (fun c => by omega) (fun c => by omega) hM
  have r24 : gRep a (nI σ) o (nI x) (nI y) 24 = a 24 := gRep_r _ _ _ _ _ 24 (by decide) (by decide) (by decide) (by decide) (by decide)
  have r0 : gRep a (nI σ) o (nI x) (nI y) 0 = a 0 := gRep_r _ _ _ _ _ 0 (by decide) (by decide) (by decide) (by decide) (by decide)
  obtain ⟨b2, t1, t2, t3⟩ := lk_route (w := w) (o := o) s2 t hw ho (by rw [r24]; exact h24) (by rw [r0]; exact hu) (by rw [s3.1, tnI (by omega)]; omega) (by rw [show gRep a (nI σ) o (nI x) (nI y) 20 0 = nI k' from s3.2.2, tnI (by omega)]; omega) (by rw [phi_rep]; exact hphi)
  refine ⟨b2, ?_, t2, t3⟩
  rw [s1, Option.bind_some, t1, Option.bind_some]
theorem lgN_c {a b : AS} (s : Nat) (h : b 4 = a 4) : lgN b s = lgN a s := by unfold lgN; rw [h]
theorem lk_house {w O K E R q kd wg o1 o2 o3 o4 t n k : Nat} {b a : AS} (h : LR Hh b a) (hM : MI K O E R a) (hw : 100 < w) (hk : kd = 5 ∨ kd = 6 ∨ kd = 7) (ho : o1 < O) (h11 : a 11 q = nI kd) (h14 : a 14 q = nI o1) (h15 : a 15 q = nI o2) (h16 : a 16 q = nI o3) (h17 : a 17 q = nI o4) (m2 : wg < 2) (m3 : o1 ≤ 100) (m4 : o2 ≤ 100) (m5 : o3 ≤ 100) (m6 : o4 ≤ 100) (m7 : t ≤ 100000) (hu : a 0 2 = nI 0 ∨ a 0 2 = nI 1) (hg : rgo a 1 n k) (hN : n + 2 ≤ 63) (hc : k + 2 ≤ 240) (hl : lgN a 0 ≤ 8190) (hR : mm4 a K (R + 1)) (hR2 : R + 1 ≤ 10000) (hphi : E + phi a ≤ 60) : ∃ b', f_L_house w b (nL (mcode kd wg o1 o2 o3 o4 t)) = some (b', 0) ∧ LR Hh b' (gWork a q) ∧ tn (gWork a q 0 35) + phi (gWork a q) ≤ 60 := by
  have hO := LR_tnO h
  obtain ⟨y1, y2, y3, y4, y5⟩ := id hM.1
  rw [y1, tnI (by omega)] at hO
  have ho10 : o1 < 10 := by omega
  have hoT : o1 < tn (a 0 22) := by rw [y1, tnI (by omega)]; exact ho
  have m1 : kd < 16 := by omega
  have hlt := mc_lt m1 m2 m3 m4 m5 m6 m7
  have ekd := mc_kind m1 m2 m3 m4 m5 m6 m7
  have p5 : ∀ b, f_L_part w b (nL (mcode kd wg o1 o2 o3 o4 t)) (5 : Int32) = some (nI o1) := fun b => by rw [show (5 : Int32) = nI 5 from rfl, f_part w b hlt (by decide), mc_5 m1 m2 m3 m4 m5 m6]
  have p13 : ∀ b, f_L_part w b (nL (mcode kd wg o1 o2 o3 o4 t)) (13 : Int32) = some (nI o2) := fun b => by rw [show (13 : Int32) = nI 13 from rfl, f_part w b hlt (by decide), mc_13 m1 m2 m3 m4 m5 m6]
  have p21 : ∀ b, f_L_part w b (nL (mcode kd wg o1 o2 o3 o4 t)) (21 : Int32) = some (nI o3) := fun b => by rw [show (21 : Int32) = nI 21 from rfl, f_part w b hlt (by decide), mc_21 m1 m2 m3 m4 m5 m6]
  have p29 : ∀ b, f_L_part w b (nL (mcode kd wg o1 o2 o3 o4 t)) (29 : Int32) = some (nI o4) := fun b => by rw [show (29 : Int32) = nI 29 from rfl, f_part w b hlt (by decide), mc_29 m1 m2 m3 m4 m5 m6]
  generalize nL (mcode kd wg o1 o2 o3 o4 t) = C at *
  have e14 : tn (a 14 q) = o1 := by rw [h14]; exact tnI (by omega)
  have e10 : (10 : Int32) + nI o1 = nI (10 + o1) := nI_add 10 o1
  have i10 : ixB (nI o1) 10 = true := ixn ho10 (by decide)
  have i20 : ixB (nI (10 + o1)) 20 = true := ixn (by omega) (by decide)
  have c1 : (nI o1).toNatClampNeg = o1 := nI_clamp (by omega)
  have c10 : (nI (10 + o1)).toNatClampNeg = 10 + o1 := nI_clamp (by omega)
  obtain ⟨z, d, u, z1, z2, z3, z4, z5, zL⟩ := LR_book h hM ho10
  obtain ⟨-, se, kn, ha, le, un, rk, ⟨⟨g1, g2, g3, g4, g5, g6⟩, r1, r2, r3, r4, r5, r6⟩, e12⟩ := L6_at h.2.2.2.2.2.2.1 hoT
  have bit4 := (kd_bits g1 g2 g3 g4 g5 g6).2.2.1
  have e21 : b 1 21 = nI R := h.2.1.2.2.2.2.2.1.trans y5
  have h35 : tn (a 0 35) + phi a ≤ 60 := by rw [y3, tnI (by omega)]; exact hphi
  unfold f_L_house gWork
  rw [ekd, p5, h11, e14]
  simp only [yl, Option.bind_some, e10, i10, i20, c1, c10, cond_true, e12, bit4]
  by_cases k5 : kd = 5
  · rw [if_pos (show nI kd = (5 : Int32) by rw [k5]; rfl), if_pos (show nI kd = nI 5 by rw [k5])]
    by_cases c24 : a 24 (40 + o1) = nI 0
    · have ha0 : ha = 0 := (nI_eq (by omega) (by decide)).mp (r3.symm.trans c24)
      rw [if_pos c24, if_pos (show nI (4 * ha) ≤ (0 : Int32) by rw [ha0]; decide)]
      have hA := lr_has h hoT
      have hB := lr_behind (o := o1) (P := o3) (Z := o4) (R := R) hA hoT m5 m6 y5 (by omega)
      have eb : bhB (up2 b 12 o1 (b 12 o1 ||| (4 : Int32))) o1 o3 o4 R = up2 (up2 (up2 (up2 (up2 b 12 o1 (nI (kcode se kn ha le un rk) ||| (4 : Int32))) 8 (10 + o1) (nI o3)) 9 (10 + o1) (nI o4)) 12 o1 ((up2 (up2 (up2 b 12 o1 (nI (kcode se kn ha le un rk) ||| (4 : Int32))) 8 (10 + o1) (nI o3)) 9 (10 + o1) (nI o4) 12 o1 &&& (255 : Int32)) ||| (nI R <<< ((8 : Int32) &&& 31)))) 1 21 (nI (R + 1)) := by
        unfold bhB
        rw [e12]
        rfl
      rw [← h16, ← h17] at hB
      generalize hgb : gBehind (up2 (up2 (up2 a 24 (40 + o1) (nI 1)) 25 (40 + o1) (a 16 q)) 26 (40 + o1) (a 17 q)) o1 = A at hB ⊢
      have F : ∀ k i : Nat, ¬ ((k = 24 ∨ k = 25 ∨ k = 26) ∧ i = 40 + o1) → ¬ (k = 31 ∧ i = o1) → ¬ (k = 0 ∧ i = 32) → A k i = a k i := fun k i w1 w2 w3 => by
        rw [← hgb]
        unfold gBehind
        rw [up2_n _ _ w3, up2_n _ _ w2, up2_n _ _ (by omega), up2_n _ _ (by omega), up2_n _ _ (by omega)]
      have n24 : A 24 (40 + o1) ≠ nI 0 := by
        rw [← hgb]
        unfold gBehind
        rw [up2_n _ _ (by omega), up2_n _ _ (by omega), up2_n _ _ (by omega), up2_n _ _ (by omega), up2_s]
        decide
      have n26 : A 26 (40 + o1) = nI o4 := by
        rw [← hgb]
        unfold gBehind
        rw [up2_n _ _ (by omega), up2_n _ _ (by omega), up2_s, h17]
      have n31 : A 31 o1 = nI R := by
        rw [← hgb]
        unfold gBehind
        rw [up2_n _ _ (by omega), up2_s, up2_n _ _ (by omega), up2_n _ _ (by omega), up2_n _ _ (by omega), y5]
      have n32 : A 0 32 = nI (R + 1) := by
        rw [← hgb]
        unfold gBehind
        rw [up2_s, up2_n _ _ (by omega), up2_n _ _ (by omega), up2_n _ _ (by omega), y5]
        exact nI_add R 1
      have hM1 := MI_hb ho F n24 n26 (by omega) (fun d' u' _ _ _ hh => by have := hh c24; omega) n31 n32 hR hM
      have hphi1 : phi A ≤ phi a := phi_c (fun q' _ e => (F _ _ (by omega) (by omega) (by omega)).trans e) (fun o' ho' e1 e2 => by
        have hne : o' ≠ o1 := fun e => e1 (by rw [e]; exact c24)
        unfold lft at e2 ⊢
        rw [F _ _ (by omega) (by omega) (by omega), F _ _ (by omega) (by omega) (by omega), F _ _ (by omega) (by omega) (by omega), F _ _ (by omega) (by omega) (by omega)]
        exact ⟨e1, e2⟩)
      have hgA : rgo A 1 n k := rgo_of hg (F _ _ (by omega) (by omega) (by omega)) (F _ _ (by omega) (by omega) (by omega)) (F _ _ (by omega) (by omega) (by omega))
      obtain ⟨b', f1, f2, f3⟩ := lk_newb (w := w) (σ := 0) (x := 0) (y := 0) hB hM1 hw ho n24 (Or.inl rfl) (by decide) (by decide) (by rw [F _ _ (by omega) (by omega) (by omega)]; exact hu) hgA hN hc (by unfold lgN; rw [F _ _ (by omega) (by omega) (by omega)]; exact hl) (by omega)
      refine ⟨b', ?_, f2, f3⟩
      rw [← f1, eb]
      have w21 : up2 (up2 (up2 (up2 b 12 o1 (nI (kcode se kn ha le un rk) ||| (4 : Int32))) 8 (10 + o1) (nI o3)) 9 (10 + o1) (nI o4)) 12 o1 ((up2 (up2 (up2 b 12 o1 (nI (kcode se kn ha le un rk) ||| (4 : Int32))) 8 (10 + o1) (nI o3)) 9 (10 + o1) (nI o4) 12 o1 &&& (255 : Int32)) ||| (nI R <<< ((8 : Int32) &&& 31))) 1 21 = nI R := e21
      have w29 : up2 (up2 (up2 b 12 o1 (nI (kcode se kn ha le un rk) ||| (4 : Int32))) 8 (10 + o1) (nI o3)) 9 (10 + o1) (nI o4) 1 21 = nI R := e21
      simp only [p21, p29, Option.bind_some, show ixB (21 : Int32) 22 = true from rfl, show (21 : Int32).toNatClampNeg = 21 from rfl, cond_true, w29, w21, show nI R + (1 : Int32) = nI (R + 1) from nI_add R 1]
      rfl
    · have ha1 : ha = 1 := by
        have : ¬ ha = 0 := fun e => c24 (by rw [r3, e])
        omega
      rw [if_neg c24, if_neg (show ¬ nI (4 * ha) ≤ (0 : Int32) by rw [ha1]; decide)]
      exact ⟨b, rfl, h, h35⟩
  rw [if_neg (show ¬ nI kd = (5 : Int32) from fun e => k5 ((nI_eq (a := kd) (b := 5) (by omega) (by decide)).mp e)), if_neg (show ¬ nI kd = nI 5 from fun e => k5 ((nI_eq (a := kd) (b := 5) (by omega) (by decide)).mp e))]
  have hrest : f_L_rest w b (nI (10 + o1)) = some (nI (z - d - u)) := by rw [show 10 + o1 = 10 * 1 + o1 from rfl, lk_rest h (by decide) ho10]; exact congrArg some zL
  obtain ⟨b7, f71, f72⟩ := lk_207 (w := w) (o := o1) h ho10 hu hg (by omega) (by omega)
  have f73 : tn (gRep a (nI 4) o1 (nI 0) (nI 0) 0 35) + phi (gRep a (nI 4) o1 (nI 0) (nI 0)) ≤ 60 := by
    rw [phi_rep, gRep_r _ _ _ _ _ 0 (by decide) (by decide) (by decide) (by decide) (by decide)]
    exact h35
  by_cases c24 : a 24 (40 + o1) = nI 0
  · have ha0 : ha = 0 := (nI_eq (by omega) (by decide)).mp (r3.symm.trans c24)
    rw [if_pos (Or.inl c24), if_pos (show nI (4 * ha) = (0 : Int32) by rw [ha0]; rfl)]
    refine ⟨b7, ?_, f72, f73⟩
    unfold b_L_house_172
    rw [if_pos rfl]
    exact f71
  have ha1 : ha = 1 := by
    have : ¬ ha = 0 := fun e => c24 (by rw [r3, e])
    omega
  rw [if_neg (show ¬ nI (4 * ha) = (0 : Int32) by rw [ha1]; decide), hrest]
  simp only [Option.bind_some]
  unfold b_L_house_172
  by_cases cL : z - d - u = 0
  · rw [cL, if_pos (show nI 0 = (0 : Int32) from rfl), if_pos (Or.inr (Or.inl (by rw [zL, cL])))]
    exact ⟨b7, f71, f72, f73⟩
  have hL0 : ¬ lft a (40 + o1) = nI 0 := by rw [zL, nI_eq (by omega) (by decide)]; exact cL
  rw [if_neg (show ¬ nI (z - d - u) = (0 : Int32) from fun e => cL ((nI_eq (a := z - d - u) (b := 0) (by omega) (by decide)).mp e))]
  have b10 : b 10 (10 + o1) = nI d := ((h.2.2.2.2.2.1 1 o1 (by decide) ho10).2.2.1).trans z4
  have b11 : b 11 (10 + o1) = nI u := ((h.2.2.2.2.2.1 1 o1 (by decide) ho10).2.2.2.1).trans z5
  rcases hk with rfl | rfl | rfl
  · exact absurd rfl k5
  · -- a cancel
    rw [if_neg (show ¬ nI 6 = (7 : Int32) by decide), if_neg (show ¬ (a 24 (40 + o1) = nI 0 ∨ lft a (40 + o1) = nI 0 ∨ nI 6 = nI 7 ∧ ¬ a 27 (40 + o1) + a 28 (40 + o1) < a 16 q) from fun hh => hh.elim c24 (fun hh => hh.elim hL0 (fun hh => absurd hh.1 (by decide)))), if_pos rfl]
    unfold b_L_house_225
    rw [if_pos (show nI 6 = (6 : Int32) from rfl)]
    simp only [i20, c10, cond_true, yl]
    have hB := lr_out (z := 1) (v := b 11 (10 + o1) + nI (z - d - u)) h ho10
    have ev : b 11 (10 + o1) + nI (z - d - u) = a 28 (40 + o1) + lft a (40 + o1) := by rw [b11, z5, zL]
    have hphi1 : phi (up2 a 28 (40 + o1) (a 28 (40 + o1) + lft a (40 + o1))) ≤ phi a := phi_c (fun q' _ e => e) (fun o' ho' e1 e2 => by
      have hne : o' ≠ o1 := fun e => hL0 (by rw [← e]; exact e2)
      refine ⟨e1, ?_⟩
      unfold lft at e2 ⊢
      rw [show up2 a 28 (40 + o1) (a 28 (40 + o1) + (a 26 (40 + o1) - a 27 (40 + o1) - a 28 (40 + o1))) 28 (40 + o') = a 28 (40 + o') from up2_n _ _ (by omega)]
      exact e2)
    obtain ⟨b', s1, s2, -⟩ := lk_rep (w := w) (o := o1) (σ := 2) (x := z - d - u) (y := 0) (n := n) (k := k) hB ho10 (by decide) (by omega) (by decide) hu hg (by omega) (by omega)
    refine ⟨b', ?_, ?_, ?_⟩
    · have s1' : f_L_send w (up2 b 11 (10 + o1) (b 11 (10 + o1) + nI (z - d - u))) (1 : Int32) (8 : Int32) (2 : Int32) (nI o1) (nI (z - d - u)) (0 : Int32) = some (b', 0) := s1
      rw [s1']
      rfl
    · rw [zL] at ev ⊢
      rw [← ev]
      exact s2
    · rw [phi_rep, gRep_r _ _ _ _ _ 0 (by decide) (by decide) (by decide) (by decide) (by decide)]
      show tn (a 0 35) + _ ≤ 60
      omega
  · -- a replace
    rw [if_pos (show nI 7 = (7 : Int32) from rfl), p21]
    simp only [Option.bind_some, i20, c10, cond_true, b10, b11]
    by_cases cs : a 27 (40 + o1) + a 28 (40 + o1) < a 16 q
    · have cs' : nI d + nI u < nI o3 := by rw [← z4, ← z5, ← h16]; exact cs
      rw [if_pos cs', if_neg (show ¬ (a 24 (40 + o1) = nI 0 ∨ lft a (40 + o1) = nI 0 ∨ True ∧ ¬ a 27 (40 + o1) + a 28 (40 + o1) < a 16 q) from fun hh => hh.elim c24 (fun hh => hh.elim hL0 (fun hh => hh.2 cs))), if_neg (show ¬ nI 7 = nI 6 by decide)]
      rw [nI_add] at cs'
      have cs2 := (nI_ltI (by omega) (by omega)).mp cs'
      unfold b_L_house_225
      rw [if_neg (show ¬ nI 7 = (6 : Int32) by decide)]
      have hB := lr_behind (o := o1) (P := o2) (Z := o3) (R := R) h hoT m4 m5 y5 (by omega)
      have eb : bhB b o1 o2 o3 R = up2 (up2 (up2 (up2 b 8 (10 + o1) (nI o2)) 9 (10 + o1) (nI o3)) 12 o1 ((up2 (up2 b 8 (10 + o1) (nI o2)) 9 (10 + o1) (nI o3) 12 o1 &&& (255 : Int32)) ||| (nI R <<< ((8 : Int32) &&& 31)))) 1 21 (nI (R + 1)) := rfl
      rw [← h15, ← h16] at hB
      generalize hgb : gBehind (up2 (up2 a 25 (40 + o1) (a 15 q)) 26 (40 + o1) (a 16 q)) o1 = A at hB ⊢
      have F : ∀ k i : Nat, ¬ ((k = 24 ∨ k = 25 ∨ k = 26) ∧ i = 40 + o1) → ¬ (k = 31 ∧ i = o1) → ¬ (k = 0 ∧ i = 32) → A k i = a k i := fun k i w1 w2 w3 => by
        rw [← hgb]
        unfold gBehind
        rw [up2_n _ _ w3, up2_n _ _ w2, up2_n _ _ (by omega), up2_n _ _ (by omega)]
      have n24 : A 24 (40 + o1) ≠ nI 0 := by
        rw [← hgb]
        unfold gBehind
        rw [up2_n _ _ (by omega), up2_n _ _ (by omega), up2_n _ _ (by omega), up2_n _ _ (by omega)]
        exact c24
      have n26 : A 26 (40 + o1) = nI o3 := by
        rw [← hgb]
        unfold gBehind
        rw [up2_n _ _ (by omega), up2_n _ _ (by omega), up2_s, h16]
      have n31 : A 31 o1 = nI R := by
        rw [← hgb]
        unfold gBehind
        rw [up2_n _ _ (by omega), up2_s, up2_n _ _ (by omega), up2_n _ _ (by omega), y5]
      have n32 : A 0 32 = nI (R + 1) := by
        rw [← hgb]
        unfold gBehind
        rw [up2_s, up2_n _ _ (by omega), up2_n _ _ (by omega), y5]
        exact nI_add R 1
      have hM1 := MI_hb ho F n24 n26 (by omega) (fun d' u' w1 w2 _ _ => by
        have ed : d' = d := (nI_eq (by omega) (by omega)).mp (w1.symm.trans z4)
        have eu : u' = u := (nI_eq (by omega) (by omega)).mp (w2.symm.trans z5)
        omega) n31 n32 hR hM
      have hphi1 : phi A ≤ phi a := phi_c (fun q' _ e => (F _ _ (by omega) (by omega) (by omega)).trans e) (fun o' ho' e1 e2 => by
        have hne : o' ≠ o1 := fun e => hL0 (by rw [← e]; exact e2)
        unfold lft at e2 ⊢
        rw [F _ _ (by omega) (by omega) (by omega), F _ _ (by omega) (by omega) (by omega), F _ _ (by omega) (by omega) (by omega), F _ _ (by omega) (by omega) (by omega)]
        exact ⟨e1, e2⟩)
      have hgA : rgo A 1 n k := rgo_of hg (F _ _ (by omega) (by omega) (by omega)) (F _ _ (by omega) (by omega) (by omega)) (F _ _ (by omega) (by omega) (by omega))
      obtain ⟨b', f1, f2, f3⟩ := lk_newb (w := w) (σ := 3) (x := o2) (y := o3) hB hM1 hw ho n24 (Or.inr rfl) m4 m5 (by rw [F _ _ (by omega) (by omega) (by omega)]; exact hu) hgA hN hc (by unfold lgN; rw [F _ _ (by omega) (by omega) (by omega)]; exact hl) (by omega)
      rw [h15, h16]
      refine ⟨b', ?_, f2, f3⟩
      rw [← f1, eb]
      have w29 : up2 (up2 b 8 (10 + o1) (nI o2)) 9 (10 + o1) (nI o3) 1 21 = nI R := e21
      have w21 : up2 (up2 (up2 b 8 (10 + o1) (nI o2)) 9 (10 + o1) (nI o3)) 12 o1 ((up2 (up2 b 8 (10 + o1) (nI o2)) 9 (10 + o1) (nI o3) 12 o1 &&& (255 : Int32)) ||| (nI R <<< ((8 : Int32) &&& 31))) 1 21 = nI R := e21
      have w8 : ∀ V W : Int32, up2 (up2 (up2 (up2 b 8 (10 + o1) (nI o2)) 9 (10 + o1) (nI o3)) 12 o1 V) 1 21 W 8 (10 + o1) = nI o2 := fun V W => (up2_n _ _ (by omega)).trans ((up2_n _ _ (by omega)).trans ((up2_n _ _ (by omega)).trans (up2_s _ _ _ _)))
      have w9 : ∀ V W : Int32, up2 (up2 (up2 (up2 b 8 (10 + o1) (nI o2)) 9 (10 + o1) (nI o3)) 12 o1 V) 1 21 W 9 (10 + o1) = nI o3 := fun V W => (up2_n _ _ (by omega)).trans ((up2_n _ _ (by omega)).trans (up2_s _ _ _ _))
      simp only [p13, p21, Option.bind_some, i20, i10, c1, c10, show ixB (21 : Int32) 22 = true from rfl, show (21 : Int32).toNatClampNeg = 21 from rfl, cond_true, yl, w29, w21, show nI R + (1 : Int32) = nI (R + 1) from nI_add R 1, w8, w9]
      rfl
    · have cs' : ¬ nI d + nI u < nI o3 := by rw [← z4, ← z5, ← h16]; exact cs
      rw [if_neg cs', if_pos (Or.inr (Or.inr ⟨trivial, cs⟩))]
      exact ⟨b7, f71, f72, f73⟩
