/-! A new order: class and reference. -/
/-- orders that aren't yet have empty registers -/
def frO (a : AS) : Prop := ∀ o : Nat, tn (a 0 22) ≤ o → o < 40 → a 24 o = nI 0 ∧ a 24 (40 + o) = nI 0 ∧ a 29 o = nI 0 ∧ a 30 o = nI 0 ∧ a 27 o = nI 0 ∧ a 28 o = nI 0 ∧ a 25 (40 + o) = nI 0 ∧ a 26 (40 + o) = nI 0 ∧ a 27 (40 + o) = nI 0 ∧ a 28 (40 + o) = nI 0
def gNewO (a : AS) (k : Nat) (x1 x2 x3 : Int32) : AS := up2 (up2 (up2 (up2 (up2 a 0 0 (nI 0)) 23 k x1) 25 k x2) 26 k x3) 0 22 (nI (k + 1))
theorem k_newO {w k : Nat} {μ : MP} {ν : NC} {a : AS} {x1 x2 x3 : Int32} (hR : RR μ ν a) (h22 : a 0 22 = nI k) (hk : k < 40) (hfo : frO a) (hx : x1 = nI 0 ∨ x1 = nI 1) :
    ∃ (μ' : MP) (ν' : NC), f_Jx4a65c_add_9ea2d w (nwOrd μ ν (nI k) x1 x2 x3).1 (nwOrd μ ν (nI k) x1 x2 x3).2 2 (ν.2 20 + 1) = some ((μ', ν'), 1) ∧ RR μ' ν' (gNewO a k x1 x2 x3) ∧ ν'.2 6 = ν.2 6 ∧ ν'.2 20 = k + 1 ∧ ∀ c y : Int, RC c y ν → RC c y ν' := by
  obtain ⟨h0, hF, h1, h2, h3, h4, h5, h6, h7, h8, h9⟩ := id hR
  obtain ⟨z0, z1, z2, z3, z4, z5, z10, z11, z12, z13, z24, z25, z30, z300, z31, z310, z68, z21⟩ := id h0
  obtain ⟨y1, n, y2, y3, y4, y5, y6, y7, y8⟩ := id h6
  have hn : n = k := (nI_eq (by omega) (by omega)).mp (y2.symm.trans h22)
  subst hn
  have tn22 : tn (a 0 22) = n := by rw [h22, tnI (by omega)]
  generalize hM : nwOrd μ ν (nI n) x1 x2 x3 = MN
  have m1 : ∀ i, i ≠ 20 → i ≠ 21 → MN.1.1 i = μ.1 i := fun i i1 i2 => by rw [← hM]; funext j; simp (disch := omega) only [nwOrd, up2_n]
  have m20n : ∀ j, j ≠ n → MN.1.1 20 j = μ.1 20 j := fun j hj => by rw [← hM]; simp (disch := omega) only [nwOrd, y4, up2_n]
  have m20s : MN.1.1 20 n = oF (nI n) x1 := by rw [← hM]; simp (disch := omega) only [nwOrd, y4, up2_s]
  have m21n : ∀ j, j ≠ 2 * n → j ≠ 2 * n + 1 → MN.1.1 21 j = μ.1 21 j := fun j h1 h2 => by rw [← hM]; simp (disch := omega) only [nwOrd, y4, up2_n]
  have m21a : MN.1.1 21 (2 * n) = bF x2 x3 := by rw [← hM]; simp (disch := omega) only [nwOrd, y4, up2_n, up2_s]
  have m21b : MN.1.1 21 (2 * n + 1) = bF 0 0 := by rw [← hM]; simp (disch := omega) only [nwOrd, y4, up2_n, up2_s]
  have m2 : MN.1.2 = μ.2 := by rw [← hM]; rfl
  have n1 : ∀ i, i ≠ 98 → MN.2.1 i = ν.1 i := fun i hi => by rw [← hM]; funext j; simp (disch := omega) only [nwOrd, chg, up2_n]
  have n2 : ∀ i, i ≠ 20 → i ≠ 21 → MN.2.2 i = ν.2 i := fun i i1 i2 => by rw [← hM]; simp (disch := omega) only [nwOrd, chg, up1_n]
  have n220 : MN.2.2 20 = n + 1 := by rw [← hM]; simp (disch := omega) only [nwOrd, chg, y4, up1_s]
  have n221 : MN.2.2 21 = 2 * (n + 1) := by rw [← hM]; simp (disch := omega) only [nwOrd, chg, y4, up1_s, up1_n]; omega
  have nc : ∀ c y : Int, RC c y ν → RC c y MN.2 := fun c y hC => by
    rw [← hM]
    obtain ⟨g1, g2⟩ := hC
    refine ⟨?_, ?_⟩
    · simp (disch := omega) only [kc, nwOrd, chg, up2_n, up2_s, up1_s, up1_n] at g1 ⊢
      omega
    · simp (disch := omega) only [ks, nwOrd, chg, up2_n, up2_s, up1_s, up1_n] at g2 ⊢
      omega
  clear hM
  have h0' : R0 MN.2 := by
    unfold R0
    rw [n1 30 (by decide), n1 31 (by decide), n2 0 (by decide) (by decide), n2 1 (by decide) (by decide), n2 2 (by decide) (by decide), n2 3 (by decide) (by decide), n2 4 (by decide) (by decide), n2 5 (by decide) (by decide), n2 10 (by decide) (by decide), n2 11 (by decide) (by decide), n2 12 (by decide) (by decide), n2 13 (by decide) (by decide), n2 24 (by decide) (by decide), n2 25 (by decide) (by decide), n2 30 (by decide) (by decide), n2 31 (by decide) (by decide), n2 6 (by decide) (by decide), n2 8 (by decide) (by decide), n220, n221]
    exact ⟨z0, z1, z2, z3, z4, z5, z10, z11, z12, z13, z24, z25, z30, z300, z31, z310, z68, rfl⟩
  have e52 : eK 5 2 = 20 := rfl
  obtain ⟨μ2, ν2, a1, a2, a3, a4, a5, a6, a7, a8, a9, a10, a11, a12, a13, a14, a15⟩ := k_add (w := w) (μ := MN.1) (ν := MN.2) (i := 2) (p := ν.2 20 + 1) (n := n) h0' (by decide) (by rw [m1 4 (by decide) (by decide)]; exact y1.trans y2) (by omega) (by rw [n1 5 (by decide)]; exact y5) (by rw [n1 5 (by decide)]; exact y6) (by omega) (by rw [e52, n220]; omega) (fun z => by rw [e52, n220, m2]; have := y7 z; omega)
  rw [e52, n220] at a5
  have v1 : ∀ i, i ≠ 4 ∧ i ≠ 20 ∧ i ≠ 21 → μ2.1 i = μ.1 i := fun i hi => by rw [a8 i hi.1, m1 i hi.2.1 hi.2.2]
  have v4 : ∀ j, j ≠ 2 → μ2.1 4 j = μ.1 4 j := fun j hj => by rw [a9 j hj, m1 4 (by decide) (by decide)]
  have vp : ∀ i, i ≠ 5 → μ2.2 i = μ.2 i := fun i hi => by rw [a10 i hi, m2]
  have vp5 : ∀ j, j ≠ 2 → μ2.2 5 j = μ.2 5 j := fun j hj => by rw [a11 j hj, m2]
  have w1 : ∀ i, i ≠ 5 → i ≠ 98 → ν2.1 i = ν.1 i := fun i i1 i2 => by rw [a13 i i1 i2, n1 i i2]
  have w15 : ∀ j, j ≠ 2 → ν2.1 5 j = ν.1 5 j := fun j hj => by rw [a14 j hj, n1 5 (by decide)]
  have w2 : ∀ i, i ≠ 20 → i ≠ 21 → ν2.2 i = ν.2 i := fun i i1 i2 => by rw [a12, n2 i i1 i2]
  have w20 : ν2.2 20 = n + 1 := by rw [a12, n220]
  have g0 : ∀ i, i ≠ 0 → i ≠ 22 → gNewO a n x1 x2 x3 0 i = a 0 i := fun i i1 i2 => by unfold gNewO; simp (disch := omega) only [up2_n]
  have g22 : gNewO a n x1 x2 x3 0 22 = nI (n + 1) := up2_s _ _ _ _
  have gr : ∀ i, i ≠ 0 ∧ i ≠ 23 ∧ i ≠ 25 ∧ i ≠ 26 → gNewO a n x1 x2 x3 i = a i := fun i hi => by unfold gNewO; funext j; simp (disch := omega) only [up2_n]
  have g23 : gNewO a n x1 x2 x3 23 = up1 (a 23) n x1 := rfl
  have g25 : gNewO a n x1 x2 x3 25 = up1 (a 25) n x2 := rfl
  have g26 : gNewO a n x1 x2 x3 26 = up1 (a 26) n x3 := rfl
  have tg : tn (gNewO a n x1 x2 x3 0 22) = n + 1 := by rw [g22, tnI (by omega)]
  refine ⟨μ2, ν2, a1, ?_, w2 6 (by decide) (by decide), w20, fun c y hC => a15 _ _ (nc c y hC)⟩
  refine ⟨?_, ?_, ?_, ?_, ?_, ?_, ?_, ?_, ?_, ?_, ?_⟩
  · unfold R0
    rw [w1 30 (by decide) (by decide), w1 31 (by decide) (by decide), a12]
    have := h0'
    unfold R0 at this
    rw [n1 30 (by decide), n1 31 (by decide)] at this
    exact this
  · intro κ hκ k' i' j hk' hi'
    have hle : ν.2 κ ≤ ν2.2 κ := by
      by_cases c : κ = 20
      · subst c; rw [w20]; omega
      · rw [w2 κ c (by omega)]; exact Nat.le_refl _
    by_cases c5 : k' = 5
    · subst c5
      by_cases ci : i' = 2
      · subst ci
        have : κ = 20 := hi'.symm
        subst this
        rw [w20]
        exact a5 j
      · rw [vp5 i' ci]
        exact Nat.le_trans (hF κ hκ 5 i' j hk' hi') hle
    · rw [vp k' c5]
      exact Nat.le_trans (hF κ hκ k' i' j hk' hi') hle
  · rw [v1 0 (by decide), g0 2 (by decide) (by decide), g0 1 (by decide) (by decide), g0 44 (by decide) (by decide)]; exact h1
  · rw [v1 1 (by decide), g0 2 (by decide) (by decide), gr 3 (by decide), gr 5 (by decide), gr 7 (by decide), gr 8 (by decide), gr 9 (by decide), gr 10 (by decide)]; exact h2
  · rw [v1 6 (by decide), v1 8 (by decide), w1 8 (by decide) (by decide), w2 6 (by decide) (by decide), gr 4 (by decide), gr 11 (by decide), gr 12 (by decide), gr 13 (by decide), gr 14 (by decide), gr 15 (by decide), gr 16 (by decide), gr 17 (by decide), gr 37 (by decide), gr 39 (by decide), gr 40 (by decide)]
    refine ⟨fun s hs => ?_, fun s s' i i' hs hs' hi hi' hp => ?_⟩
    · rw [v4 s (by omega), vp5 s (by omega), w15 s (by omega)]; exact h3.1 s hs
    · rw [vp5 s (by omega), vp5 s' (by omega)] at hp; exact h3.2 s s' i i' hs hs' hi hi' hp
  · rw [v1 2 (by decide), v1 10 (by decide), v1 11 (by decide), v1 12 (by decide), w1 10 (by decide) (by decide), w1 11 (by decide) (by decide), w1 12 (by decide) (by decide), gr 19 (by decide), gr 20 (by decide), gr 21 (by decide)]; exact h4
  · rw [v1 3 (by decide), v1 13 (by decide), w1 13 (by decide) (by decide), gr 5 (by decide), gr 6 (by decide), gr 18 (by decide)]; exact h5
  · rw [g22, w20, g23, g25, g26, gr 24 (by decide), gr 27 (by decide), gr 28 (by decide), gr 29 (by decide), gr 30 (by decide), a8 20 (by decide), a8 21 (by decide)]
    refine ⟨a2, n + 1, rfl, by omega, rfl, a6, a7, a5, fun o' ho' => ?_⟩
    by_cases c : o' = n
    · subst c
      obtain ⟨q1', q2', q3', q4', q5', q6', q7', q8', q9', q10'⟩ := hfo o' (by omega) hk
      rw [a4, m20s, up1_s]
      refine ⟨by omega, rfl, rfl, hx, q1'.symm, q3'.symm, q2'.symm, q4'.symm, fun z hz => ?_⟩
      rcases (show z = 0 ∨ z = 1 by omega) with rfl | rfl
      · rw [show 40 * 0 + o' = o' by omega, Nat.add_zero, m21a, up1_s, up1_s]
        exact ⟨rfl, rfl, q5'.symm, q6'.symm⟩
      · rw [show 40 * 1 + o' = 40 + o' by omega, m21b, up1_n _ _ (by omega), up1_n _ _ (by omega)]
        exact ⟨q7'.symm, q8'.symm, q9'.symm, q10'.symm⟩
    · obtain ⟨t1, t2, t3, t4, t5, t6, t7, t8, t9⟩ := y8 o' (by omega)
      rw [a3 o' (by omega), m2, m20n o' c, up1_n _ _ c]
      refine ⟨t1, t2, t3, t4, t5, t6, t7, t8, fun z hz => ?_⟩
      obtain ⟨u1, u2, u3, u4⟩ := t9 z hz
      rw [m21n _ (by omega) (by omega), up1_n _ _ (by omega), up1_n _ _ (by omega)]
      exact ⟨u1, u2, u3, u4⟩
  · rw [g22, g0 35 (by decide) (by decide), w2 23 (by decide) (by decide), v1 23 (by decide), vp 23 (by decide), gr 36 (by decide), gr 37 (by decide), gr 38 (by decide), gr 39 (by decide), gr 40 (by decide), gr 41 (by decide), gr 42 (by decide), gr 43 (by decide)]
    obtain ⟨r1, r, r2, r3, r4, r5, r6, r7, r8⟩ := h7
    refine ⟨by rw [v4 5 (by decide)]; exact r1, r, r2, r3, r4, by rw [w15 5 (by decide)]; exact r5, by rw [w15 5 (by decide)]; exact r6, by rw [vp5 5 (by decide)]; exact r7, fun e he => ?_⟩
    obtain ⟨t1, t2, t3, t4⟩ := r8 e he
    rw [vp5 5 (by decide)]
    refine ⟨t1, t2, ?_, t4⟩
    rw [tn22] at t3
    rw [tnI (by omega)]
    omega
  · rw [vp 24 (by decide), w1 24 (by decide) (by decide), v1 25 (by decide), gr 33 (by decide), gr 34 (by decide)]; exact h8
  · rw [g22, g0 32 (by decide) (by decide), w20, g23, g25, gr 24 (by decide), gr 31 (by decide)]
    intro d hd
    obtain ⟨j, j1, j2, j3, j4, j5, j6, j7, j8⟩ := h9 d hd
    rw [tn22] at j6 j7
    rw [v4 _ (by omega), vp5 _ (by omega), w15 _ (by omega), tnI (by omega)]
    refine ⟨j, j1, j2, j3, j4, fun z => by have := j5 z; omega, fun i hi => ?_, fun o' p1 p2 p3 => ?_, fun i i' hij hj => ?_⟩
    · obtain ⟨o', p1, p2, p3, p4⟩ := j6 i hi
      exact ⟨o', p1, by omega, p3, by rw [up1_n _ _ (by omega)]; exact p4⟩
    · by_cases c : o' = n
      · subst c
        exact absurd (hfo o' (by omega) hk).2.1 p2
      · rw [up1_n _ _ c] at p3
        exact j7 o' (by omega) p2 p3
    · obtain ⟨o1, p1, p2, -⟩ := j6 i (by omega)
      obtain ⟨o2, q1', q2', -⟩ := j6 i' hj
      have := j8 i i' hij hj
      rw [p1, q1', Nat.add_sub_cancel, Nat.add_sub_cancel] at this ⊢
      unfold aheadR at this ⊢
      rw [up1_n _ _ (show o1 ≠ n by omega), up1_n _ _ (show 40 + o1 ≠ n by omega), up1_n _ _ (show 40 + o2 ≠ n by omega)]
      exact this
def gOrder (a : AS) (k : Nat) (x1 x2 x3 : Int32) : AS := gSends (gNewO a k x1 x2 x3) 0 (nI 5) (nI k) x1 x2 x3
theorem k_order {w k : Nat} {μ : MP} {ν : NC} {a : AS} {x1 x2 x3 : Int32} (hR : RR μ ν a) (h22 : a 0 22 = nI k) (hk : k < 40) (hfo : frO a) (hx : x1 = nI 0 ∨ x1 = nI 1) (h2 : ¬ rgX x2 1 100) (h3 : ¬ rgX x3 1 100) (hon : ¬ a 3 0 = nI 0) (hrm : roomS a 0 1) :
    ∃ (μ' : MP) (ν' : NC), f_X8_order w μ ν x1 x2 x3 = some (0, ((μ', ν'), nI k)) ∧ RR μ' ν' (gOrder a k x1 x2 x3) ∧ bal ν' (gOrder a k x1 x2 x3) = bal ν a ∧ ∀ c y : Int, RC c y ν → RC c y ν' := by
  obtain ⟨z0, z1, z2, z3, z4, -⟩ := id hR.1
  have z21 := hR.1.2.2.2.2.2.2.2.2.2.2.2.2.2.2.2.2.2
  have m3 : μ.1 1 0 3 = a 3 0 := (hR.2.2.2.1 0 (by decide)).1
  obtain ⟨y1, n, y2, y3, y4, -⟩ := hR.2.2.2.2.2.2.2.1
  have hn : n = k := (nI_eq (by omega) (by omega)).mp (y2.symm.trans h22)
  subst hn
  obtain ⟨μ1, ν1, t1, t2, t3, t4, t5⟩ := k_newO (w := w) hR h22 hk hfo hx (x2 := x2) (x3 := x3)
  have hrm' : roomS (gNewO a n x1 x2 x3) 0 1 := roomS_of hrm rfl rfl
  obtain ⟨μ', ν', r1, r2, r3, r4, r5, r6⟩ := k_sendL (w := w) (s := 0) (nb := 8) (fb0 := up1 (up1 (up1 (up1 (up1 (up1 (up1 (up1 (fun _ => (0 : Int32)) 0 (11 : Int32)) 1 (nI n)) 2 (54 : Int32)) 3 x1) 4 (44 : Int32)) 5 x2) 6 (38 : Int32)) 7 x3) (kd := nI 5) (o1 := nI n) (o2 := x1) (o3 := x2) (o4 := x3) (RR_chg 1 8 t2) (by decide) hrm' (by omega) (Or.inr (Or.inr (Or.inl ⟨rfl, rfl, rfl, rfl, rfl, rfl, rfl, rfl, rfl, rfl⟩)))
  refine ⟨μ', ν', ?_, r2, (bal_send (ν := ν1) (by decide) hrm' r3).trans (bal_of t3 rfl), fun c y h => RC_le (r6 _ _ (hC8 _ 8 _ _ (t5 _ _ h))) (by omega) (by omega)⟩
  have hok : nwOrdOk μ ν := ⟨z21, hR.2.1 20 (Or.inr (Or.inl rfl)), fun i hi => by
    obtain ⟨-, q, q2, q3, q4, q5, q6, q7, q8⟩ := hR.2.2.2.2.2.2.2.2.1
    have := (q8 i (by omega)).2.2.1
    rw [y2, tnI (by omega)] at this
    omega⟩
  have hbo : boB x1 = true := by rcases hx with rfl | rfl <;> rfl
  have r1' : f_X8_send_L w μ1 (chg ν1 1 8) (0 : Int32) (5 : Int32) 8 (up1 (up1 (up1 (up1 (up1 (up1 (up1 (up1 (fun _ => (0 : Int32)) 0 (11 : Int32)) 1 (nI n)) 2 (54 : Int32)) 3 x1) 4 (44 : Int32)) 5 x2) 6 (38 : Int32)) 7 x3) = some ((μ', ν'), 0) := r1
  have h69 : ∀ s0 : Int32, b_X8_order_69 w μ1 ν1 x1 x2 x3 (nI n) s0 = some ((μ', ν'), nI n) := fun s0 => by
    unfold b_X8_order_69 b_X8_order_77 b_X8_order_103
    rw [show ixB (3 : Int32) 8 = true from by decide, show (chg ν1 1 8).2 = ν1.2 from rfl, ltt t2.1.1, show (3 : Int32).toNatClampNeg = 3 from by decide]
    simp only [cond_true]
    rcases hx with rfl | rfl
    · rw [if_pos (show nI 0 = (0 : Int32) from rfl), show (0 : Int32) = nI 0 from rfl] at *
      rw [r1']
      rfl
    · rw [if_neg (show ¬ nI 1 = (0 : Int32) by decide), show (1 : Int32) = nI 1 from rfl, r1']
      rfl
  unfold f_X8_order
  rw [k_range, if_neg h2]
  simp only [cond_true, Option.bind_some]
  rw [eqs, k_range, if_neg h3]
  simp only [cond_true, Option.bind_some]
  rw [eqs, ltt z0, ltt (show 2 < ν.2 4 by omega), ltt (show 0 < ν.2 1 by omega), m3, y1, h22]
  simp only [cond_true, yl]
  rw [if_neg (show ¬ a 3 0 = (0 : Int32) from hon), if_pos (show nI n < (40 : Int32) from (nI_ltI (show n < 2 ^ 31 by omega) (show 40 < 2 ^ 31 by decide)).mpr hk)]
  unfold b_X8_order_50
  rw [ltt z0, hbo, ltt (show 2 < ν.2 4 by omega), if_pos hok]
  simp only [cond_true]
  unfold b_X8_order_66
  rw [nzs, Nat.add_sub_cancel, show (nwOrd μ ν (nI n) x1 x2 x3).2.2 4 = ν.2 4 from rfl, show (nwOrd μ ν (nI n) x1 x2 x3).2.2 0 = ν.2 0 from rfl, ltt (show 2 < ν.2 4 by omega), ltt z0, show eK 5 2 = 20 from rfl, eqs, t1]
  simp only [cond_true, Option.bind_some]
  rw [h69]
  rfl
/-- the reason that an order fails for: 0 none -/
def orWhy (a : AS) (x2 x3 : Int32) : Nat := if rgX x2 1 100 then 2 else if rgX x3 1 100 then 2 else if a 3 0 = nI 0 then 3 else if a 0 22 = nI 40 then 3 else 0
theorem k_orderX {w k : Nat} {μ : MP} {ν : NC} {a : AS} {x1 x2 x3 : Int32} (hR : RR μ ν a) (h22 : a 0 22 = nI k) (hk : k ≤ 40) (h : orWhy a x2 x3 ≠ 0) : f_X8_order w μ ν x1 x2 x3 = some (orWhy a x2 x3, ((μ, ν), 0)) := by
  obtain ⟨z0, z1, z2, z3, z4, -⟩ := id hR.1
  have m3 : μ.1 1 0 3 = a 3 0 := (hR.2.2.2.1 0 (by decide)).1
  have y1 := hR.2.2.2.2.2.2.2.1.1
  unfold orWhy at h ⊢
  unfold f_X8_order
  rw [k_range]
  simp only [cond_true, Option.bind_some]
  by_cases c : rgX x2 1 100
  · rw [if_pos c, if_pos c]; rfl
  · rw [if_neg c] at h
    rw [if_neg c, if_neg c, eqs, k_range]
    simp only [cond_true, Option.bind_some]
    by_cases c1 : rgX x3 1 100
    · rw [if_pos c1, if_pos c1]; rfl
    · rw [if_neg c1] at h
      rw [if_neg c1, if_neg c1, eqs, ltt z0, ltt (show 2 < ν.2 4 by omega), ltt (show 0 < ν.2 1 by omega), m3, y1, h22]
      rw [h22] at h
      simp only [cond_true, yl]
      by_cases c2 : a 3 0 = nI 0
      · rw [if_pos (show a 3 0 = (0 : Int32) from c2), if_pos c2]; rfl
      · rw [if_neg c2] at h
        rw [if_neg (show ¬ a 3 0 = (0 : Int32) from c2), if_neg c2]
        by_cases c3 : nI k = nI 40
        · have hk40 : k = 40 := (nI_eq (by omega) (by decide)).mp c3
          subst hk40
          rw [if_neg (show ¬ nI 40 < (40 : Int32) from Int32.lt_irrefl), if_pos rfl]
          rfl
        · rw [if_neg c3] at h; exact absurd rfl h
theorem r_order {w k n c : Nat} {a : AS} {x1 x2 x3 : Int32} (h22 : a 0 22 = nI k) (hk : k < 40) (hx : x1 = nI 0 ∨ x1 = nI 1) (h2 : ¬ rgX x2 1 100) (h3 : ¬ rgX x3 1 100) (hon : ¬ a 3 0 = nI 0) (hr : rgo a 0 n c) (hn : n + 1 ≤ 8191) (hc : c ≤ 131072) : f_X9_order w a x1 x2 x3 = some (gOrder a k x1 x2 x3, nI k) := by
  obtain ⟨e4, ⟨h, e19, hh⟩, e20⟩ := hr
  have hs := r_sends (w := w) (a := gNewO a k x1 x2 x3) (s := 0) (n := n) (h := h) (k := c) (kd := nI 5) (o1 := nI k) (o2 := x1) (o3 := x2) (o4 := x3) (by decide) e4 hn e19 hh e20 hc
  have hnar : vp_nar .boolean x1 = x1 := by rcases hx with rfl | rfl <;> decide
  have g22 : gOrder a k x1 x2 x3 0 22 = nI (k + 1) := by
    unfold gOrder
    rw [gSends_k _ _ _ _ _ _ _ _ _ (by decide) (by decide) (by decide) (by decide) (by decide)]
    exact up2_s _ _ _ _
  have h118 : b_X9_order_118 w (gNewO a k x1 x2 x3) x2 x3 x1 (nI k) (nI 5) (nI 0) = some (gOrder a k x1 x2 x3, nI k) := by
    unfold b_X9_order_118
    rw [hs]
    simp only [Option.bind_some]
    rw [show gSends (gNewO a k x1 x2 x3) 0 (nI 5) (nI k) x1 x2 x3 = gOrder a k x1 x2 x3 from rfl, g22, q1, pk_sub (by omega), Nat.add_sub_cancel]
  have h48 : b_X9_order_48 w a x1 x2 x3 (nI 0) = some (gOrder a k x1 x2 x3, nI k) := by
    have s22 : up2 a 0 0 (nI 0) 0 22 = nI k := h22
    have t22 : up2 (up2 a 0 0 (nI 0)) 23 k x1 0 22 = nI k := h22
    have u22 : up2 (up2 (up2 a 0 0 (nI 0)) 23 k x1) 25 k x2 0 22 = nI k := h22
    have v22 : up2 (up2 (up2 (up2 a 0 0 (nI 0)) 23 k x1) 25 k x2) 26 k x3 0 22 = nI k := h22
    unfold b_X9_order_48
    simp only [yl]
    rw [show (0 : Int32) = nI 0 from rfl, show (1 : Int32) = nI 1 from rfl, show (5 : Int32) = nI 5 from rfl, if_pos (show up2 a 0 0 (nI 0) 0 0 ≤ nI 0 by rw [up2_s]; exact Int32.le_refl _), s22, hnar, nI_clamp (show k < 2 ^ 31 by omega), t22, nI_clamp (show k < 2 ^ 31 by omega), u22, nI_clamp (show k < 2 ^ 31 by omega), v22, nI_add, ixn (show k < 40 by omega) (by omega), ixn (show k < 80 by omega) (by omega)]
    simp only [cond_true]
    rw [show up2 (up2 (up2 (up2 (up2 a 0 0 (nI 0)) 23 k x1) 25 k x2) 26 k x3) 0 22 (nI (k + 1)) = gNewO a k x1 x2 x3 from rfl, show gNewO a k x1 x2 x3 0 22 = nI (k + 1) from up2_s _ _ _ _, pk_sub (show 1 ≤ k + 1 by omega), Nat.add_sub_cancel]
    rcases hx with rfl | rfl
    · rw [if_pos (rfl : nI 0 = nI 0)]; exact h118
    · rw [if_neg (show ¬ nI 1 = nI 0 by decide)]; exact h118
  unfold f_X9_order
  rw [r_in, if_neg (show ¬ (x2 < (1 : Int32) ∨ (100 : Int32) < x2) from h2)]
  simp only [Option.bind_some]
  rw [if_neg (show ¬ nI 1 = (0 : Int32) by decide), r_in, if_neg (show ¬ (x3 < (1 : Int32) ∨ (100 : Int32) < x3) from h3)]
  simp only [Option.bind_some]
  rw [if_neg (show ¬ nI 1 = (0 : Int32) by decide), show ixB (0 : Int32) 2 = true from by decide, show (0 : Int32).toNatClampNeg = 0 from by decide, if_neg (show ¬ a 3 0 = (0 : Int32) from hon), h22, if_neg (show ¬ nI k = (40 : Int32) from fun e => by have : k = 40 := (nI_eq (show k < 2 ^ 31 by omega) (show 40 < 2 ^ 31 by decide)).mp e; omega)]
  exact h48
/-- the reference's number of that reason -/
def orWhyR (a : AS) (x2 x3 : Int32) : Nat := if rgX x2 1 100 then 1 else if rgX x3 1 100 then 1 else if a 3 0 = nI 0 then 2 else if a 0 22 = nI 40 then 2 else 0
theorem r_orderX {w : Nat} {a : AS} {x1 x2 x3 : Int32} (h : orWhyR a x2 x3 ≠ 0) : f_X9_order w a x1 x2 x3 = some (up2 a 0 0 (nI (orWhyR a x2 x3)), nI 0) := by
  have h48 : ∀ j : Nat, j = 1 ∨ j = 2 → b_X9_order_48 w a x1 x2 x3 (nI j) = some (up2 a 0 0 (nI j), nI 0) := fun j hj => by
    unfold b_X9_order_48
    simp only [yl]
    rw [up2_s]
    rcases hj with rfl | rfl <;> rw [if_neg (by decide)] <;> rfl
  unfold orWhyR at h ⊢
  unfold f_X9_order
  rw [r_in]
  simp only [Option.bind_some]
  by_cases c : rgX x2 1 100
  · rw [if_pos (show (x2 < (1 : Int32) ∨ (100 : Int32) < x2) from c), if_pos c, if_pos (show nI 0 = (0 : Int32) from rfl)]
    exact h48 1 (Or.inl rfl)
  · rw [if_neg c] at h
    rw [if_neg (show ¬ (x2 < (1 : Int32) ∨ (100 : Int32) < x2) from c), if_neg c, if_neg (show ¬ nI 1 = (0 : Int32) by decide), r_in]
    simp only [Option.bind_some]
    by_cases c1 : rgX x3 1 100
    · rw [if_pos (show (x3 < (1 : Int32) ∨ (100 : Int32) < x3) from c1), if_pos c1, if_pos (show nI 0 = (0 : Int32) from rfl)]
      exact h48 1 (Or.inl rfl)
    · rw [if_neg c1] at h
      rw [if_neg (show ¬ (x3 < (1 : Int32) ∨ (100 : Int32) < x3) from c1), if_neg c1, if_neg (show ¬ nI 1 = (0 : Int32) by decide), show ixB (0 : Int32) 2 = true from by decide, show (0 : Int32).toNatClampNeg = 0 from by decide]
      simp only [cond_true]
      by_cases c2 : a 3 0 = nI 0
      · rw [if_pos (show a 3 0 = (0 : Int32) from c2), if_pos c2]
        exact h48 2 (Or.inr rfl)
      · rw [if_neg c2] at h
        rw [if_neg (show ¬ a 3 0 = (0 : Int32) from c2), if_neg c2]
        by_cases c3 : a 0 22 = nI 40
        · rw [if_pos (show a 0 22 = (40 : Int32) from c3), if_pos c3]
          exact h48 2 (Or.inr rfl)
        · rw [if_neg c3] at h; exact absurd rfl h
